/-! ===== decode rows of StepHeap$Mover ===== -/
theorem d_M_init_0 : decode b_M_init 0 = .ok (.aload_n 0, 1) := by decide +kernel
theorem d_M_init_1 : decode b_M_init 1 = .ok (.invokespecial 3, 3) := by decide +kernel
theorem d_M_init_4 : decode b_M_init 4 = .ok (.aload_n 0, 1) := by decide +kernel
theorem d_M_init_5 : decode b_M_init 5 = .ok (.bipush 8, 2) := by decide +kernel
theorem d_M_init_7 : decode b_M_init 7 = .ok (.newarray .int, 2) := by decide +kernel
theorem d_M_init_9 : decode b_M_init 9 = .ok (.putfield 9, 3) := by decide +kernel
theorem d_M_init_12 : decode b_M_init 12 = .ok (.aload_n 0, 1) := by decide +kernel
theorem d_M_init_13 : decode b_M_init 13 = .ok (.iconst 0, 1) := by decide +kernel
theorem d_M_init_14 : decode b_M_init 14 = .ok (.putfield 15, 3) := by decide +kernel
theorem d_M_init_17 : decode b_M_init 17 = .ok (.aload_n 0, 1) := by decide +kernel
theorem d_M_init_18 : decode b_M_init 18 = .ok (.iconst 0, 1) := by decide +kernel
theorem d_M_init_19 : decode b_M_init 19 = .ok (.putfield 19, 3) := by decide +kernel
theorem d_M_init_22 : decode b_M_init 22 = .ok (.aload_n 0, 1) := by decide +kernel
theorem d_M_init_23 : decode b_M_init 23 = .ok (.new 22, 3) := by decide +kernel
theorem d_M_init_26 : decode b_M_init 26 = .ok (.dup, 1) := by decide +kernel
theorem d_M_init_27 : decode b_M_init 27 = .ok (.iconst 2, 1) := by decide +kernel
theorem d_M_init_28 : decode b_M_init 28 = .ok (.iload_n 1, 1) := by decide +kernel
theorem d_M_init_29 : decode b_M_init 29 = .ok (.imul, 1) := by decide +kernel
theorem d_M_init_30 : decode b_M_init 30 = .ok (.sipush 700, 3) := by decide +kernel
theorem d_M_init_33 : decode b_M_init 33 = .ok (.iload_n 2, 1) := by decide +kernel
theorem d_M_init_34 : decode b_M_init 34 = .ok (.imul, 1) := by decide +kernel
theorem d_M_init_35 : decode b_M_init 35 = .ok (.sipush 200, 3) := by decide +kernel
theorem d_M_init_38 : decode b_M_init 38 = .ok (.iadd, 1) := by decide +kernel
theorem d_M_init_39 : decode b_M_init 39 = .ok (.invokespecial 24, 3) := by decide +kernel
theorem d_M_init_42 : decode b_M_init 42 = .ok (.putfield 27, 3) := by decide +kernel
theorem d_M_init_45 : decode b_M_init 45 = .ok (.aload_n 0, 1) := by decide +kernel
theorem d_M_init_46 : decode b_M_init 46 = .ok (.iload_n 1, 1) := by decide +kernel
theorem d_M_init_47 : decode b_M_init 47 = .ok (.putfield 31, 3) := by decide +kernel
theorem d_M_init_50 : decode b_M_init 50 = .ok (.aload_n 0, 1) := by decide +kernel
theorem d_M_init_51 : decode b_M_init 51 = .ok (.iload_n 2, 1) := by decide +kernel
theorem d_M_init_52 : decode b_M_init 52 = .ok (.putfield 34, 3) := by decide +kernel
theorem d_M_init_55 : decode b_M_init 55 = .ok (.aload_n 0, 1) := by decide +kernel
theorem d_M_init_56 : decode b_M_init 56 = .ok (.iload_n 3, 1) := by decide +kernel
theorem d_M_init_57 : decode b_M_init 57 = .ok (.putfield 37, 3) := by decide +kernel
theorem d_M_init_60 : decode b_M_init 60 = .ok (.aload_n 0, 1) := by decide +kernel
theorem d_M_init_61 : decode b_M_init 61 = .ok (.iconst 1, 1) := by decide +kernel
theorem d_M_init_62 : decode b_M_init 62 = .ok (.invokevirtual 40, 3) := by decide +kernel
theorem d_M_init_65 : decode b_M_init 65 = .ok (.return_, 1) := by decide +kernel
theorem d_M_register_0 : decode b_M_register 0 = .ok (.iload_n 1, 1) := by decide +kernel
theorem d_M_register_1 : decode b_M_register 1 = .ok (.invokestatic 44, 3) := by decide +kernel
theorem d_M_register_4 : decode b_M_register 4 = .ok (.ifCond .eq 12, 3) := by decide +kernel
theorem d_M_register_7 : decode b_M_register 7 = .ok (.aload_n 0, 1) := by decide +kernel
theorem d_M_register_8 : decode b_M_register 8 = .ok (.getfield 9, 3) := by decide +kernel
theorem d_M_register_11 : decode b_M_register 11 = .ok (.iload_n 1, 1) := by decide +kernel
theorem d_M_register_12 : decode b_M_register 12 = .ok (.iaload, 1) := by decide +kernel
theorem d_M_register_13 : decode b_M_register 13 = .ok (.goto 4, 3) := by decide +kernel
theorem d_M_register_16 : decode b_M_register 16 = .ok (.iconst 0, 1) := by decide +kernel
theorem d_M_register_17 : decode b_M_register 17 = .ok (.ireturn, 1) := by decide +kernel
theorem d_M_setRegister_0 : decode b_M_setRegister 0 = .ok (.iload_n 1, 1) := by decide +kernel
theorem d_M_setRegister_1 : decode b_M_setRegister 1 = .ok (.invokestatic 44, 3) := by decide +kernel
theorem d_M_setRegister_4 : decode b_M_setRegister 4 = .ok (.ifCond .eq 10, 3) := by decide +kernel
theorem d_M_setRegister_7 : decode b_M_setRegister 7 = .ok (.aload_n 0, 1) := by decide +kernel
theorem d_M_setRegister_8 : decode b_M_setRegister 8 = .ok (.getfield 9, 3) := by decide +kernel
theorem d_M_setRegister_11 : decode b_M_setRegister 11 = .ok (.iload_n 1, 1) := by decide +kernel
theorem d_M_setRegister_12 : decode b_M_setRegister 12 = .ok (.iload_n 2, 1) := by decide +kernel
theorem d_M_setRegister_13 : decode b_M_setRegister 13 = .ok (.iastore, 1) := by decide +kernel
theorem d_M_setRegister_14 : decode b_M_setRegister 14 = .ok (.return_, 1) := by decide +kernel
theorem d_M_moved_0 : decode b_M_moved 0 = .ok (.aload_n 0, 1) := by decide +kernel
theorem d_M_moved_1 : decode b_M_moved 1 = .ok (.getfield 48, 3) := by decide +kernel
theorem d_M_moved_4 : decode b_M_moved 4 = .ok (.aload_n 0, 1) := by decide +kernel
theorem d_M_moved_5 : decode b_M_moved 5 = .ok (.getfield 51, 3) := by decide +kernel
theorem d_M_moved_8 : decode b_M_moved 8 = .ok (.isub, 1) := by decide +kernel
theorem d_M_moved_9 : decode b_M_moved 9 = .ok (.ireturn, 1) := by decide +kernel
theorem d_M_isDone_0 : decode b_M_isDone 0 = .ok (.aload_n 0, 1) := by decide +kernel
theorem d_M_isDone_1 : decode b_M_isDone 1 = .ok (.getfield 54, 3) := by decide +kernel
theorem d_M_isDone_4 : decode b_M_isDone 4 = .ok (.aload_n 0, 1) := by decide +kernel
theorem d_M_isDone_5 : decode b_M_isDone 5 = .ok (.getfield 48, 3) := by decide +kernel
theorem d_M_isDone_8 : decode b_M_isDone 8 = .ok (.if_icmp .ne 23, 3) := by decide +kernel
theorem d_M_isDone_11 : decode b_M_isDone 11 = .ok (.aload_n 0, 1) := by decide +kernel
theorem d_M_isDone_12 : decode b_M_isDone 12 = .ok (.getfield 34, 3) := by decide +kernel
theorem d_M_isDone_15 : decode b_M_isDone 15 = .ok (.aload_n 0, 1) := by decide +kernel
theorem d_M_isDone_16 : decode b_M_isDone 16 = .ok (.getfield 15, 3) := by decide +kernel
theorem d_M_isDone_19 : decode b_M_isDone 19 = .ok (.imul, 1) := by decide +kernel
theorem d_M_isDone_20 : decode b_M_isDone 20 = .ok (.aload_n 0, 1) := by decide +kernel
theorem d_M_isDone_21 : decode b_M_isDone 21 = .ok (.invokevirtual 57, 3) := by decide +kernel
theorem d_M_isDone_24 : decode b_M_isDone 24 = .ok (.if_icmp .lt 7, 3) := by decide +kernel
theorem d_M_isDone_27 : decode b_M_isDone 27 = .ok (.iconst 1, 1) := by decide +kernel
theorem d_M_isDone_28 : decode b_M_isDone 28 = .ok (.goto 4, 3) := by decide +kernel
theorem d_M_isDone_31 : decode b_M_isDone 31 = .ok (.iconst 0, 1) := by decide +kernel
theorem d_M_isDone_32 : decode b_M_isDone 32 = .ok (.ireturn, 1) := by decide +kernel
theorem d_M_hasRoom_0 : decode b_M_hasRoom 0 = .ok (.aload_n 0, 1) := by decide +kernel
theorem d_M_hasRoom_1 : decode b_M_hasRoom 1 = .ok (.invokevirtual 61, 3) := by decide +kernel
theorem d_M_hasRoom_4 : decode b_M_hasRoom 4 = .ok (.ifCond .ne 5, 3) := by decide +kernel
theorem d_M_hasRoom_7 : decode b_M_hasRoom 7 = .ok (.iconst 1, 1) := by decide +kernel
theorem d_M_hasRoom_8 : decode b_M_hasRoom 8 = .ok (.ireturn, 1) := by decide +kernel
theorem d_M_hasRoom_9 : decode b_M_hasRoom 9 = .ok (.aload_n 0, 1) := by decide +kernel
theorem d_M_hasRoom_10 : decode b_M_hasRoom 10 = .ok (.invokevirtual 57, 3) := by decide +kernel
theorem d_M_hasRoom_13 : decode b_M_hasRoom 13 = .ok (.aload_n 0, 1) := by decide +kernel
theorem d_M_hasRoom_14 : decode b_M_hasRoom 14 = .ok (.getfield 37, 3) := by decide +kernel
theorem d_M_hasRoom_17 : decode b_M_hasRoom 17 = .ok (.if_icmp .le 5, 3) := by decide +kernel
theorem d_M_hasRoom_20 : decode b_M_hasRoom 20 = .ok (.iconst 0, 1) := by decide +kernel
theorem d_M_hasRoom_21 : decode b_M_hasRoom 21 = .ok (.ireturn, 1) := by decide +kernel
theorem d_M_hasRoom_22 : decode b_M_hasRoom 22 = .ok (.aload_n 0, 1) := by decide +kernel
theorem d_M_hasRoom_23 : decode b_M_hasRoom 23 = .ok (.invokevirtual 57, 3) := by decide +kernel
theorem d_M_hasRoom_26 : decode b_M_hasRoom 26 = .ok (.aload_n 0, 1) := by decide +kernel
theorem d_M_hasRoom_27 : decode b_M_hasRoom 27 = .ok (.getfield 15, 3) := by decide +kernel
theorem d_M_hasRoom_30 : decode b_M_hasRoom 30 = .ok (.iadd, 1) := by decide +kernel
theorem d_M_hasRoom_31 : decode b_M_hasRoom 31 = .ok (.iload_n 1, 1) := by decide +kernel
theorem d_M_hasRoom_32 : decode b_M_hasRoom 32 = .ok (.iadd, 1) := by decide +kernel
theorem d_M_hasRoom_33 : decode b_M_hasRoom 33 = .ok (.aload_n 0, 1) := by decide +kernel
theorem d_M_hasRoom_34 : decode b_M_hasRoom 34 = .ok (.getfield 37, 3) := by decide +kernel
theorem d_M_hasRoom_37 : decode b_M_hasRoom 37 = .ok (.if_icmp .le 7, 3) := by decide +kernel
theorem d_M_hasRoom_40 : decode b_M_hasRoom 40 = .ok (.aload_n 0, 1) := by decide +kernel
theorem d_M_hasRoom_41 : decode b_M_hasRoom 41 = .ok (.invokevirtual 65, 3) := by decide +kernel
theorem d_M_hasRoom_44 : decode b_M_hasRoom 44 = .ok (.iconst 1, 1) := by decide +kernel
theorem d_M_hasRoom_45 : decode b_M_hasRoom 45 = .ok (.ireturn, 1) := by decide +kernel
theorem d_M_place_0 : decode b_M_place 0 = .ok (.iload_n 1, 1) := by decide +kernel
theorem d_M_place_1 : decode b_M_place 1 = .ok (.invokestatic 68, 3) := by decide +kernel
theorem d_M_place_4 : decode b_M_place 4 = .ok (.istore_n 2, 1) := by decide +kernel
theorem d_M_place_5 : decode b_M_place 5 = .ok (.aload_n 0, 1) := by decide +kernel
theorem d_M_place_6 : decode b_M_place 6 = .ok (.dup, 1) := by decide +kernel
theorem d_M_place_7 : decode b_M_place 7 = .ok (.getfield 73, 3) := by decide +kernel
theorem d_M_place_10 : decode b_M_place 10 = .ok (.iload_n 2, 1) := by decide +kernel
theorem d_M_place_11 : decode b_M_place 11 = .ok (.isub, 1) := by decide +kernel
theorem d_M_place_12 : decode b_M_place 12 = .ok (.putfield 73, 3) := by decide +kernel
theorem d_M_place_15 : decode b_M_place 15 = .ok (.aload_n 0, 1) := by decide +kernel
theorem d_M_place_16 : decode b_M_place 16 = .ok (.getfield 27, 3) := by decide +kernel
theorem d_M_place_19 : decode b_M_place 19 = .ok (.aload_n 0, 1) := by decide +kernel
theorem d_M_place_20 : decode b_M_place 20 = .ok (.getfield 73, 3) := by decide +kernel
theorem d_M_place_23 : decode b_M_place 23 = .ok (.iload_n 1, 1) := by decide +kernel
theorem d_M_place_24 : decode b_M_place 24 = .ok (.invokevirtual 76, 3) := by decide +kernel
theorem d_M_place_27 : decode b_M_place 27 = .ok (.iconst 1, 1) := by decide +kernel
theorem d_M_place_28 : decode b_M_place 28 = .ok (.istore_n 3, 1) := by decide +kernel
theorem d_M_place_29 : decode b_M_place 29 = .ok (.iload_n 3, 1) := by decide +kernel
theorem d_M_place_30 : decode b_M_place 30 = .ok (.iload_n 2, 1) := by decide +kernel
theorem d_M_place_31 : decode b_M_place 31 = .ok (.if_icmp .ge 23, 3) := by decide +kernel
theorem d_M_place_34 : decode b_M_place 34 = .ok (.aload_n 0, 1) := by decide +kernel
theorem d_M_place_35 : decode b_M_place 35 = .ok (.getfield 27, 3) := by decide +kernel
theorem d_M_place_38 : decode b_M_place 38 = .ok (.aload_n 0, 1) := by decide +kernel
theorem d_M_place_39 : decode b_M_place 39 = .ok (.getfield 73, 3) := by decide +kernel
theorem d_M_place_42 : decode b_M_place 42 = .ok (.iload_n 3, 1) := by decide +kernel
theorem d_M_place_43 : decode b_M_place 43 = .ok (.iadd, 1) := by decide +kernel
theorem d_M_place_44 : decode b_M_place 44 = .ok (.iconst 0, 1) := by decide +kernel
theorem d_M_place_45 : decode b_M_place 45 = .ok (.invokevirtual 76, 3) := by decide +kernel
theorem d_M_place_48 : decode b_M_place 48 = .ok (.iinc 3 1, 3) := by decide +kernel
theorem d_M_place_51 : decode b_M_place 51 = .ok (.goto (-22), 3) := by decide +kernel
theorem d_M_place_54 : decode b_M_place 54 = .ok (.aload_n 0, 1) := by decide +kernel
theorem d_M_place_55 : decode b_M_place 55 = .ok (.dup, 1) := by decide +kernel
theorem d_M_place_56 : decode b_M_place 56 = .ok (.getfield 15, 3) := by decide +kernel
theorem d_M_place_59 : decode b_M_place 59 = .ok (.iload_n 2, 1) := by decide +kernel
theorem d_M_place_60 : decode b_M_place 60 = .ok (.iadd, 1) := by decide +kernel
theorem d_M_place_61 : decode b_M_place 61 = .ok (.putfield 15, 3) := by decide +kernel
theorem d_M_place_64 : decode b_M_place 64 = .ok (.aload_n 0, 1) := by decide +kernel
theorem d_M_place_65 : decode b_M_place 65 = .ok (.invokevirtual 79, 3) := by decide +kernel
theorem d_M_place_68 : decode b_M_place 68 = .ok (.aload_n 0, 1) := by decide +kernel
theorem d_M_place_69 : decode b_M_place 69 = .ok (.getfield 73, 3) := by decide +kernel
theorem d_M_place_72 : decode b_M_place 72 = .ok (.ireturn, 1) := by decide +kernel
theorem d_M_follow_0 : decode b_M_follow 0 = .ok (.aload_n 0, 1) := by decide +kernel
theorem d_M_follow_1 : decode b_M_follow 1 = .ok (.aload_n 0, 1) := by decide +kernel
theorem d_M_follow_2 : decode b_M_follow 2 = .ok (.getfield 27, 3) := by decide +kernel
theorem d_M_follow_5 : decode b_M_follow 5 = .ok (.iload_n 1, 1) := by decide +kernel
theorem d_M_follow_6 : decode b_M_follow 6 = .ok (.invokevirtual 82, 3) := by decide +kernel
theorem d_M_follow_9 : decode b_M_follow 9 = .ok (.invokevirtual 85, 3) := by decide +kernel
theorem d_M_follow_12 : decode b_M_follow 12 = .ok (.ireturn, 1) := by decide +kernel
theorem d_M_link_0 : decode b_M_link 0 = .ok (.aload_n 0, 1) := by decide +kernel
theorem d_M_link_1 : decode b_M_link 1 = .ok (.iload_n 1, 1) := by decide +kernel
theorem d_M_link_2 : decode b_M_link 2 = .ok (.invokevirtual 88, 3) := by decide +kernel
theorem d_M_link_5 : decode b_M_link 5 = .ok (.pop, 1) := by decide +kernel
theorem d_M_link_6 : decode b_M_link 6 = .ok (.aload_n 0, 1) := by decide +kernel
theorem d_M_link_7 : decode b_M_link 7 = .ok (.getfield 27, 3) := by decide +kernel
theorem d_M_link_10 : decode b_M_link 10 = .ok (.iload_n 1, 1) := by decide +kernel
theorem d_M_link_11 : decode b_M_link 11 = .ok (.iload_n 2, 1) := by decide +kernel
theorem d_M_link_12 : decode b_M_link 12 = .ok (.invokevirtual 76, 3) := by decide +kernel
theorem d_M_link_15 : decode b_M_link 15 = .ok (.return_, 1) := by decide +kernel
theorem d_M_useHalf_0 : decode b_M_useHalf 0 = .ok (.aload_n 0, 1) := by decide +kernel
theorem d_M_useHalf_1 : decode b_M_useHalf 1 = .ok (.iload_n 1, 1) := by decide +kernel
theorem d_M_useHalf_2 : decode b_M_useHalf 2 = .ok (.putfield 51, 3) := by decide +kernel
theorem d_M_useHalf_5 : decode b_M_useHalf 5 = .ok (.aload_n 0, 1) := by decide +kernel
theorem d_M_useHalf_6 : decode b_M_useHalf 6 = .ok (.iload_n 1, 1) := by decide +kernel
theorem d_M_useHalf_7 : decode b_M_useHalf 7 = .ok (.putfield 48, 3) := by decide +kernel
theorem d_M_useHalf_10 : decode b_M_useHalf 10 = .ok (.aload_n 0, 1) := by decide +kernel
theorem d_M_useHalf_11 : decode b_M_useHalf 11 = .ok (.iload_n 1, 1) := by decide +kernel
theorem d_M_useHalf_12 : decode b_M_useHalf 12 = .ok (.aload_n 0, 1) := by decide +kernel
theorem d_M_useHalf_13 : decode b_M_useHalf 13 = .ok (.getfield 31, 3) := by decide +kernel
theorem d_M_useHalf_16 : decode b_M_useHalf 16 = .ok (.iadd, 1) := by decide +kernel
theorem d_M_useHalf_17 : decode b_M_useHalf 17 = .ok (.putfield 73, 3) := by decide +kernel
theorem d_M_useHalf_20 : decode b_M_useHalf 20 = .ok (.aload_n 0, 1) := by decide +kernel
theorem d_M_useHalf_21 : decode b_M_useHalf 21 = .ok (.iload_n 1, 1) := by decide +kernel
theorem d_M_useHalf_22 : decode b_M_useHalf 22 = .ok (.putfield 54, 3) := by decide +kernel
theorem d_M_useHalf_25 : decode b_M_useHalf 25 = .ok (.aload_n 0, 1) := by decide +kernel
theorem d_M_useHalf_26 : decode b_M_useHalf 26 = .ok (.iload_n 1, 1) := by decide +kernel
theorem d_M_useHalf_27 : decode b_M_useHalf 27 = .ok (.putfield 91, 3) := by decide +kernel
theorem d_M_useHalf_30 : decode b_M_useHalf 30 = .ok (.aload_n 0, 1) := by decide +kernel
theorem d_M_useHalf_31 : decode b_M_useHalf 31 = .ok (.iload_n 1, 1) := by decide +kernel
theorem d_M_useHalf_32 : decode b_M_useHalf 32 = .ok (.putfield 94, 3) := by decide +kernel
theorem d_M_useHalf_35 : decode b_M_useHalf 35 = .ok (.return_, 1) := by decide +kernel
theorem d_M_beginCycle_0 : decode b_M_beginCycle 0 = .ok (.aload_n 0, 1) := by decide +kernel
theorem d_M_beginCycle_1 : decode b_M_beginCycle 1 = .ok (.aload_n 0, 1) := by decide +kernel
theorem d_M_beginCycle_2 : decode b_M_beginCycle 2 = .ok (.getfield 51, 3) := by decide +kernel
theorem d_M_beginCycle_5 : decode b_M_beginCycle 5 = .ok (.iconst 1, 1) := by decide +kernel
theorem d_M_beginCycle_6 : decode b_M_beginCycle 6 = .ok (.if_icmp .ne 12, 3) := by decide +kernel
theorem d_M_beginCycle_9 : decode b_M_beginCycle 9 = .ok (.iconst 1, 1) := by decide +kernel
theorem d_M_beginCycle_10 : decode b_M_beginCycle 10 = .ok (.aload_n 0, 1) := by decide +kernel
theorem d_M_beginCycle_11 : decode b_M_beginCycle 11 = .ok (.getfield 31, 3) := by decide +kernel
theorem d_M_beginCycle_14 : decode b_M_beginCycle 14 = .ok (.iadd, 1) := by decide +kernel
theorem d_M_beginCycle_15 : decode b_M_beginCycle 15 = .ok (.goto 4, 3) := by decide +kernel
theorem d_M_beginCycle_18 : decode b_M_beginCycle 18 = .ok (.iconst 1, 1) := by decide +kernel
theorem d_M_beginCycle_19 : decode b_M_beginCycle 19 = .ok (.invokevirtual 40, 3) := by decide +kernel
theorem d_M_beginCycle_22 : decode b_M_beginCycle 22 = .ok (.aload_n 0, 1) := by decide +kernel
theorem d_M_beginCycle_23 : decode b_M_beginCycle 23 = .ok (.iconst 0, 1) := by decide +kernel
theorem d_M_beginCycle_24 : decode b_M_beginCycle 24 = .ok (.putfield 15, 3) := by decide +kernel
theorem d_M_beginCycle_27 : decode b_M_beginCycle 27 = .ok (.aload_n 0, 1) := by decide +kernel
theorem d_M_beginCycle_28 : decode b_M_beginCycle 28 = .ok (.dup, 1) := by decide +kernel
theorem d_M_beginCycle_29 : decode b_M_beginCycle 29 = .ok (.getfield 19, 3) := by decide +kernel
theorem d_M_beginCycle_32 : decode b_M_beginCycle 32 = .ok (.iconst 1, 1) := by decide +kernel
theorem d_M_beginCycle_33 : decode b_M_beginCycle 33 = .ok (.iadd, 1) := by decide +kernel
theorem d_M_beginCycle_34 : decode b_M_beginCycle 34 = .ok (.putfield 19, 3) := by decide +kernel
theorem d_M_beginCycle_37 : decode b_M_beginCycle 37 = .ok (.iconst 0, 1) := by decide +kernel
theorem d_M_beginCycle_38 : decode b_M_beginCycle 38 = .ok (.istore_n 1, 1) := by decide +kernel
theorem d_M_beginCycle_39 : decode b_M_beginCycle 39 = .ok (.iload_n 1, 1) := by decide +kernel
theorem d_M_beginCycle_40 : decode b_M_beginCycle 40 = .ok (.aload_n 0, 1) := by decide +kernel
theorem d_M_beginCycle_41 : decode b_M_beginCycle 41 = .ok (.getfield 9, 3) := by decide +kernel
theorem d_M_beginCycle_44 : decode b_M_beginCycle 44 = .ok (.arraylength, 1) := by decide +kernel
theorem d_M_beginCycle_45 : decode b_M_beginCycle 45 = .ok (.if_icmp .ge 25, 3) := by decide +kernel
theorem d_M_beginCycle_48 : decode b_M_beginCycle 48 = .ok (.aload_n 0, 1) := by decide +kernel
theorem d_M_beginCycle_49 : decode b_M_beginCycle 49 = .ok (.getfield 9, 3) := by decide +kernel
theorem d_M_beginCycle_52 : decode b_M_beginCycle 52 = .ok (.iload_n 1, 1) := by decide +kernel
theorem d_M_beginCycle_53 : decode b_M_beginCycle 53 = .ok (.aload_n 0, 1) := by decide +kernel
theorem d_M_beginCycle_54 : decode b_M_beginCycle 54 = .ok (.aload_n 0, 1) := by decide +kernel
theorem d_M_beginCycle_55 : decode b_M_beginCycle 55 = .ok (.getfield 9, 3) := by decide +kernel
theorem d_M_beginCycle_58 : decode b_M_beginCycle 58 = .ok (.iload_n 1, 1) := by decide +kernel
theorem d_M_beginCycle_59 : decode b_M_beginCycle 59 = .ok (.iaload, 1) := by decide +kernel
theorem d_M_beginCycle_60 : decode b_M_beginCycle 60 = .ok (.invokevirtual 85, 3) := by decide +kernel
theorem d_M_beginCycle_63 : decode b_M_beginCycle 63 = .ok (.iastore, 1) := by decide +kernel
theorem d_M_beginCycle_64 : decode b_M_beginCycle 64 = .ok (.iinc 1 1, 3) := by decide +kernel
theorem d_M_beginCycle_67 : decode b_M_beginCycle 67 = .ok (.goto (-28), 3) := by decide +kernel
theorem d_M_beginCycle_70 : decode b_M_beginCycle 70 = .ok (.return_, 1) := by decide +kernel
theorem d_M_isOld_0 : decode b_M_isOld 0 = .ok (.iload_n 1, 1) := by decide +kernel
theorem d_M_isOld_1 : decode b_M_isOld 1 = .ok (.ifCond .eq 28, 3) := by decide +kernel
theorem d_M_isOld_4 : decode b_M_isOld 4 = .ok (.iload_n 1, 1) := by decide +kernel
theorem d_M_isOld_5 : decode b_M_isOld 5 = .ok (.aload_n 0, 1) := by decide +kernel
theorem d_M_isOld_6 : decode b_M_isOld 6 = .ok (.getfield 51, 3) := by decide +kernel
theorem d_M_isOld_9 : decode b_M_isOld 9 = .ok (.if_icmp .lt 16, 3) := by decide +kernel
theorem d_M_isOld_12 : decode b_M_isOld 12 = .ok (.iload_n 1, 1) := by decide +kernel
theorem d_M_isOld_13 : decode b_M_isOld 13 = .ok (.aload_n 0, 1) := by decide +kernel
theorem d_M_isOld_14 : decode b_M_isOld 14 = .ok (.getfield 51, 3) := by decide +kernel
theorem d_M_isOld_17 : decode b_M_isOld 17 = .ok (.aload_n 0, 1) := by decide +kernel
theorem d_M_isOld_18 : decode b_M_isOld 18 = .ok (.getfield 31, 3) := by decide +kernel
theorem d_M_isOld_21 : decode b_M_isOld 21 = .ok (.iadd, 1) := by decide +kernel
theorem d_M_isOld_22 : decode b_M_isOld 22 = .ok (.if_icmp .lt 7, 3) := by decide +kernel
theorem d_M_isOld_25 : decode b_M_isOld 25 = .ok (.iconst 1, 1) := by decide +kernel
theorem d_M_isOld_26 : decode b_M_isOld 26 = .ok (.goto 4, 3) := by decide +kernel
theorem d_M_isOld_29 : decode b_M_isOld 29 = .ok (.iconst 0, 1) := by decide +kernel
theorem d_M_isOld_30 : decode b_M_isOld 30 = .ok (.ireturn, 1) := by decide +kernel
theorem d_M_placeInUse_0 : decode b_M_placeInUse 0 = .ok (.aload_n 0, 1) := by decide +kernel
theorem d_M_placeInUse_1 : decode b_M_placeInUse 1 = .ok (.iload_n 1, 1) := by decide +kernel
theorem d_M_placeInUse_2 : decode b_M_placeInUse 2 = .ok (.invokevirtual 97, 3) := by decide +kernel
theorem d_M_placeInUse_5 : decode b_M_placeInUse 5 = .ok (.ifCond .ne 5, 3) := by decide +kernel
theorem d_M_placeInUse_8 : decode b_M_placeInUse 8 = .ok (.iload_n 1, 1) := by decide +kernel
theorem d_M_placeInUse_9 : decode b_M_placeInUse 9 = .ok (.ireturn, 1) := by decide +kernel
theorem d_M_placeInUse_10 : decode b_M_placeInUse 10 = .ok (.aload_n 0, 1) := by decide +kernel
theorem d_M_placeInUse_11 : decode b_M_placeInUse 11 = .ok (.getfield 27, 3) := by decide +kernel
theorem d_M_placeInUse_14 : decode b_M_placeInUse 14 = .ok (.iload_n 1, 1) := by decide +kernel
theorem d_M_placeInUse_15 : decode b_M_placeInUse 15 = .ok (.invokevirtual 82, 3) := by decide +kernel
theorem d_M_placeInUse_18 : decode b_M_placeInUse 18 = .ok (.istore_n 2, 1) := by decide +kernel
theorem d_M_placeInUse_19 : decode b_M_placeInUse 19 = .ok (.iload_n 2, 1) := by decide +kernel
theorem d_M_placeInUse_20 : decode b_M_placeInUse 20 = .ok (.ifCond .ge 6, 3) := by decide +kernel
theorem d_M_placeInUse_23 : decode b_M_placeInUse 23 = .ok (.iload_n 2, 1) := by decide +kernel
theorem d_M_placeInUse_24 : decode b_M_placeInUse 24 = .ok (.ineg, 1) := by decide +kernel
theorem d_M_placeInUse_25 : decode b_M_placeInUse 25 = .ok (.ireturn, 1) := by decide +kernel
theorem d_M_placeInUse_26 : decode b_M_placeInUse 26 = .ok (.aload_n 0, 1) := by decide +kernel
theorem d_M_placeInUse_27 : decode b_M_placeInUse 27 = .ok (.getfield 48, 3) := by decide +kernel
theorem d_M_placeInUse_30 : decode b_M_placeInUse 30 = .ok (.istore_n 3, 1) := by decide +kernel
theorem d_M_placeInUse_31 : decode b_M_placeInUse 31 = .ok (.iload_n 2, 1) := by decide +kernel
theorem d_M_placeInUse_32 : decode b_M_placeInUse 32 = .ok (.invokestatic 68, 3) := by decide +kernel
theorem d_M_placeInUse_35 : decode b_M_placeInUse 35 = .ok (.istore 4, 2) := by decide +kernel
theorem d_M_placeInUse_37 : decode b_M_placeInUse 37 = .ok (.aload_n 0, 1) := by decide +kernel
theorem d_M_placeInUse_38 : decode b_M_placeInUse 38 = .ok (.getfield 27, 3) := by decide +kernel
theorem d_M_placeInUse_41 : decode b_M_placeInUse 41 = .ok (.iload_n 3, 1) := by decide +kernel
theorem d_M_placeInUse_42 : decode b_M_placeInUse 42 = .ok (.iload_n 2, 1) := by decide +kernel
theorem d_M_placeInUse_43 : decode b_M_placeInUse 43 = .ok (.invokevirtual 76, 3) := by decide +kernel
theorem d_M_placeInUse_46 : decode b_M_placeInUse 46 = .ok (.iconst 1, 1) := by decide +kernel
theorem d_M_placeInUse_47 : decode b_M_placeInUse 47 = .ok (.istore 5, 2) := by decide +kernel
theorem d_M_placeInUse_49 : decode b_M_placeInUse 49 = .ok (.iload 5, 2) := by decide +kernel
theorem d_M_placeInUse_51 : decode b_M_placeInUse 51 = .ok (.iload 4, 2) := by decide +kernel
theorem d_M_placeInUse_53 : decode b_M_placeInUse 53 = .ok (.if_icmp .ge 31, 3) := by decide +kernel
theorem d_M_placeInUse_56 : decode b_M_placeInUse 56 = .ok (.aload_n 0, 1) := by decide +kernel
theorem d_M_placeInUse_57 : decode b_M_placeInUse 57 = .ok (.getfield 27, 3) := by decide +kernel
theorem d_M_placeInUse_60 : decode b_M_placeInUse 60 = .ok (.iload_n 3, 1) := by decide +kernel
theorem d_M_placeInUse_61 : decode b_M_placeInUse 61 = .ok (.iload 5, 2) := by decide +kernel
theorem d_M_placeInUse_63 : decode b_M_placeInUse 63 = .ok (.iadd, 1) := by decide +kernel
theorem d_M_placeInUse_64 : decode b_M_placeInUse 64 = .ok (.aload_n 0, 1) := by decide +kernel
theorem d_M_placeInUse_65 : decode b_M_placeInUse 65 = .ok (.getfield 27, 3) := by decide +kernel
theorem d_M_placeInUse_68 : decode b_M_placeInUse 68 = .ok (.iload_n 1, 1) := by decide +kernel
theorem d_M_placeInUse_69 : decode b_M_placeInUse 69 = .ok (.iload 5, 2) := by decide +kernel
theorem d_M_placeInUse_71 : decode b_M_placeInUse 71 = .ok (.iadd, 1) := by decide +kernel
theorem d_M_placeInUse_72 : decode b_M_placeInUse 72 = .ok (.invokevirtual 82, 3) := by decide +kernel
theorem d_M_placeInUse_75 : decode b_M_placeInUse 75 = .ok (.invokevirtual 76, 3) := by decide +kernel
theorem d_M_placeInUse_78 : decode b_M_placeInUse 78 = .ok (.iinc 5 1, 3) := by decide +kernel
theorem d_M_placeInUse_81 : decode b_M_placeInUse 81 = .ok (.goto (-32), 3) := by decide +kernel
theorem d_M_placeInUse_84 : decode b_M_placeInUse 84 = .ok (.aload_n 0, 1) := by decide +kernel
theorem d_M_placeInUse_85 : decode b_M_placeInUse 85 = .ok (.getfield 27, 3) := by decide +kernel
theorem d_M_placeInUse_88 : decode b_M_placeInUse 88 = .ok (.iload_n 1, 1) := by decide +kernel
theorem d_M_placeInUse_89 : decode b_M_placeInUse 89 = .ok (.iload_n 3, 1) := by decide +kernel
theorem d_M_placeInUse_90 : decode b_M_placeInUse 90 = .ok (.ineg, 1) := by decide +kernel
theorem d_M_placeInUse_91 : decode b_M_placeInUse 91 = .ok (.invokevirtual 76, 3) := by decide +kernel
theorem d_M_placeInUse_94 : decode b_M_placeInUse 94 = .ok (.aload_n 0, 1) := by decide +kernel
theorem d_M_placeInUse_95 : decode b_M_placeInUse 95 = .ok (.dup, 1) := by decide +kernel
theorem d_M_placeInUse_96 : decode b_M_placeInUse 96 = .ok (.getfield 48, 3) := by decide +kernel
theorem d_M_placeInUse_99 : decode b_M_placeInUse 99 = .ok (.iload 4, 2) := by decide +kernel
theorem d_M_placeInUse_101 : decode b_M_placeInUse 101 = .ok (.iadd, 1) := by decide +kernel
theorem d_M_placeInUse_102 : decode b_M_placeInUse 102 = .ok (.putfield 48, 3) := by decide +kernel
theorem d_M_placeInUse_105 : decode b_M_placeInUse 105 = .ok (.iload_n 3, 1) := by decide +kernel
theorem d_M_placeInUse_106 : decode b_M_placeInUse 106 = .ok (.ireturn, 1) := by decide +kernel
theorem d_M_work_0 : decode b_M_work 0 = .ok (.aload_n 0, 1) := by decide +kernel
theorem d_M_work_1 : decode b_M_work 1 = .ok (.getfield 51, 3) := by decide +kernel
theorem d_M_work_4 : decode b_M_work 4 = .ok (.aload_n 0, 1) := by decide +kernel
theorem d_M_work_5 : decode b_M_work 5 = .ok (.getfield 34, 3) := by decide +kernel
theorem d_M_work_8 : decode b_M_work 8 = .ok (.aload_n 0, 1) := by decide +kernel
theorem d_M_work_9 : decode b_M_work 9 = .ok (.getfield 15, 3) := by decide +kernel
theorem d_M_work_12 : decode b_M_work 12 = .ok (.imul, 1) := by decide +kernel
theorem d_M_work_13 : decode b_M_work 13 = .ok (.iadd, 1) := by decide +kernel
theorem d_M_work_14 : decode b_M_work 14 = .ok (.istore_n 1, 1) := by decide +kernel
theorem d_M_work_15 : decode b_M_work 15 = .ok (.iconst 0, 1) := by decide +kernel
theorem d_M_work_16 : decode b_M_work 16 = .ok (.istore_n 2, 1) := by decide +kernel
theorem d_M_work_17 : decode b_M_work 17 = .ok (.iload_n 2, 1) := by decide +kernel
theorem d_M_work_18 : decode b_M_work 18 = .ok (.aload_n 0, 1) := by decide +kernel
theorem d_M_work_19 : decode b_M_work 19 = .ok (.getfield 34, 3) := by decide +kernel
theorem d_M_work_22 : decode b_M_work 22 = .ok (.bipush 16, 2) := by decide +kernel
theorem d_M_work_24 : decode b_M_work 24 = .ok (.imul, 1) := by decide +kernel
theorem d_M_work_25 : decode b_M_work 25 = .ok (.if_icmp .ge 137, 3) := by decide +kernel
theorem d_M_work_28 : decode b_M_work 28 = .ok (.aload_n 0, 1) := by decide +kernel
theorem d_M_work_29 : decode b_M_work 29 = .ok (.getfield 54, 3) := by decide +kernel
theorem d_M_work_32 : decode b_M_work 32 = .ok (.aload_n 0, 1) := by decide +kernel
theorem d_M_work_33 : decode b_M_work 33 = .ok (.getfield 48, 3) := by decide +kernel
theorem d_M_work_36 : decode b_M_work 36 = .ok (.if_icmp .ge 126, 3) := by decide +kernel
theorem d_M_work_39 : decode b_M_work 39 = .ok (.aload_n 0, 1) := by decide +kernel
theorem d_M_work_40 : decode b_M_work 40 = .ok (.getfield 54, 3) := by decide +kernel
theorem d_M_work_43 : decode b_M_work 43 = .ok (.iload_n 1, 1) := by decide +kernel
theorem d_M_work_44 : decode b_M_work 44 = .ok (.if_icmp .ge 118, 3) := by decide +kernel
theorem d_M_work_47 : decode b_M_work 47 = .ok (.aload_n 0, 1) := by decide +kernel
theorem d_M_work_48 : decode b_M_work 48 = .ok (.getfield 27, 3) := by decide +kernel
theorem d_M_work_51 : decode b_M_work 51 = .ok (.aload_n 0, 1) := by decide +kernel
theorem d_M_work_52 : decode b_M_work 52 = .ok (.getfield 54, 3) := by decide +kernel
theorem d_M_work_55 : decode b_M_work 55 = .ok (.invokevirtual 82, 3) := by decide +kernel
theorem d_M_work_58 : decode b_M_work 58 = .ok (.istore_n 3, 1) := by decide +kernel
theorem d_M_work_59 : decode b_M_work 59 = .ok (.aload_n 0, 1) := by decide +kernel
theorem d_M_work_60 : decode b_M_work 60 = .ok (.getfield 54, 3) := by decide +kernel
theorem d_M_work_63 : decode b_M_work 63 = .ok (.aload_n 0, 1) := by decide +kernel
theorem d_M_work_64 : decode b_M_work 64 = .ok (.getfield 94, 3) := by decide +kernel
theorem d_M_work_67 : decode b_M_work 67 = .ok (.if_icmp .ne 34, 3) := by decide +kernel
theorem d_M_work_70 : decode b_M_work 70 = .ok (.aload_n 0, 1) := by decide +kernel
theorem d_M_work_71 : decode b_M_work 71 = .ok (.aload_n 0, 1) := by decide +kernel
theorem d_M_work_72 : decode b_M_work 72 = .ok (.getfield 54, 3) := by decide +kernel
theorem d_M_work_75 : decode b_M_work 75 = .ok (.iconst 1, 1) := by decide +kernel
theorem d_M_work_76 : decode b_M_work 76 = .ok (.iadd, 1) := by decide +kernel
theorem d_M_work_77 : decode b_M_work 77 = .ok (.iload_n 3, 1) := by decide +kernel
theorem d_M_work_78 : decode b_M_work 78 = .ok (.invokestatic 100, 3) := by decide +kernel
theorem d_M_work_81 : decode b_M_work 81 = .ok (.iadd, 1) := by decide +kernel
theorem d_M_work_82 : decode b_M_work 82 = .ok (.putfield 91, 3) := by decide +kernel
theorem d_M_work_85 : decode b_M_work 85 = .ok (.aload_n 0, 1) := by decide +kernel
theorem d_M_work_86 : decode b_M_work 86 = .ok (.aload_n 0, 1) := by decide +kernel
theorem d_M_work_87 : decode b_M_work 87 = .ok (.getfield 54, 3) := by decide +kernel
theorem d_M_work_90 : decode b_M_work 90 = .ok (.iload_n 3, 1) := by decide +kernel
theorem d_M_work_91 : decode b_M_work 91 = .ok (.invokestatic 68, 3) := by decide +kernel
theorem d_M_work_94 : decode b_M_work 94 = .ok (.iadd, 1) := by decide +kernel
theorem d_M_work_95 : decode b_M_work 95 = .ok (.putfield 94, 3) := by decide +kernel
theorem d_M_work_98 : decode b_M_work 98 = .ok (.goto 29, 3) := by decide +kernel
theorem d_M_work_101 : decode b_M_work 101 = .ok (.aload_n 0, 1) := by decide +kernel
theorem d_M_work_102 : decode b_M_work 102 = .ok (.iload_n 3, 1) := by decide +kernel
theorem d_M_work_103 : decode b_M_work 103 = .ok (.invokevirtual 85, 3) := by decide +kernel
theorem d_M_work_106 : decode b_M_work 106 = .ok (.istore 4, 2) := by decide +kernel
theorem d_M_work_108 : decode b_M_work 108 = .ok (.iload 4, 2) := by decide +kernel
theorem d_M_work_110 : decode b_M_work 110 = .ok (.iload_n 3, 1) := by decide +kernel
theorem d_M_work_111 : decode b_M_work 111 = .ok (.if_icmp .eq 16, 3) := by decide +kernel
theorem d_M_work_114 : decode b_M_work 114 = .ok (.aload_n 0, 1) := by decide +kernel
theorem d_M_work_115 : decode b_M_work 115 = .ok (.getfield 27, 3) := by decide +kernel
theorem d_M_work_118 : decode b_M_work 118 = .ok (.aload_n 0, 1) := by decide +kernel
theorem d_M_work_119 : decode b_M_work 119 = .ok (.getfield 54, 3) := by decide +kernel
theorem d_M_work_122 : decode b_M_work 122 = .ok (.iload 4, 2) := by decide +kernel
theorem d_M_work_124 : decode b_M_work 124 = .ok (.invokevirtual 76, 3) := by decide +kernel
theorem d_M_work_127 : decode b_M_work 127 = .ok (.aload_n 0, 1) := by decide +kernel
theorem d_M_work_128 : decode b_M_work 128 = .ok (.dup, 1) := by decide +kernel
theorem d_M_work_129 : decode b_M_work 129 = .ok (.getfield 54, 3) := by decide +kernel
theorem d_M_work_132 : decode b_M_work 132 = .ok (.iconst 1, 1) := by decide +kernel
theorem d_M_work_133 : decode b_M_work 133 = .ok (.iadd, 1) := by decide +kernel
theorem d_M_work_134 : decode b_M_work 134 = .ok (.putfield 54, 3) := by decide +kernel
theorem d_M_work_137 : decode b_M_work 137 = .ok (.aload_n 0, 1) := by decide +kernel
theorem d_M_work_138 : decode b_M_work 138 = .ok (.getfield 54, 3) := by decide +kernel
theorem d_M_work_141 : decode b_M_work 141 = .ok (.aload_n 0, 1) := by decide +kernel
theorem d_M_work_142 : decode b_M_work 142 = .ok (.getfield 91, 3) := by decide +kernel
theorem d_M_work_145 : decode b_M_work 145 = .ok (.if_icmp .ne 11, 3) := by decide +kernel
theorem d_M_work_148 : decode b_M_work 148 = .ok (.aload_n 0, 1) := by decide +kernel
theorem d_M_work_149 : decode b_M_work 149 = .ok (.aload_n 0, 1) := by decide +kernel
theorem d_M_work_150 : decode b_M_work 150 = .ok (.getfield 94, 3) := by decide +kernel
theorem d_M_work_153 : decode b_M_work 153 = .ok (.putfield 54, 3) := by decide +kernel
theorem d_M_work_156 : decode b_M_work 156 = .ok (.iinc 2 1, 3) := by decide +kernel
theorem d_M_work_159 : decode b_M_work 159 = .ok (.goto (-142), 3) := by decide +kernel
theorem d_M_work_162 : decode b_M_work 162 = .ok (.return_, 1) := by decide +kernel
