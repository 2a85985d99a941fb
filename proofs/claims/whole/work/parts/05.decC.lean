/-! ===== decode rows of StepHeap$Cells ===== -/
theorem d_C_init_0 : decode b_C_init 0 = .ok (.aload_n 0, 1) := by decide +kernel
theorem d_C_init_1 : decode b_C_init 1 = .ok (.invokespecial 1, 3) := by decide +kernel
theorem d_C_init_4 : decode b_C_init 4 = .ok (.aload_n 0, 1) := by decide +kernel
theorem d_C_init_5 : decode b_C_init 5 = .ok (.iconst 0, 1) := by decide +kernel
theorem d_C_init_6 : decode b_C_init 6 = .ok (.putfield 7, 3) := by decide +kernel
theorem d_C_init_9 : decode b_C_init 9 = .ok (.aload_n 0, 1) := by decide +kernel
theorem d_C_init_10 : decode b_C_init 10 = .ok (.iconst 1, 1) := by decide +kernel
theorem d_C_init_11 : decode b_C_init 11 = .ok (.putfield 13, 3) := by decide +kernel
theorem d_C_init_14 : decode b_C_init 14 = .ok (.aload_n 0, 1) := by decide +kernel
theorem d_C_init_15 : decode b_C_init 15 = .ok (.iload_n 1, 1) := by decide +kernel
theorem d_C_init_16 : decode b_C_init 16 = .ok (.putfield 17, 3) := by decide +kernel
theorem d_C_init_19 : decode b_C_init 19 = .ok (.aload_n 0, 1) := by decide +kernel
theorem d_C_init_20 : decode b_C_init 20 = .ok (.iload_n 2, 1) := by decide +kernel
theorem d_C_init_21 : decode b_C_init 21 = .ok (.putfield 20, 3) := by decide +kernel
theorem d_C_init_24 : decode b_C_init 24 = .ok (.aload_n 0, 1) := by decide +kernel
theorem d_C_init_25 : decode b_C_init 25 = .ok (.iload_n 1, 1) := by decide +kernel
theorem d_C_init_26 : decode b_C_init 26 = .ok (.bipush 10, 2) := by decide +kernel
theorem d_C_init_28 : decode b_C_init 28 = .ok (.ishr, 1) := by decide +kernel
theorem d_C_init_29 : decode b_C_init 29 = .ok (.iconst 1, 1) := by decide +kernel
theorem d_C_init_30 : decode b_C_init 30 = .ok (.iadd, 1) := by decide +kernel
theorem d_C_init_31 : decode b_C_init 31 = .ok (.anewarray 23, 3) := by decide +kernel
theorem d_C_init_34 : decode b_C_init 34 = .ok (.putfield 25, 3) := by decide +kernel
theorem d_C_init_37 : decode b_C_init 37 = .ok (.return_, 1) := by decide +kernel
theorem d_C_startCall_0 : decode b_C_startCall 0 = .ok (.aload_n 0, 1) := by decide +kernel
theorem d_C_startCall_1 : decode b_C_startCall 1 = .ok (.iconst 0, 1) := by decide +kernel
theorem d_C_startCall_2 : decode b_C_startCall 2 = .ok (.putfield 7, 3) := by decide +kernel
theorem d_C_startCall_5 : decode b_C_startCall 5 = .ok (.return_, 1) := by decide +kernel
theorem d_C_read_0 : decode b_C_read 0 = .ok (.aload_n 0, 1) := by decide +kernel
theorem d_C_read_1 : decode b_C_read 1 = .ok (.invokevirtual 29, 3) := by decide +kernel
theorem d_C_read_4 : decode b_C_read 4 = .ok (.iload_n 1, 1) := by decide +kernel
theorem d_C_read_5 : decode b_C_read 5 = .ok (.iconst 1, 1) := by decide +kernel
theorem d_C_read_6 : decode b_C_read 6 = .ok (.if_icmp .lt 11, 3) := by decide +kernel
theorem d_C_read_9 : decode b_C_read 9 = .ok (.iload_n 1, 1) := by decide +kernel
theorem d_C_read_10 : decode b_C_read 10 = .ok (.aload_n 0, 1) := by decide +kernel
theorem d_C_read_11 : decode b_C_read 11 = .ok (.getfield 17, 3) := by decide +kernel
theorem d_C_read_14 : decode b_C_read 14 = .ok (.if_icmp .le 5, 3) := by decide +kernel
theorem d_C_read_17 : decode b_C_read 17 = .ok (.iconst 0, 1) := by decide +kernel
theorem d_C_read_18 : decode b_C_read 18 = .ok (.ireturn, 1) := by decide +kernel
theorem d_C_read_19 : decode b_C_read 19 = .ok (.aload_n 0, 1) := by decide +kernel
theorem d_C_read_20 : decode b_C_read 20 = .ok (.getfield 25, 3) := by decide +kernel
theorem d_C_read_23 : decode b_C_read 23 = .ok (.iload_n 1, 1) := by decide +kernel
theorem d_C_read_24 : decode b_C_read 24 = .ok (.bipush 10, 2) := by decide +kernel
theorem d_C_read_26 : decode b_C_read 26 = .ok (.ishr, 1) := by decide +kernel
theorem d_C_read_27 : decode b_C_read 27 = .ok (.aaload, 1) := by decide +kernel
theorem d_C_read_28 : decode b_C_read 28 = .ok (.astore_n 2, 1) := by decide +kernel
theorem d_C_read_29 : decode b_C_read 29 = .ok (.aload_n 2, 1) := by decide +kernel
theorem d_C_read_30 : decode b_C_read 30 = .ok (.ifnonnull 7, 3) := by decide +kernel
theorem d_C_read_33 : decode b_C_read 33 = .ok (.iconst 0, 1) := by decide +kernel
theorem d_C_read_34 : decode b_C_read 34 = .ok (.goto 13, 3) := by decide +kernel
theorem d_C_read_37 : decode b_C_read 37 = .ok (.aload_n 2, 1) := by decide +kernel
theorem d_C_read_38 : decode b_C_read 38 = .ok (.getfield 32, 3) := by decide +kernel
theorem d_C_read_41 : decode b_C_read 41 = .ok (.iload_n 1, 1) := by decide +kernel
theorem d_C_read_42 : decode b_C_read 42 = .ok (.sipush 1023, 3) := by decide +kernel
theorem d_C_read_45 : decode b_C_read 45 = .ok (.iand, 1) := by decide +kernel
theorem d_C_read_46 : decode b_C_read 46 = .ok (.iaload, 1) := by decide +kernel
theorem d_C_read_47 : decode b_C_read 47 = .ok (.ireturn, 1) := by decide +kernel
theorem d_C_write_0 : decode b_C_write 0 = .ok (.aload_n 0, 1) := by decide +kernel
theorem d_C_write_1 : decode b_C_write 1 = .ok (.invokevirtual 29, 3) := by decide +kernel
theorem d_C_write_4 : decode b_C_write 4 = .ok (.iload_n 1, 1) := by decide +kernel
theorem d_C_write_5 : decode b_C_write 5 = .ok (.iconst 1, 1) := by decide +kernel
theorem d_C_write_6 : decode b_C_write 6 = .ok (.if_icmp .lt 11, 3) := by decide +kernel
theorem d_C_write_9 : decode b_C_write 9 = .ok (.iload_n 1, 1) := by decide +kernel
theorem d_C_write_10 : decode b_C_write 10 = .ok (.aload_n 0, 1) := by decide +kernel
theorem d_C_write_11 : decode b_C_write 11 = .ok (.getfield 17, 3) := by decide +kernel
theorem d_C_write_14 : decode b_C_write 14 = .ok (.if_icmp .le 4, 3) := by decide +kernel
theorem d_C_write_17 : decode b_C_write 17 = .ok (.return_, 1) := by decide +kernel
theorem d_C_write_18 : decode b_C_write 18 = .ok (.aload_n 0, 1) := by decide +kernel
theorem d_C_write_19 : decode b_C_write 19 = .ok (.getfield 25, 3) := by decide +kernel
theorem d_C_write_22 : decode b_C_write 22 = .ok (.iload_n 1, 1) := by decide +kernel
theorem d_C_write_23 : decode b_C_write 23 = .ok (.bipush 10, 2) := by decide +kernel
theorem d_C_write_25 : decode b_C_write 25 = .ok (.ishr, 1) := by decide +kernel
theorem d_C_write_26 : decode b_C_write 26 = .ok (.aaload, 1) := by decide +kernel
theorem d_C_write_27 : decode b_C_write 27 = .ok (.astore_n 3, 1) := by decide +kernel
theorem d_C_write_28 : decode b_C_write 28 = .ok (.aload_n 3, 1) := by decide +kernel
theorem d_C_write_29 : decode b_C_write 29 = .ok (.ifnonnull 21, 3) := by decide +kernel
theorem d_C_write_32 : decode b_C_write 32 = .ok (.new 23, 3) := by decide +kernel
theorem d_C_write_35 : decode b_C_write 35 = .ok (.dup, 1) := by decide +kernel
theorem d_C_write_36 : decode b_C_write 36 = .ok (.invokespecial 36, 3) := by decide +kernel
theorem d_C_write_39 : decode b_C_write 39 = .ok (.astore_n 3, 1) := by decide +kernel
theorem d_C_write_40 : decode b_C_write 40 = .ok (.aload_n 0, 1) := by decide +kernel
theorem d_C_write_41 : decode b_C_write 41 = .ok (.getfield 25, 3) := by decide +kernel
theorem d_C_write_44 : decode b_C_write 44 = .ok (.iload_n 1, 1) := by decide +kernel
theorem d_C_write_45 : decode b_C_write 45 = .ok (.bipush 10, 2) := by decide +kernel
theorem d_C_write_47 : decode b_C_write 47 = .ok (.ishr, 1) := by decide +kernel
theorem d_C_write_48 : decode b_C_write 48 = .ok (.aload_n 3, 1) := by decide +kernel
theorem d_C_write_49 : decode b_C_write 49 = .ok (.aastore, 1) := by decide +kernel
theorem d_C_write_50 : decode b_C_write 50 = .ok (.aload_n 3, 1) := by decide +kernel
theorem d_C_write_51 : decode b_C_write 51 = .ok (.getfield 32, 3) := by decide +kernel
theorem d_C_write_54 : decode b_C_write 54 = .ok (.iload_n 1, 1) := by decide +kernel
theorem d_C_write_55 : decode b_C_write 55 = .ok (.sipush 1023, 3) := by decide +kernel
theorem d_C_write_58 : decode b_C_write 58 = .ok (.iand, 1) := by decide +kernel
theorem d_C_write_59 : decode b_C_write 59 = .ok (.iload_n 2, 1) := by decide +kernel
theorem d_C_write_60 : decode b_C_write 60 = .ok (.iastore, 1) := by decide +kernel
theorem d_C_write_61 : decode b_C_write 61 = .ok (.return_, 1) := by decide +kernel
theorem d_C_touch_0 : decode b_C_touch 0 = .ok (.aload_n 0, 1) := by decide +kernel
theorem d_C_touch_1 : decode b_C_touch 1 = .ok (.dup, 1) := by decide +kernel
theorem d_C_touch_2 : decode b_C_touch 2 = .ok (.getfield 7, 3) := by decide +kernel
theorem d_C_touch_5 : decode b_C_touch 5 = .ok (.iconst 1, 1) := by decide +kernel
theorem d_C_touch_6 : decode b_C_touch 6 = .ok (.iadd, 1) := by decide +kernel
theorem d_C_touch_7 : decode b_C_touch 7 = .ok (.putfield 7, 3) := by decide +kernel
theorem d_C_touch_10 : decode b_C_touch 10 = .ok (.aload_n 0, 1) := by decide +kernel
theorem d_C_touch_11 : decode b_C_touch 11 = .ok (.getfield 7, 3) := by decide +kernel
theorem d_C_touch_14 : decode b_C_touch 14 = .ok (.aload_n 0, 1) := by decide +kernel
theorem d_C_touch_15 : decode b_C_touch 15 = .ok (.getfield 20, 3) := by decide +kernel
theorem d_C_touch_18 : decode b_C_touch 18 = .ok (.if_icmp .le 8, 3) := by decide +kernel
theorem d_C_touch_21 : decode b_C_touch 21 = .ok (.aload_n 0, 1) := by decide +kernel
theorem d_C_touch_22 : decode b_C_touch 22 = .ok (.iconst 0, 1) := by decide +kernel
theorem d_C_touch_23 : decode b_C_touch 23 = .ok (.putfield 13, 3) := by decide +kernel
theorem d_C_touch_26 : decode b_C_touch 26 = .ok (.return_, 1) := by decide +kernel
