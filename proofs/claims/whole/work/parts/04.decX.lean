/-! ===== decode rows of StepHeap ===== -/
theorem d_X_init_0 : decode b_X_init 0 = .ok (.aload_n 0, 1) := by decide +kernel
theorem d_X_init_1 : decode b_X_init 1 = .ok (.invokespecial 5, 3) := by decide +kernel
theorem d_X_init_4 : decode b_X_init 4 = .ok (.sipush 1024, 3) := by decide +kernel
theorem d_X_init_7 : decode b_X_init 7 = .ok (.ldc 11, 2) := by decide +kernel
theorem d_X_init_9 : decode b_X_init 9 = .ok (.iload_n 1, 1) := by decide +kernel
theorem d_X_init_10 : decode b_X_init 10 = .ok (.invokestatic 12, 3) := by decide +kernel
theorem d_X_init_13 : decode b_X_init 13 = .ok (.invokestatic 18, 3) := by decide +kernel
theorem d_X_init_16 : decode b_X_init 16 = .ok (.istore_n 3, 1) := by decide +kernel
theorem d_X_init_17 : decode b_X_init 17 = .ok (.iconst 1, 1) := by decide +kernel
theorem d_X_init_18 : decode b_X_init 18 = .ok (.bipush 64, 2) := by decide +kernel
theorem d_X_init_20 : decode b_X_init 20 = .ok (.iload_n 2, 1) := by decide +kernel
theorem d_X_init_21 : decode b_X_init 21 = .ok (.invokestatic 12, 3) := by decide +kernel
theorem d_X_init_24 : decode b_X_init 24 = .ok (.invokestatic 18, 3) := by decide +kernel
theorem d_X_init_27 : decode b_X_init 27 = .ok (.istore 4, 2) := by decide +kernel
theorem d_X_init_29 : decode b_X_init 29 = .ok (.iconst 2, 1) := by decide +kernel
theorem d_X_init_30 : decode b_X_init 30 = .ok (.iload_n 3, 1) := by decide +kernel
theorem d_X_init_31 : decode b_X_init 31 = .ok (.imul, 1) := by decide +kernel
theorem d_X_init_32 : decode b_X_init 32 = .ok (.bipush 64, 2) := by decide +kernel
theorem d_X_init_34 : decode b_X_init 34 = .ok (.iadd, 1) := by decide +kernel
theorem d_X_init_35 : decode b_X_init 35 = .ok (.istore 5, 2) := by decide +kernel
theorem d_X_init_37 : decode b_X_init 37 = .ok (.aload_n 0, 1) := by decide +kernel
theorem d_X_init_38 : decode b_X_init 38 = .ok (.new 21, 3) := by decide +kernel
theorem d_X_init_41 : decode b_X_init 41 = .ok (.dup, 1) := by decide +kernel
theorem d_X_init_42 : decode b_X_init 42 = .ok (.iload 5, 2) := by decide +kernel
theorem d_X_init_44 : decode b_X_init 44 = .ok (.iload 4, 2) := by decide +kernel
theorem d_X_init_46 : decode b_X_init 46 = .ok (.iload_n 3, 1) := by decide +kernel
theorem d_X_init_47 : decode b_X_init 47 = .ok (.iload 4, 2) := by decide +kernel
theorem d_X_init_49 : decode b_X_init 49 = .ok (.imul, 1) := by decide +kernel
theorem d_X_init_50 : decode b_X_init 50 = .ok (.iload 4, 2) := by decide +kernel
theorem d_X_init_52 : decode b_X_init 52 = .ok (.iconst 1, 1) := by decide +kernel
theorem d_X_init_53 : decode b_X_init 53 = .ok (.iadd, 1) := by decide +kernel
theorem d_X_init_54 : decode b_X_init 54 = .ok (.idiv, 1) := by decide +kernel
theorem d_X_init_55 : decode b_X_init 55 = .ok (.invokespecial 23, 3) := by decide +kernel
theorem d_X_init_58 : decode b_X_init 58 = .ok (.putfield 26, 3) := by decide +kernel
theorem d_X_init_61 : decode b_X_init 61 = .ok (.aload_n 0, 1) := by decide +kernel
theorem d_X_init_62 : decode b_X_init 62 = .ok (.aload_n 0, 1) := by decide +kernel
theorem d_X_init_63 : decode b_X_init 63 = .ok (.getfield 26, 3) := by decide +kernel
theorem d_X_init_66 : decode b_X_init 66 = .ok (.getfield 30, 3) := by decide +kernel
theorem d_X_init_69 : decode b_X_init 69 = .ok (.putfield 34, 3) := by decide +kernel
theorem d_X_init_72 : decode b_X_init 72 = .ok (.return_, 1) := by decide +kernel
theorem d_X_make_0 : decode b_X_make 0 = .ok (.iload_n 1, 1) := by decide +kernel
theorem d_X_make_1 : decode b_X_make 1 = .ok (.invokestatic 35, 3) := by decide +kernel
theorem d_X_make_4 : decode b_X_make 4 = .ok (.ifCond .eq 11, 3) := by decide +kernel
theorem d_X_make_7 : decode b_X_make 7 = .ok (.iload_n 2, 1) := by decide +kernel
theorem d_X_make_8 : decode b_X_make 8 = .ok (.iload_n 3, 1) := by decide +kernel
theorem d_X_make_9 : decode b_X_make 9 = .ok (.invokestatic 39, 3) := by decide +kernel
theorem d_X_make_12 : decode b_X_make 12 = .ok (.ifCond .ne 5, 3) := by decide +kernel
theorem d_X_make_15 : decode b_X_make 15 = .ok (.iconst (-1), 1) := by decide +kernel
theorem d_X_make_16 : decode b_X_make 16 = .ok (.ireturn, 1) := by decide +kernel
theorem d_X_make_17 : decode b_X_make 17 = .ok (.aload_n 0, 1) := by decide +kernel
theorem d_X_make_18 : decode b_X_make 18 = .ok (.iload_n 1, 1) := by decide +kernel
theorem d_X_make_19 : decode b_X_make 19 = .ok (.iload_n 2, 1) := by decide +kernel
theorem d_X_make_20 : decode b_X_make 20 = .ok (.iload_n 3, 1) := by decide +kernel
theorem d_X_make_21 : decode b_X_make 21 = .ok (.invokestatic 43, 3) := by decide +kernel
theorem d_X_make_24 : decode b_X_make 24 = .ok (.invokevirtual 48, 3) := by decide +kernel
theorem d_X_make_27 : decode b_X_make 27 = .ok (.ireturn, 1) := by decide +kernel
theorem d_X_array_0 : decode b_X_array 0 = .ok (.iload_n 1, 1) := by decide +kernel
theorem d_X_array_1 : decode b_X_array 1 = .ok (.invokestatic 35, 3) := by decide +kernel
theorem d_X_array_4 : decode b_X_array 4 = .ok (.ifCond .eq 14, 3) := by decide +kernel
theorem d_X_array_7 : decode b_X_array 7 = .ok (.iload_n 2, 1) := by decide +kernel
theorem d_X_array_8 : decode b_X_array 8 = .ok (.ifCond .lt 10, 3) := by decide +kernel
theorem d_X_array_11 : decode b_X_array 11 = .ok (.iload_n 2, 1) := by decide +kernel
theorem d_X_array_12 : decode b_X_array 12 = .ok (.sipush 3375, 3) := by decide +kernel
theorem d_X_array_15 : decode b_X_array 15 = .ok (.if_icmp .le 5, 3) := by decide +kernel
theorem d_X_array_18 : decode b_X_array 18 = .ok (.iconst (-1), 1) := by decide +kernel
theorem d_X_array_19 : decode b_X_array 19 = .ok (.ireturn, 1) := by decide +kernel
theorem d_X_array_20 : decode b_X_array 20 = .ok (.aload_n 0, 1) := by decide +kernel
theorem d_X_array_21 : decode b_X_array 21 = .ok (.iload_n 1, 1) := by decide +kernel
theorem d_X_array_22 : decode b_X_array 22 = .ok (.iload_n 2, 1) := by decide +kernel
theorem d_X_array_23 : decode b_X_array 23 = .ok (.iload_n 3, 1) := by decide +kernel
theorem d_X_array_24 : decode b_X_array 24 = .ok (.invokestatic 51, 3) := by decide +kernel
theorem d_X_array_27 : decode b_X_array 27 = .ok (.invokevirtual 48, 3) := by decide +kernel
theorem d_X_array_30 : decode b_X_array 30 = .ok (.ireturn, 1) := by decide +kernel
theorem d_X_get_0 : decode b_X_get 0 = .ok (.aload_n 0, 1) := by decide +kernel
theorem d_X_get_1 : decode b_X_get 1 = .ok (.iload_n 2, 1) := by decide +kernel
theorem d_X_get_2 : decode b_X_get 2 = .ok (.invokevirtual 55, 3) := by decide +kernel
theorem d_X_get_5 : decode b_X_get 5 = .ok (.istore 4, 2) := by decide +kernel
theorem d_X_get_7 : decode b_X_get 7 = .ok (.iload_n 1, 1) := by decide +kernel
theorem d_X_get_8 : decode b_X_get 8 = .ok (.invokestatic 35, 3) := by decide +kernel
theorem d_X_get_11 : decode b_X_get 11 = .ok (.ifCond .eq 15, 3) := by decide +kernel
theorem d_X_get_14 : decode b_X_get 14 = .ok (.iload_n 3, 1) := by decide +kernel
theorem d_X_get_15 : decode b_X_get 15 = .ok (.iload 4, 2) := by decide +kernel
theorem d_X_get_17 : decode b_X_get 17 = .ok (.invokestatic 59, 3) := by decide +kernel
theorem d_X_get_20 : decode b_X_get 20 = .ok (.invokestatic 62, 3) := by decide +kernel
theorem d_X_get_23 : decode b_X_get 23 = .ok (.ifCond .ne 5, 3) := by decide +kernel
theorem d_X_get_26 : decode b_X_get 26 = .ok (.iconst 0, 1) := by decide +kernel
theorem d_X_get_27 : decode b_X_get 27 = .ok (.ireturn, 1) := by decide +kernel
theorem d_X_get_28 : decode b_X_get 28 = .ok (.aload_n 0, 1) := by decide +kernel
theorem d_X_get_29 : decode b_X_get 29 = .ok (.getfield 26, 3) := by decide +kernel
theorem d_X_get_32 : decode b_X_get 32 = .ok (.iload_n 1, 1) := by decide +kernel
theorem d_X_get_33 : decode b_X_get 33 = .ok (.aload_n 0, 1) := by decide +kernel
theorem d_X_get_34 : decode b_X_get 34 = .ok (.getfield 26, 3) := by decide +kernel
theorem d_X_get_37 : decode b_X_get 37 = .ok (.aload_n 0, 1) := by decide +kernel
theorem d_X_get_38 : decode b_X_get 38 = .ok (.iload_n 2, 1) := by decide +kernel
theorem d_X_get_39 : decode b_X_get 39 = .ok (.iload_n 3, 1) := by decide +kernel
theorem d_X_get_40 : decode b_X_get 40 = .ok (.invokevirtual 65, 3) := by decide +kernel
theorem d_X_get_43 : decode b_X_get 43 = .ok (.invokevirtual 68, 3) := by decide +kernel
theorem d_X_get_46 : decode b_X_get 46 = .ok (.invokevirtual 71, 3) := by decide +kernel
theorem d_X_get_49 : decode b_X_get 49 = .ok (.iconst 1, 1) := by decide +kernel
theorem d_X_get_50 : decode b_X_get 50 = .ok (.ireturn, 1) := by decide +kernel
theorem d_X_put_0 : decode b_X_put 0 = .ok (.aload_n 0, 1) := by decide +kernel
theorem d_X_put_1 : decode b_X_put 1 = .ok (.iload_n 1, 1) := by decide +kernel
theorem d_X_put_2 : decode b_X_put 2 = .ok (.invokevirtual 55, 3) := by decide +kernel
theorem d_X_put_5 : decode b_X_put 5 = .ok (.istore 4, 2) := by decide +kernel
theorem d_X_put_7 : decode b_X_put 7 = .ok (.iload_n 3, 1) := by decide +kernel
theorem d_X_put_8 : decode b_X_put 8 = .ok (.invokestatic 35, 3) := by decide +kernel
theorem d_X_put_11 : decode b_X_put 11 = .ok (.ifCond .eq 15, 3) := by decide +kernel
theorem d_X_put_14 : decode b_X_put 14 = .ok (.iload_n 2, 1) := by decide +kernel
theorem d_X_put_15 : decode b_X_put 15 = .ok (.iload 4, 2) := by decide +kernel
theorem d_X_put_17 : decode b_X_put 17 = .ok (.invokestatic 59, 3) := by decide +kernel
theorem d_X_put_20 : decode b_X_put 20 = .ok (.invokestatic 62, 3) := by decide +kernel
theorem d_X_put_23 : decode b_X_put 23 = .ok (.ifCond .ne 5, 3) := by decide +kernel
theorem d_X_put_26 : decode b_X_put 26 = .ok (.iconst 0, 1) := by decide +kernel
theorem d_X_put_27 : decode b_X_put 27 = .ok (.ireturn, 1) := by decide +kernel
theorem d_X_put_28 : decode b_X_put 28 = .ok (.aload_n 0, 1) := by decide +kernel
theorem d_X_put_29 : decode b_X_put 29 = .ok (.getfield 26, 3) := by decide +kernel
theorem d_X_put_32 : decode b_X_put 32 = .ok (.aload_n 0, 1) := by decide +kernel
theorem d_X_put_33 : decode b_X_put 33 = .ok (.iload_n 1, 1) := by decide +kernel
theorem d_X_put_34 : decode b_X_put 34 = .ok (.iload_n 2, 1) := by decide +kernel
theorem d_X_put_35 : decode b_X_put 35 = .ok (.invokevirtual 65, 3) := by decide +kernel
theorem d_X_put_38 : decode b_X_put 38 = .ok (.aload_n 0, 1) := by decide +kernel
theorem d_X_put_39 : decode b_X_put 39 = .ok (.getfield 26, 3) := by decide +kernel
theorem d_X_put_42 : decode b_X_put 42 = .ok (.iload_n 3, 1) := by decide +kernel
theorem d_X_put_43 : decode b_X_put 43 = .ok (.invokevirtual 75, 3) := by decide +kernel
theorem d_X_put_46 : decode b_X_put 46 = .ok (.invokevirtual 78, 3) := by decide +kernel
theorem d_X_put_49 : decode b_X_put 49 = .ok (.iconst 1, 1) := by decide +kernel
theorem d_X_put_50 : decode b_X_put 50 = .ok (.ireturn, 1) := by decide +kernel
theorem d_X_look_0 : decode b_X_look 0 = .ok (.aload_n 0, 1) := by decide +kernel
theorem d_X_look_1 : decode b_X_look 1 = .ok (.iload_n 1, 1) := by decide +kernel
theorem d_X_look_2 : decode b_X_look 2 = .ok (.invokevirtual 55, 3) := by decide +kernel
theorem d_X_look_5 : decode b_X_look 5 = .ok (.istore_n 3, 1) := by decide +kernel
theorem d_X_look_6 : decode b_X_look 6 = .ok (.iload_n 2, 1) := by decide +kernel
theorem d_X_look_7 : decode b_X_look 7 = .ok (.iload_n 3, 1) := by decide +kernel
theorem d_X_look_8 : decode b_X_look 8 = .ok (.invokestatic 81, 3) := by decide +kernel
theorem d_X_look_11 : decode b_X_look 11 = .ok (.invokestatic 62, 3) := by decide +kernel
theorem d_X_look_14 : decode b_X_look 14 = .ok (.ifCond .ne 7, 3) := by decide +kernel
theorem d_X_look_17 : decode b_X_look 17 = .ok (.ldc2_w 84, 3) := by decide +kernel
theorem d_X_look_20 : decode b_X_look 20 = .ok (.lreturn, 1) := by decide +kernel
theorem d_X_look_21 : decode b_X_look 21 = .ok (.aload_n 0, 1) := by decide +kernel
theorem d_X_look_22 : decode b_X_look 22 = .ok (.getfield 34, 3) := by decide +kernel
theorem d_X_look_25 : decode b_X_look 25 = .ok (.aload_n 0, 1) := by decide +kernel
theorem d_X_look_26 : decode b_X_look 26 = .ok (.iload_n 1, 1) := by decide +kernel
theorem d_X_look_27 : decode b_X_look 27 = .ok (.iload_n 3, 1) := by decide +kernel
theorem d_X_look_28 : decode b_X_look 28 = .ok (.iload_n 2, 1) := by decide +kernel
theorem d_X_look_29 : decode b_X_look 29 = .ok (.invokevirtual 86, 3) := by decide +kernel
theorem d_X_look_32 : decode b_X_look 32 = .ok (.invokevirtual 90, 3) := by decide +kernel
theorem d_X_look_35 : decode b_X_look 35 = .ok (.i2l, 1) := by decide +kernel
theorem d_X_look_36 : decode b_X_look 36 = .ok (.lreturn, 1) := by decide +kernel
theorem d_X_set_0 : decode b_X_set 0 = .ok (.aload_n 0, 1) := by decide +kernel
theorem d_X_set_1 : decode b_X_set 1 = .ok (.iload_n 1, 1) := by decide +kernel
theorem d_X_set_2 : decode b_X_set 2 = .ok (.invokevirtual 55, 3) := by decide +kernel
theorem d_X_set_5 : decode b_X_set 5 = .ok (.istore 4, 2) := by decide +kernel
theorem d_X_set_7 : decode b_X_set 7 = .ok (.iload_n 2, 1) := by decide +kernel
theorem d_X_set_8 : decode b_X_set 8 = .ok (.iload 4, 2) := by decide +kernel
theorem d_X_set_10 : decode b_X_set 10 = .ok (.invokestatic 81, 3) := by decide +kernel
theorem d_X_set_13 : decode b_X_set 13 = .ok (.invokestatic 62, 3) := by decide +kernel
theorem d_X_set_16 : decode b_X_set 16 = .ok (.ifCond .ne 5, 3) := by decide +kernel
theorem d_X_set_19 : decode b_X_set 19 = .ok (.iconst 0, 1) := by decide +kernel
theorem d_X_set_20 : decode b_X_set 20 = .ok (.ireturn, 1) := by decide +kernel
theorem d_X_set_21 : decode b_X_set 21 = .ok (.aload_n 0, 1) := by decide +kernel
theorem d_X_set_22 : decode b_X_set 22 = .ok (.getfield 34, 3) := by decide +kernel
theorem d_X_set_25 : decode b_X_set 25 = .ok (.aload_n 0, 1) := by decide +kernel
theorem d_X_set_26 : decode b_X_set 26 = .ok (.iload_n 1, 1) := by decide +kernel
theorem d_X_set_27 : decode b_X_set 27 = .ok (.iload 4, 2) := by decide +kernel
theorem d_X_set_29 : decode b_X_set 29 = .ok (.iload_n 2, 1) := by decide +kernel
theorem d_X_set_30 : decode b_X_set 30 = .ok (.invokevirtual 86, 3) := by decide +kernel
theorem d_X_set_33 : decode b_X_set 33 = .ok (.iload_n 3, 1) := by decide +kernel
theorem d_X_set_34 : decode b_X_set 34 = .ok (.invokevirtual 95, 3) := by decide +kernel
theorem d_X_set_37 : decode b_X_set 37 = .ok (.iconst 1, 1) := by decide +kernel
theorem d_X_set_38 : decode b_X_set 38 = .ok (.ireturn, 1) := by decide +kernel
theorem d_X_getItem_0 : decode b_X_getItem 0 = .ok (.aload_n 0, 1) := by decide +kernel
theorem d_X_getItem_1 : decode b_X_getItem 1 = .ok (.iload_n 2, 1) := by decide +kernel
theorem d_X_getItem_2 : decode b_X_getItem 2 = .ok (.invokevirtual 55, 3) := by decide +kernel
theorem d_X_getItem_5 : decode b_X_getItem 5 = .ok (.istore 4, 2) := by decide +kernel
theorem d_X_getItem_7 : decode b_X_getItem 7 = .ok (.iload_n 1, 1) := by decide +kernel
theorem d_X_getItem_8 : decode b_X_getItem 8 = .ok (.invokestatic 35, 3) := by decide +kernel
theorem d_X_getItem_11 : decode b_X_getItem 11 = .ok (.ifCond .eq 16, 3) := by decide +kernel
theorem d_X_getItem_14 : decode b_X_getItem 14 = .ok (.iload_n 3, 1) := by decide +kernel
theorem d_X_getItem_15 : decode b_X_getItem 15 = .ok (.iload 4, 2) := by decide +kernel
theorem d_X_getItem_17 : decode b_X_getItem 17 = .ok (.iconst 1, 1) := by decide +kernel
theorem d_X_getItem_18 : decode b_X_getItem 18 = .ok (.invokestatic 98, 3) := by decide +kernel
theorem d_X_getItem_21 : decode b_X_getItem 21 = .ok (.invokestatic 62, 3) := by decide +kernel
theorem d_X_getItem_24 : decode b_X_getItem 24 = .ok (.ifCond .ne 5, 3) := by decide +kernel
theorem d_X_getItem_27 : decode b_X_getItem 27 = .ok (.iconst 0, 1) := by decide +kernel
theorem d_X_getItem_28 : decode b_X_getItem 28 = .ok (.ireturn, 1) := by decide +kernel
theorem d_X_getItem_29 : decode b_X_getItem 29 = .ok (.aload_n 0, 1) := by decide +kernel
theorem d_X_getItem_30 : decode b_X_getItem 30 = .ok (.iload_n 2, 1) := by decide +kernel
theorem d_X_getItem_31 : decode b_X_getItem 31 = .ok (.iload 4, 2) := by decide +kernel
theorem d_X_getItem_33 : decode b_X_getItem 33 = .ok (.iload_n 3, 1) := by decide +kernel
theorem d_X_getItem_34 : decode b_X_getItem 34 = .ok (.invokevirtual 101, 3) := by decide +kernel
theorem d_X_getItem_37 : decode b_X_getItem 37 = .ok (.ifCond .ne 7, 3) := by decide +kernel
theorem d_X_getItem_40 : decode b_X_getItem 40 = .ok (.iconst 1, 1) := by decide +kernel
theorem d_X_getItem_41 : decode b_X_getItem 41 = .ok (.goto 4, 3) := by decide +kernel
theorem d_X_getItem_44 : decode b_X_getItem 44 = .ok (.iconst 0, 1) := by decide +kernel
theorem d_X_getItem_45 : decode b_X_getItem 45 = .ok (.istore 5, 2) := by decide +kernel
theorem d_X_getItem_47 : decode b_X_getItem 47 = .ok (.aload_n 0, 1) := by decide +kernel
theorem d_X_getItem_48 : decode b_X_getItem 48 = .ok (.getfield 26, 3) := by decide +kernel
theorem d_X_getItem_51 : decode b_X_getItem 51 = .ok (.iload_n 1, 1) := by decide +kernel
theorem d_X_getItem_52 : decode b_X_getItem 52 = .ok (.iload 5, 2) := by decide +kernel
theorem d_X_getItem_54 : decode b_X_getItem 54 = .ok (.ifCond .eq 22, 3) := by decide +kernel
theorem d_X_getItem_57 : decode b_X_getItem 57 = .ok (.aload_n 0, 1) := by decide +kernel
theorem d_X_getItem_58 : decode b_X_getItem 58 = .ok (.getfield 26, 3) := by decide +kernel
theorem d_X_getItem_61 : decode b_X_getItem 61 = .ok (.aload_n 0, 1) := by decide +kernel
theorem d_X_getItem_62 : decode b_X_getItem 62 = .ok (.iload_n 2, 1) := by decide +kernel
theorem d_X_getItem_63 : decode b_X_getItem 63 = .ok (.iload 4, 2) := by decide +kernel
theorem d_X_getItem_65 : decode b_X_getItem 65 = .ok (.iload_n 3, 1) := by decide +kernel
theorem d_X_getItem_66 : decode b_X_getItem 66 = .ok (.iconst 0, 1) := by decide +kernel
theorem d_X_getItem_67 : decode b_X_getItem 67 = .ok (.invokevirtual 104, 3) := by decide +kernel
theorem d_X_getItem_70 : decode b_X_getItem 70 = .ok (.invokevirtual 68, 3) := by decide +kernel
theorem d_X_getItem_73 : decode b_X_getItem 73 = .ok (.goto 4, 3) := by decide +kernel
theorem d_X_getItem_76 : decode b_X_getItem 76 = .ok (.iconst 0, 1) := by decide +kernel
theorem d_X_getItem_77 : decode b_X_getItem 77 = .ok (.invokevirtual 71, 3) := by decide +kernel
theorem d_X_getItem_80 : decode b_X_getItem 80 = .ok (.iconst 1, 1) := by decide +kernel
theorem d_X_getItem_81 : decode b_X_getItem 81 = .ok (.ireturn, 1) := by decide +kernel
theorem d_X_putItem_0 : decode b_X_putItem 0 = .ok (.aload_n 0, 1) := by decide +kernel
theorem d_X_putItem_1 : decode b_X_putItem 1 = .ok (.iload_n 1, 1) := by decide +kernel
theorem d_X_putItem_2 : decode b_X_putItem 2 = .ok (.invokevirtual 55, 3) := by decide +kernel
theorem d_X_putItem_5 : decode b_X_putItem 5 = .ok (.istore 4, 2) := by decide +kernel
theorem d_X_putItem_7 : decode b_X_putItem 7 = .ok (.iload_n 3, 1) := by decide +kernel
theorem d_X_putItem_8 : decode b_X_putItem 8 = .ok (.invokestatic 35, 3) := by decide +kernel
theorem d_X_putItem_11 : decode b_X_putItem 11 = .ok (.ifCond .eq 16, 3) := by decide +kernel
theorem d_X_putItem_14 : decode b_X_putItem 14 = .ok (.iload_n 2, 1) := by decide +kernel
theorem d_X_putItem_15 : decode b_X_putItem 15 = .ok (.iload 4, 2) := by decide +kernel
theorem d_X_putItem_17 : decode b_X_putItem 17 = .ok (.iconst 1, 1) := by decide +kernel
theorem d_X_putItem_18 : decode b_X_putItem 18 = .ok (.invokestatic 98, 3) := by decide +kernel
theorem d_X_putItem_21 : decode b_X_putItem 21 = .ok (.invokestatic 62, 3) := by decide +kernel
theorem d_X_putItem_24 : decode b_X_putItem 24 = .ok (.ifCond .ne 5, 3) := by decide +kernel
theorem d_X_putItem_27 : decode b_X_putItem 27 = .ok (.iconst (-1), 1) := by decide +kernel
theorem d_X_putItem_28 : decode b_X_putItem 28 = .ok (.ireturn, 1) := by decide +kernel
theorem d_X_putItem_29 : decode b_X_putItem 29 = .ok (.aload_n 0, 1) := by decide +kernel
theorem d_X_putItem_30 : decode b_X_putItem 30 = .ok (.iload_n 1, 1) := by decide +kernel
theorem d_X_putItem_31 : decode b_X_putItem 31 = .ok (.iload 4, 2) := by decide +kernel
theorem d_X_putItem_33 : decode b_X_putItem 33 = .ok (.iload_n 2, 1) := by decide +kernel
theorem d_X_putItem_34 : decode b_X_putItem 34 = .ok (.invokevirtual 108, 3) := by decide +kernel
theorem d_X_putItem_37 : decode b_X_putItem 37 = .ok (.istore 5, 2) := by decide +kernel
theorem d_X_putItem_39 : decode b_X_putItem 39 = .ok (.iload 5, 2) := by decide +kernel
theorem d_X_putItem_41 : decode b_X_putItem 41 = .ok (.iconst 1, 1) := by decide +kernel
theorem d_X_putItem_42 : decode b_X_putItem 42 = .ok (.if_icmp .ne 27, 3) := by decide +kernel
theorem d_X_putItem_45 : decode b_X_putItem 45 = .ok (.aload_n 0, 1) := by decide +kernel
theorem d_X_putItem_46 : decode b_X_putItem 46 = .ok (.getfield 26, 3) := by decide +kernel
theorem d_X_putItem_49 : decode b_X_putItem 49 = .ok (.aload_n 0, 1) := by decide +kernel
theorem d_X_putItem_50 : decode b_X_putItem 50 = .ok (.iload_n 1, 1) := by decide +kernel
theorem d_X_putItem_51 : decode b_X_putItem 51 = .ok (.iload 4, 2) := by decide +kernel
theorem d_X_putItem_53 : decode b_X_putItem 53 = .ok (.iload_n 2, 1) := by decide +kernel
theorem d_X_putItem_54 : decode b_X_putItem 54 = .ok (.iconst 0, 1) := by decide +kernel
theorem d_X_putItem_55 : decode b_X_putItem 55 = .ok (.invokevirtual 104, 3) := by decide +kernel
theorem d_X_putItem_58 : decode b_X_putItem 58 = .ok (.aload_n 0, 1) := by decide +kernel
theorem d_X_putItem_59 : decode b_X_putItem 59 = .ok (.getfield 26, 3) := by decide +kernel
theorem d_X_putItem_62 : decode b_X_putItem 62 = .ok (.iload_n 3, 1) := by decide +kernel
theorem d_X_putItem_63 : decode b_X_putItem 63 = .ok (.invokevirtual 75, 3) := by decide +kernel
theorem d_X_putItem_66 : decode b_X_putItem 66 = .ok (.invokevirtual 78, 3) := by decide +kernel
theorem d_X_putItem_69 : decode b_X_putItem 69 = .ok (.iload 5, 2) := by decide +kernel
theorem d_X_putItem_71 : decode b_X_putItem 71 = .ok (.ireturn, 1) := by decide +kernel
theorem d_X_lookItem_0 : decode b_X_lookItem 0 = .ok (.aload_n 0, 1) := by decide +kernel
theorem d_X_lookItem_1 : decode b_X_lookItem 1 = .ok (.iload_n 1, 1) := by decide +kernel
theorem d_X_lookItem_2 : decode b_X_lookItem 2 = .ok (.invokevirtual 55, 3) := by decide +kernel
theorem d_X_lookItem_5 : decode b_X_lookItem 5 = .ok (.istore_n 3, 1) := by decide +kernel
theorem d_X_lookItem_6 : decode b_X_lookItem 6 = .ok (.iload_n 2, 1) := by decide +kernel
theorem d_X_lookItem_7 : decode b_X_lookItem 7 = .ok (.iload_n 3, 1) := by decide +kernel
theorem d_X_lookItem_8 : decode b_X_lookItem 8 = .ok (.iconst 0, 1) := by decide +kernel
theorem d_X_lookItem_9 : decode b_X_lookItem 9 = .ok (.invokestatic 98, 3) := by decide +kernel
theorem d_X_lookItem_12 : decode b_X_lookItem 12 = .ok (.invokestatic 62, 3) := by decide +kernel
theorem d_X_lookItem_15 : decode b_X_lookItem 15 = .ok (.ifCond .ne 7, 3) := by decide +kernel
theorem d_X_lookItem_18 : decode b_X_lookItem 18 = .ok (.ldc2_w 84, 3) := by decide +kernel
theorem d_X_lookItem_21 : decode b_X_lookItem 21 = .ok (.lreturn, 1) := by decide +kernel
theorem d_X_lookItem_22 : decode b_X_lookItem 22 = .ok (.aload_n 0, 1) := by decide +kernel
theorem d_X_lookItem_23 : decode b_X_lookItem 23 = .ok (.iload_n 1, 1) := by decide +kernel
theorem d_X_lookItem_24 : decode b_X_lookItem 24 = .ok (.iload_n 3, 1) := by decide +kernel
theorem d_X_lookItem_25 : decode b_X_lookItem 25 = .ok (.iload_n 2, 1) := by decide +kernel
theorem d_X_lookItem_26 : decode b_X_lookItem 26 = .ok (.invokevirtual 101, 3) := by decide +kernel
theorem d_X_lookItem_29 : decode b_X_lookItem 29 = .ok (.ifCond .ne 7, 3) := by decide +kernel
theorem d_X_lookItem_32 : decode b_X_lookItem 32 = .ok (.iconst 1, 1) := by decide +kernel
theorem d_X_lookItem_33 : decode b_X_lookItem 33 = .ok (.goto 4, 3) := by decide +kernel
theorem d_X_lookItem_36 : decode b_X_lookItem 36 = .ok (.iconst 0, 1) := by decide +kernel
theorem d_X_lookItem_37 : decode b_X_lookItem 37 = .ok (.istore 4, 2) := by decide +kernel
theorem d_X_lookItem_39 : decode b_X_lookItem 39 = .ok (.iload 4, 2) := by decide +kernel
theorem d_X_lookItem_41 : decode b_X_lookItem 41 = .ok (.ifCond .eq 22, 3) := by decide +kernel
theorem d_X_lookItem_44 : decode b_X_lookItem 44 = .ok (.aload_n 0, 1) := by decide +kernel
theorem d_X_lookItem_45 : decode b_X_lookItem 45 = .ok (.getfield 34, 3) := by decide +kernel
theorem d_X_lookItem_48 : decode b_X_lookItem 48 = .ok (.aload_n 0, 1) := by decide +kernel
theorem d_X_lookItem_49 : decode b_X_lookItem 49 = .ok (.iload_n 1, 1) := by decide +kernel
theorem d_X_lookItem_50 : decode b_X_lookItem 50 = .ok (.iload_n 3, 1) := by decide +kernel
theorem d_X_lookItem_51 : decode b_X_lookItem 51 = .ok (.iload_n 2, 1) := by decide +kernel
theorem d_X_lookItem_52 : decode b_X_lookItem 52 = .ok (.iconst 0, 1) := by decide +kernel
theorem d_X_lookItem_53 : decode b_X_lookItem 53 = .ok (.invokevirtual 104, 3) := by decide +kernel
theorem d_X_lookItem_56 : decode b_X_lookItem 56 = .ok (.invokevirtual 90, 3) := by decide +kernel
theorem d_X_lookItem_59 : decode b_X_lookItem 59 = .ok (.i2l, 1) := by decide +kernel
theorem d_X_lookItem_60 : decode b_X_lookItem 60 = .ok (.goto 4, 3) := by decide +kernel
theorem d_X_lookItem_63 : decode b_X_lookItem 63 = .ok (.lconst 0, 1) := by decide +kernel
theorem d_X_lookItem_64 : decode b_X_lookItem 64 = .ok (.lreturn, 1) := by decide +kernel
theorem d_X_setItem_0 : decode b_X_setItem 0 = .ok (.aload_n 0, 1) := by decide +kernel
theorem d_X_setItem_1 : decode b_X_setItem 1 = .ok (.iload_n 1, 1) := by decide +kernel
theorem d_X_setItem_2 : decode b_X_setItem 2 = .ok (.invokevirtual 55, 3) := by decide +kernel
theorem d_X_setItem_5 : decode b_X_setItem 5 = .ok (.istore 4, 2) := by decide +kernel
theorem d_X_setItem_7 : decode b_X_setItem 7 = .ok (.iload_n 2, 1) := by decide +kernel
theorem d_X_setItem_8 : decode b_X_setItem 8 = .ok (.iload 4, 2) := by decide +kernel
theorem d_X_setItem_10 : decode b_X_setItem 10 = .ok (.iconst 0, 1) := by decide +kernel
theorem d_X_setItem_11 : decode b_X_setItem 11 = .ok (.invokestatic 98, 3) := by decide +kernel
theorem d_X_setItem_14 : decode b_X_setItem 14 = .ok (.invokestatic 62, 3) := by decide +kernel
theorem d_X_setItem_17 : decode b_X_setItem 17 = .ok (.ifCond .ne 5, 3) := by decide +kernel
theorem d_X_setItem_20 : decode b_X_setItem 20 = .ok (.iconst (-1), 1) := by decide +kernel
theorem d_X_setItem_21 : decode b_X_setItem 21 = .ok (.ireturn, 1) := by decide +kernel
theorem d_X_setItem_22 : decode b_X_setItem 22 = .ok (.aload_n 0, 1) := by decide +kernel
theorem d_X_setItem_23 : decode b_X_setItem 23 = .ok (.iload_n 1, 1) := by decide +kernel
theorem d_X_setItem_24 : decode b_X_setItem 24 = .ok (.iload 4, 2) := by decide +kernel
theorem d_X_setItem_26 : decode b_X_setItem 26 = .ok (.iload_n 2, 1) := by decide +kernel
theorem d_X_setItem_27 : decode b_X_setItem 27 = .ok (.invokevirtual 108, 3) := by decide +kernel
theorem d_X_setItem_30 : decode b_X_setItem 30 = .ok (.istore 5, 2) := by decide +kernel
theorem d_X_setItem_32 : decode b_X_setItem 32 = .ok (.iload 5, 2) := by decide +kernel
theorem d_X_setItem_34 : decode b_X_setItem 34 = .ok (.iconst 1, 1) := by decide +kernel
theorem d_X_setItem_35 : decode b_X_setItem 35 = .ok (.if_icmp .ne 20, 3) := by decide +kernel
theorem d_X_setItem_38 : decode b_X_setItem 38 = .ok (.aload_n 0, 1) := by decide +kernel
theorem d_X_setItem_39 : decode b_X_setItem 39 = .ok (.getfield 34, 3) := by decide +kernel
theorem d_X_setItem_42 : decode b_X_setItem 42 = .ok (.aload_n 0, 1) := by decide +kernel
theorem d_X_setItem_43 : decode b_X_setItem 43 = .ok (.iload_n 1, 1) := by decide +kernel
theorem d_X_setItem_44 : decode b_X_setItem 44 = .ok (.iload 4, 2) := by decide +kernel
theorem d_X_setItem_46 : decode b_X_setItem 46 = .ok (.iload_n 2, 1) := by decide +kernel
theorem d_X_setItem_47 : decode b_X_setItem 47 = .ok (.iconst 0, 1) := by decide +kernel
theorem d_X_setItem_48 : decode b_X_setItem 48 = .ok (.invokevirtual 104, 3) := by decide +kernel
theorem d_X_setItem_51 : decode b_X_setItem 51 = .ok (.iload_n 3, 1) := by decide +kernel
theorem d_X_setItem_52 : decode b_X_setItem 52 = .ok (.invokevirtual 95, 3) := by decide +kernel
theorem d_X_setItem_55 : decode b_X_setItem 55 = .ok (.iload 5, 2) := by decide +kernel
theorem d_X_setItem_57 : decode b_X_setItem 57 = .ok (.ireturn, 1) := by decide +kernel
theorem d_X_copy_0 : decode b_X_copy 0 = .ok (.iload_n 1, 1) := by decide +kernel
theorem d_X_copy_1 : decode b_X_copy 1 = .ok (.invokestatic 35, 3) := by decide +kernel
theorem d_X_copy_4 : decode b_X_copy 4 = .ok (.ifCond .eq 10, 3) := by decide +kernel
theorem d_X_copy_7 : decode b_X_copy 7 = .ok (.iload_n 2, 1) := by decide +kernel
theorem d_X_copy_8 : decode b_X_copy 8 = .ok (.invokestatic 35, 3) := by decide +kernel
theorem d_X_copy_11 : decode b_X_copy 11 = .ok (.ifCond .ne 5, 3) := by decide +kernel
theorem d_X_copy_14 : decode b_X_copy 14 = .ok (.iconst 0, 1) := by decide +kernel
theorem d_X_copy_15 : decode b_X_copy 15 = .ok (.ireturn, 1) := by decide +kernel
theorem d_X_copy_16 : decode b_X_copy 16 = .ok (.aload_n 0, 1) := by decide +kernel
theorem d_X_copy_17 : decode b_X_copy 17 = .ok (.getfield 26, 3) := by decide +kernel
theorem d_X_copy_20 : decode b_X_copy 20 = .ok (.iload_n 1, 1) := by decide +kernel
theorem d_X_copy_21 : decode b_X_copy 21 = .ok (.aload_n 0, 1) := by decide +kernel
theorem d_X_copy_22 : decode b_X_copy 22 = .ok (.getfield 26, 3) := by decide +kernel
theorem d_X_copy_25 : decode b_X_copy 25 = .ok (.iload_n 2, 1) := by decide +kernel
theorem d_X_copy_26 : decode b_X_copy 26 = .ok (.invokevirtual 75, 3) := by decide +kernel
theorem d_X_copy_29 : decode b_X_copy 29 = .ok (.invokevirtual 71, 3) := by decide +kernel
theorem d_X_copy_32 : decode b_X_copy 32 = .ok (.iconst 1, 1) := by decide +kernel
theorem d_X_copy_33 : decode b_X_copy 33 = .ok (.ireturn, 1) := by decide +kernel
theorem d_X_drop_0 : decode b_X_drop 0 = .ok (.aload_n 0, 1) := by decide +kernel
theorem d_X_drop_1 : decode b_X_drop 1 = .ok (.getfield 26, 3) := by decide +kernel
theorem d_X_drop_4 : decode b_X_drop 4 = .ok (.iload_n 1, 1) := by decide +kernel
theorem d_X_drop_5 : decode b_X_drop 5 = .ok (.invokevirtual 75, 3) := by decide +kernel
theorem d_X_drop_8 : decode b_X_drop 8 = .ok (.ifCond .eq 7, 3) := by decide +kernel
theorem d_X_drop_11 : decode b_X_drop 11 = .ok (.iconst 1, 1) := by decide +kernel
theorem d_X_drop_12 : decode b_X_drop 12 = .ok (.goto 4, 3) := by decide +kernel
theorem d_X_drop_15 : decode b_X_drop 15 = .ok (.iconst 0, 1) := by decide +kernel
theorem d_X_drop_16 : decode b_X_drop 16 = .ok (.istore_n 2, 1) := by decide +kernel
theorem d_X_drop_17 : decode b_X_drop 17 = .ok (.aload_n 0, 1) := by decide +kernel
theorem d_X_drop_18 : decode b_X_drop 18 = .ok (.getfield 26, 3) := by decide +kernel
theorem d_X_drop_21 : decode b_X_drop 21 = .ok (.iload_n 1, 1) := by decide +kernel
theorem d_X_drop_22 : decode b_X_drop 22 = .ok (.iconst 0, 1) := by decide +kernel
theorem d_X_drop_23 : decode b_X_drop 23 = .ok (.invokevirtual 71, 3) := by decide +kernel
theorem d_X_drop_26 : decode b_X_drop 26 = .ok (.iload_n 2, 1) := by decide +kernel
theorem d_X_drop_27 : decode b_X_drop 27 = .ok (.ireturn, 1) := by decide +kernel
theorem d_X_same_0 : decode b_X_same 0 = .ok (.iload_n 1, 1) := by decide +kernel
theorem d_X_same_1 : decode b_X_same 1 = .ok (.invokestatic 35, 3) := by decide +kernel
theorem d_X_same_4 : decode b_X_same 4 = .ok (.ifCond .eq 33, 3) := by decide +kernel
theorem d_X_same_7 : decode b_X_same 7 = .ok (.iload_n 2, 1) := by decide +kernel
theorem d_X_same_8 : decode b_X_same 8 = .ok (.invokestatic 35, 3) := by decide +kernel
theorem d_X_same_11 : decode b_X_same 11 = .ok (.ifCond .eq 26, 3) := by decide +kernel
theorem d_X_same_14 : decode b_X_same 14 = .ok (.aload_n 0, 1) := by decide +kernel
theorem d_X_same_15 : decode b_X_same 15 = .ok (.getfield 26, 3) := by decide +kernel
theorem d_X_same_18 : decode b_X_same 18 = .ok (.iload_n 1, 1) := by decide +kernel
theorem d_X_same_19 : decode b_X_same 19 = .ok (.invokevirtual 75, 3) := by decide +kernel
theorem d_X_same_22 : decode b_X_same 22 = .ok (.aload_n 0, 1) := by decide +kernel
theorem d_X_same_23 : decode b_X_same 23 = .ok (.getfield 26, 3) := by decide +kernel
theorem d_X_same_26 : decode b_X_same 26 = .ok (.iload_n 2, 1) := by decide +kernel
theorem d_X_same_27 : decode b_X_same 27 = .ok (.invokevirtual 75, 3) := by decide +kernel
theorem d_X_same_30 : decode b_X_same 30 = .ok (.if_icmp .ne 7, 3) := by decide +kernel
theorem d_X_same_33 : decode b_X_same 33 = .ok (.iconst 1, 1) := by decide +kernel
theorem d_X_same_34 : decode b_X_same 34 = .ok (.goto 4, 3) := by decide +kernel
theorem d_X_same_37 : decode b_X_same 37 = .ok (.iconst 0, 1) := by decide +kernel
theorem d_X_same_38 : decode b_X_same 38 = .ok (.ireturn, 1) := by decide +kernel
theorem d_X_size_0 : decode b_X_size 0 = .ok (.aload_n 0, 1) := by decide +kernel
theorem d_X_size_1 : decode b_X_size 1 = .ok (.iload_n 1, 1) := by decide +kernel
theorem d_X_size_2 : decode b_X_size 2 = .ok (.invokevirtual 55, 3) := by decide +kernel
theorem d_X_size_5 : decode b_X_size 5 = .ok (.istore_n 3, 1) := by decide +kernel
theorem d_X_size_6 : decode b_X_size 6 = .ok (.iload_n 3, 1) := by decide +kernel
theorem d_X_size_7 : decode b_X_size 7 = .ok (.ifCond .ne 5, 3) := by decide +kernel
theorem d_X_size_10 : decode b_X_size 10 = .ok (.iconst (-1), 1) := by decide +kernel
theorem d_X_size_11 : decode b_X_size 11 = .ok (.ireturn, 1) := by decide +kernel
theorem d_X_size_12 : decode b_X_size 12 = .ok (.iload_n 3, 1) := by decide +kernel
theorem d_X_size_13 : decode b_X_size 13 = .ok (.invokestatic 111, 3) := by decide +kernel
theorem d_X_size_16 : decode b_X_size 16 = .ok (.istore 4, 2) := by decide +kernel
theorem d_X_size_18 : decode b_X_size 18 = .ok (.iload_n 2, 1) := by decide +kernel
theorem d_X_size_19 : decode b_X_size 19 = .ok (.tableswitch 76 0 3 #[29, 43, 57, 71], 29) := by decide +kernel
theorem d_X_size_48 : decode b_X_size 48 = .ok (.iload 4, 2) := by decide +kernel
theorem d_X_size_50 : decode b_X_size 50 = .ok (.ifCond .eq 7, 3) := by decide +kernel
theorem d_X_size_53 : decode b_X_size 53 = .ok (.iconst (-1), 1) := by decide +kernel
theorem d_X_size_54 : decode b_X_size 54 = .ok (.goto 7, 3) := by decide +kernel
theorem d_X_size_57 : decode b_X_size 57 = .ok (.iload_n 3, 1) := by decide +kernel
theorem d_X_size_58 : decode b_X_size 58 = .ok (.invokestatic 59, 3) := by decide +kernel
theorem d_X_size_61 : decode b_X_size 61 = .ok (.ireturn, 1) := by decide +kernel
theorem d_X_size_62 : decode b_X_size 62 = .ok (.iload 4, 2) := by decide +kernel
theorem d_X_size_64 : decode b_X_size 64 = .ok (.ifCond .eq 7, 3) := by decide +kernel
theorem d_X_size_67 : decode b_X_size 67 = .ok (.iconst (-1), 1) := by decide +kernel
theorem d_X_size_68 : decode b_X_size 68 = .ok (.goto 7, 3) := by decide +kernel
theorem d_X_size_71 : decode b_X_size 71 = .ok (.iload_n 3, 1) := by decide +kernel
theorem d_X_size_72 : decode b_X_size 72 = .ok (.invokestatic 81, 3) := by decide +kernel
theorem d_X_size_75 : decode b_X_size 75 = .ok (.ireturn, 1) := by decide +kernel
theorem d_X_size_76 : decode b_X_size 76 = .ok (.iload 4, 2) := by decide +kernel
theorem d_X_size_78 : decode b_X_size 78 = .ok (.ifCond .eq 10, 3) := by decide +kernel
theorem d_X_size_81 : decode b_X_size 81 = .ok (.iload_n 3, 1) := by decide +kernel
theorem d_X_size_82 : decode b_X_size 82 = .ok (.invokestatic 114, 3) := by decide +kernel
theorem d_X_size_85 : decode b_X_size 85 = .ok (.goto 4, 3) := by decide +kernel
theorem d_X_size_88 : decode b_X_size 88 = .ok (.iconst (-1), 1) := by decide +kernel
theorem d_X_size_89 : decode b_X_size 89 = .ok (.ireturn, 1) := by decide +kernel
theorem d_X_size_90 : decode b_X_size 90 = .ok (.iload_n 3, 1) := by decide +kernel
theorem d_X_size_91 : decode b_X_size 91 = .ok (.invokestatic 117, 3) := by decide +kernel
theorem d_X_size_94 : decode b_X_size 94 = .ok (.ireturn, 1) := by decide +kernel
theorem d_X_size_95 : decode b_X_size 95 = .ok (.iconst (-1), 1) := by decide +kernel
theorem d_X_size_96 : decode b_X_size 96 = .ok (.ireturn, 1) := by decide +kernel
theorem d_X_told_0 : decode b_X_told 0 = .ok (.iload_n 1, 1) := by decide +kernel
theorem d_X_told_1 : decode b_X_told 1 = .ok (.tableswitch 97 0 4 #[35, 43, 59, 81, 89], 35) := by decide +kernel
theorem d_X_told_36 : decode b_X_told 36 = .ok (.aload_n 0, 1) := by decide +kernel
theorem d_X_told_37 : decode b_X_told 37 = .ok (.getfield 26, 3) := by decide +kernel
theorem d_X_told_40 : decode b_X_told 40 = .ok (.getfield 119, 3) := by decide +kernel
theorem d_X_told_43 : decode b_X_told 43 = .ok (.ireturn, 1) := by decide +kernel
theorem d_X_told_44 : decode b_X_told 44 = .ok (.aload_n 0, 1) := by decide +kernel
theorem d_X_told_45 : decode b_X_told 45 = .ok (.getfield 26, 3) := by decide +kernel
theorem d_X_told_48 : decode b_X_told 48 = .ok (.invokevirtual 123, 3) := by decide +kernel
theorem d_X_told_51 : decode b_X_told 51 = .ok (.ifCond .eq 7, 3) := by decide +kernel
theorem d_X_told_54 : decode b_X_told 54 = .ok (.iconst 1, 1) := by decide +kernel
theorem d_X_told_55 : decode b_X_told 55 = .ok (.goto 4, 3) := by decide +kernel
theorem d_X_told_58 : decode b_X_told 58 = .ok (.iconst 0, 1) := by decide +kernel
theorem d_X_told_59 : decode b_X_told 59 = .ok (.ireturn, 1) := by decide +kernel
theorem d_X_told_60 : decode b_X_told 60 = .ok (.aload_n 0, 1) := by decide +kernel
theorem d_X_told_61 : decode b_X_told 61 = .ok (.getfield 26, 3) := by decide +kernel
theorem d_X_told_64 : decode b_X_told 64 = .ok (.invokevirtual 123, 3) := by decide +kernel
theorem d_X_told_67 : decode b_X_told 67 = .ok (.ifCond .eq 13, 3) := by decide +kernel
theorem d_X_told_70 : decode b_X_told 70 = .ok (.aload_n 0, 1) := by decide +kernel
theorem d_X_told_71 : decode b_X_told 71 = .ok (.getfield 26, 3) := by decide +kernel
theorem d_X_told_74 : decode b_X_told 74 = .ok (.invokevirtual 127, 3) := by decide +kernel
theorem d_X_told_77 : decode b_X_told 77 = .ok (.goto 4, 3) := by decide +kernel
theorem d_X_told_80 : decode b_X_told 80 = .ok (.iconst (-1), 1) := by decide +kernel
theorem d_X_told_81 : decode b_X_told 81 = .ok (.ireturn, 1) := by decide +kernel
theorem d_X_told_82 : decode b_X_told 82 = .ok (.aload_n 0, 1) := by decide +kernel
theorem d_X_told_83 : decode b_X_told 83 = .ok (.getfield 26, 3) := by decide +kernel
theorem d_X_told_86 : decode b_X_told 86 = .ok (.getfield 131, 3) := by decide +kernel
theorem d_X_told_89 : decode b_X_told 89 = .ok (.ireturn, 1) := by decide +kernel
theorem d_X_told_90 : decode b_X_told 90 = .ok (.aload_n 0, 1) := by decide +kernel
theorem d_X_told_91 : decode b_X_told 91 = .ok (.getfield 26, 3) := by decide +kernel
theorem d_X_told_94 : decode b_X_told 94 = .ok (.getfield 134, 3) := by decide +kernel
theorem d_X_told_97 : decode b_X_told 97 = .ok (.ireturn, 1) := by decide +kernel
theorem d_X_told_98 : decode b_X_told 98 = .ok (.iconst (-1), 1) := by decide +kernel
theorem d_X_told_99 : decode b_X_told 99 = .ok (.ireturn, 1) := by decide +kernel
theorem d_X_steady_0 : decode b_X_steady 0 = .ok (.aload_n 0, 1) := by decide +kernel
theorem d_X_steady_1 : decode b_X_steady 1 = .ok (.getfield 34, 3) := by decide +kernel
theorem d_X_steady_4 : decode b_X_steady 4 = .ok (.getfield 137, 3) := by decide +kernel
theorem d_X_steady_7 : decode b_X_steady 7 = .ok (.ireturn, 1) := by decide +kernel
theorem d_X_isRegister_0 : decode b_X_isRegister 0 = .ok (.iload_n 0, 1) := by decide +kernel
theorem d_X_isRegister_1 : decode b_X_isRegister 1 = .ok (.bipush 8, 2) := by decide +kernel
theorem d_X_isRegister_3 : decode b_X_isRegister 3 = .ok (.invokestatic 62, 3) := by decide +kernel
theorem d_X_isRegister_6 : decode b_X_isRegister 6 = .ok (.ireturn, 1) := by decide +kernel
theorem d_X_isBelow_0 : decode b_X_isBelow 0 = .ok (.iload_n 0, 1) := by decide +kernel
theorem d_X_isBelow_1 : decode b_X_isBelow 1 = .ok (.ifCond .lt 12, 3) := by decide +kernel
theorem d_X_isBelow_4 : decode b_X_isBelow 4 = .ok (.iload_n 0, 1) := by decide +kernel
theorem d_X_isBelow_5 : decode b_X_isBelow 5 = .ok (.iload_n 1, 1) := by decide +kernel
theorem d_X_isBelow_6 : decode b_X_isBelow 6 = .ok (.if_icmp .ge 7, 3) := by decide +kernel
theorem d_X_isBelow_9 : decode b_X_isBelow 9 = .ok (.iconst 1, 1) := by decide +kernel
theorem d_X_isBelow_10 : decode b_X_isBelow 10 = .ok (.goto 4, 3) := by decide +kernel
theorem d_X_isBelow_13 : decode b_X_isBelow 13 = .ok (.iconst 0, 1) := by decide +kernel
theorem d_X_isBelow_14 : decode b_X_isBelow 14 = .ok (.ireturn, 1) := by decide +kernel
theorem d_X_isShape_0 : decode b_X_isShape 0 = .ok (.iload_n 0, 1) := by decide +kernel
theorem d_X_isShape_1 : decode b_X_isShape 1 = .ok (.bipush 16, 2) := by decide +kernel
theorem d_X_isShape_3 : decode b_X_isShape 3 = .ok (.invokestatic 62, 3) := by decide +kernel
theorem d_X_isShape_6 : decode b_X_isShape 6 = .ok (.ifCond .eq 26, 3) := by decide +kernel
theorem d_X_isShape_9 : decode b_X_isShape 9 = .ok (.iload_n 1, 1) := by decide +kernel
theorem d_X_isShape_10 : decode b_X_isShape 10 = .ok (.bipush 16, 2) := by decide +kernel
theorem d_X_isShape_12 : decode b_X_isShape 12 = .ok (.invokestatic 62, 3) := by decide +kernel
theorem d_X_isShape_15 : decode b_X_isShape 15 = .ok (.ifCond .eq 17, 3) := by decide +kernel
theorem d_X_isShape_18 : decode b_X_isShape 18 = .ok (.iconst 1, 1) := by decide +kernel
theorem d_X_isShape_19 : decode b_X_isShape 19 = .ok (.iload_n 0, 1) := by decide +kernel
theorem d_X_isShape_20 : decode b_X_isShape 20 = .ok (.iadd, 1) := by decide +kernel
theorem d_X_isShape_21 : decode b_X_isShape 21 = .ok (.iload_n 1, 1) := by decide +kernel
theorem d_X_isShape_22 : decode b_X_isShape 22 = .ok (.iadd, 1) := by decide +kernel
theorem d_X_isShape_23 : decode b_X_isShape 23 = .ok (.bipush 16, 2) := by decide +kernel
theorem d_X_isShape_25 : decode b_X_isShape 25 = .ok (.if_icmp .gt 7, 3) := by decide +kernel
theorem d_X_isShape_28 : decode b_X_isShape 28 = .ok (.iconst 1, 1) := by decide +kernel
theorem d_X_isShape_29 : decode b_X_isShape 29 = .ok (.goto 4, 3) := by decide +kernel
theorem d_X_isShape_32 : decode b_X_isShape 32 = .ok (.iconst 0, 1) := by decide +kernel
theorem d_X_isShape_33 : decode b_X_isShape 33 = .ok (.ireturn, 1) := by decide +kernel
theorem d_X_fillRegister_0 : decode b_X_fillRegister 0 = .ok (.aload_n 0, 1) := by decide +kernel
theorem d_X_fillRegister_1 : decode b_X_fillRegister 1 = .ok (.getfield 34, 3) := by decide +kernel
theorem d_X_fillRegister_4 : decode b_X_fillRegister 4 = .ok (.invokevirtual 141, 3) := by decide +kernel
theorem d_X_fillRegister_7 : decode b_X_fillRegister 7 = .ok (.aload_n 0, 1) := by decide +kernel
theorem d_X_fillRegister_8 : decode b_X_fillRegister 8 = .ok (.getfield 26, 3) := by decide +kernel
theorem d_X_fillRegister_11 : decode b_X_fillRegister 11 = .ok (.iload_n 2, 1) := by decide +kernel
theorem d_X_fillRegister_12 : decode b_X_fillRegister 12 = .ok (.invokestatic 117, 3) := by decide +kernel
theorem d_X_fillRegister_15 : decode b_X_fillRegister 15 = .ok (.invokevirtual 144, 3) := by decide +kernel
theorem d_X_fillRegister_18 : decode b_X_fillRegister 18 = .ok (.ifCond .ne 5, 3) := by decide +kernel
theorem d_X_fillRegister_21 : decode b_X_fillRegister 21 = .ok (.iconst 0, 1) := by decide +kernel
theorem d_X_fillRegister_22 : decode b_X_fillRegister 22 = .ok (.ireturn, 1) := by decide +kernel
theorem d_X_fillRegister_23 : decode b_X_fillRegister 23 = .ok (.aload_n 0, 1) := by decide +kernel
theorem d_X_fillRegister_24 : decode b_X_fillRegister 24 = .ok (.getfield 26, 3) := by decide +kernel
theorem d_X_fillRegister_27 : decode b_X_fillRegister 27 = .ok (.iload_n 1, 1) := by decide +kernel
theorem d_X_fillRegister_28 : decode b_X_fillRegister 28 = .ok (.aload_n 0, 1) := by decide +kernel
theorem d_X_fillRegister_29 : decode b_X_fillRegister 29 = .ok (.getfield 26, 3) := by decide +kernel
theorem d_X_fillRegister_32 : decode b_X_fillRegister 32 = .ok (.iload_n 2, 1) := by decide +kernel
theorem d_X_fillRegister_33 : decode b_X_fillRegister 33 = .ok (.invokevirtual 147, 3) := by decide +kernel
theorem d_X_fillRegister_36 : decode b_X_fillRegister 36 = .ok (.invokevirtual 71, 3) := by decide +kernel
theorem d_X_fillRegister_39 : decode b_X_fillRegister 39 = .ok (.iconst 1, 1) := by decide +kernel
theorem d_X_fillRegister_40 : decode b_X_fillRegister 40 = .ok (.ireturn, 1) := by decide +kernel
theorem d_X_headOf_0 : decode b_X_headOf 0 = .ok (.aload_n 0, 1) := by decide +kernel
theorem d_X_headOf_1 : decode b_X_headOf 1 = .ok (.getfield 34, 3) := by decide +kernel
theorem d_X_headOf_4 : decode b_X_headOf 4 = .ok (.invokevirtual 141, 3) := by decide +kernel
theorem d_X_headOf_7 : decode b_X_headOf 7 = .ok (.aload_n 0, 1) := by decide +kernel
theorem d_X_headOf_8 : decode b_X_headOf 8 = .ok (.getfield 26, 3) := by decide +kernel
theorem d_X_headOf_11 : decode b_X_headOf 11 = .ok (.iload_n 1, 1) := by decide +kernel
theorem d_X_headOf_12 : decode b_X_headOf 12 = .ok (.invokevirtual 75, 3) := by decide +kernel
theorem d_X_headOf_15 : decode b_X_headOf 15 = .ok (.istore_n 2, 1) := by decide +kernel
theorem d_X_headOf_16 : decode b_X_headOf 16 = .ok (.iload_n 2, 1) := by decide +kernel
theorem d_X_headOf_17 : decode b_X_headOf 17 = .ok (.ifCond .ne 7, 3) := by decide +kernel
theorem d_X_headOf_20 : decode b_X_headOf 20 = .ok (.iconst 0, 1) := by decide +kernel
theorem d_X_headOf_21 : decode b_X_headOf 21 = .ok (.goto 11, 3) := by decide +kernel
theorem d_X_headOf_24 : decode b_X_headOf 24 = .ok (.aload_n 0, 1) := by decide +kernel
theorem d_X_headOf_25 : decode b_X_headOf 25 = .ok (.getfield 34, 3) := by decide +kernel
theorem d_X_headOf_28 : decode b_X_headOf 28 = .ok (.iload_n 2, 1) := by decide +kernel
theorem d_X_headOf_29 : decode b_X_headOf 29 = .ok (.invokevirtual 90, 3) := by decide +kernel
theorem d_X_headOf_32 : decode b_X_headOf 32 = .ok (.ireturn, 1) := by decide +kernel
theorem d_X_referenceCell_0 : decode b_X_referenceCell 0 = .ok (.aload_n 0, 1) := by decide +kernel
theorem d_X_referenceCell_1 : decode b_X_referenceCell 1 = .ok (.getfield 26, 3) := by decide +kernel
theorem d_X_referenceCell_4 : decode b_X_referenceCell 4 = .ok (.iload_n 1, 1) := by decide +kernel
theorem d_X_referenceCell_5 : decode b_X_referenceCell 5 = .ok (.invokevirtual 75, 3) := by decide +kernel
theorem d_X_referenceCell_8 : decode b_X_referenceCell 8 = .ok (.iconst 1, 1) := by decide +kernel
theorem d_X_referenceCell_9 : decode b_X_referenceCell 9 = .ok (.iadd, 1) := by decide +kernel
theorem d_X_referenceCell_10 : decode b_X_referenceCell 10 = .ok (.iload_n 2, 1) := by decide +kernel
theorem d_X_referenceCell_11 : decode b_X_referenceCell 11 = .ok (.iadd, 1) := by decide +kernel
theorem d_X_referenceCell_12 : decode b_X_referenceCell 12 = .ok (.ireturn, 1) := by decide +kernel
theorem d_X_intCell_0 : decode b_X_intCell 0 = .ok (.aload_n 0, 1) := by decide +kernel
theorem d_X_intCell_1 : decode b_X_intCell 1 = .ok (.getfield 26, 3) := by decide +kernel
theorem d_X_intCell_4 : decode b_X_intCell 4 = .ok (.iload_n 1, 1) := by decide +kernel
theorem d_X_intCell_5 : decode b_X_intCell 5 = .ok (.invokevirtual 75, 3) := by decide +kernel
theorem d_X_intCell_8 : decode b_X_intCell 8 = .ok (.iconst 1, 1) := by decide +kernel
theorem d_X_intCell_9 : decode b_X_intCell 9 = .ok (.iadd, 1) := by decide +kernel
theorem d_X_intCell_10 : decode b_X_intCell 10 = .ok (.iload_n 2, 1) := by decide +kernel
theorem d_X_intCell_11 : decode b_X_intCell 11 = .ok (.invokestatic 59, 3) := by decide +kernel
theorem d_X_intCell_14 : decode b_X_intCell 14 = .ok (.iadd, 1) := by decide +kernel
theorem d_X_intCell_15 : decode b_X_intCell 15 = .ok (.iload_n 3, 1) := by decide +kernel
theorem d_X_intCell_16 : decode b_X_intCell 16 = .ok (.iadd, 1) := by decide +kernel
theorem d_X_intCell_17 : decode b_X_intCell 17 = .ok (.ireturn, 1) := by decide +kernel
theorem d_X_openWay_0 : decode b_X_openWay 0 = .ok (.aload_n 0, 1) := by decide +kernel
theorem d_X_openWay_1 : decode b_X_openWay 1 = .ok (.iload_n 1, 1) := by decide +kernel
theorem d_X_openWay_2 : decode b_X_openWay 2 = .ok (.iload_n 2, 1) := by decide +kernel
theorem d_X_openWay_3 : decode b_X_openWay 3 = .ok (.iload_n 3, 1) := by decide +kernel
theorem d_X_openWay_4 : decode b_X_openWay 4 = .ok (.invokevirtual 101, 3) := by decide +kernel
theorem d_X_openWay_7 : decode b_X_openWay 7 = .ok (.istore 4, 2) := by decide +kernel
theorem d_X_openWay_9 : decode b_X_openWay 9 = .ok (.iload 4, 2) := by decide +kernel
theorem d_X_openWay_11 : decode b_X_openWay 11 = .ok (.ifCond .ne 5, 3) := by decide +kernel
theorem d_X_openWay_14 : decode b_X_openWay 14 = .ok (.iconst 1, 1) := by decide +kernel
theorem d_X_openWay_15 : decode b_X_openWay 15 = .ok (.ireturn, 1) := by decide +kernel
theorem d_X_openWay_16 : decode b_X_openWay 16 = .ok (.aload_n 0, 1) := by decide +kernel
theorem d_X_openWay_17 : decode b_X_openWay 17 = .ok (.getfield 26, 3) := by decide +kernel
theorem d_X_openWay_20 : decode b_X_openWay 20 = .ok (.bipush 16, 2) := by decide +kernel
theorem d_X_openWay_22 : decode b_X_openWay 22 = .ok (.invokevirtual 144, 3) := by decide +kernel
theorem d_X_openWay_25 : decode b_X_openWay 25 = .ok (.ifCond .ne 5, 3) := by decide +kernel
theorem d_X_openWay_28 : decode b_X_openWay 28 = .ok (.iconst 0, 1) := by decide +kernel
theorem d_X_openWay_29 : decode b_X_openWay 29 = .ok (.ireturn, 1) := by decide +kernel
theorem d_X_openWay_30 : decode b_X_openWay 30 = .ok (.aload_n 0, 1) := by decide +kernel
theorem d_X_openWay_31 : decode b_X_openWay 31 = .ok (.getfield 26, 3) := by decide +kernel
theorem d_X_openWay_34 : decode b_X_openWay 34 = .ok (.iload 4, 2) := by decide +kernel
theorem d_X_openWay_36 : decode b_X_openWay 36 = .ok (.iconst 1, 1) := by decide +kernel
theorem d_X_openWay_37 : decode b_X_openWay 37 = .ok (.if_icmp .gt 10, 3) := by decide +kernel
theorem d_X_openWay_40 : decode b_X_openWay 40 = .ok (.iload_n 2, 1) := by decide +kernel
theorem d_X_openWay_41 : decode b_X_openWay 41 = .ok (.invokestatic 150, 3) := by decide +kernel
theorem d_X_openWay_44 : decode b_X_openWay 44 = .ok (.ifCond .eq 7, 3) := by decide +kernel
theorem d_X_openWay_47 : decode b_X_openWay 47 = .ok (.iconst 1, 1) := by decide +kernel
theorem d_X_openWay_48 : decode b_X_openWay 48 = .ok (.goto 4, 3) := by decide +kernel
theorem d_X_openWay_51 : decode b_X_openWay 51 = .ok (.iconst 0, 1) := by decide +kernel
theorem d_X_openWay_52 : decode b_X_openWay 52 = .ok (.invokestatic 153, 3) := by decide +kernel
theorem d_X_openWay_55 : decode b_X_openWay 55 = .ok (.invokevirtual 147, 3) := by decide +kernel
theorem d_X_openWay_58 : decode b_X_openWay 58 = .ok (.istore 5, 2) := by decide +kernel
theorem d_X_openWay_60 : decode b_X_openWay 60 = .ok (.aload_n 0, 1) := by decide +kernel
theorem d_X_openWay_61 : decode b_X_openWay 61 = .ok (.getfield 26, 3) := by decide +kernel
theorem d_X_openWay_64 : decode b_X_openWay 64 = .ok (.aload_n 0, 1) := by decide +kernel
theorem d_X_openWay_65 : decode b_X_openWay 65 = .ok (.iload_n 1, 1) := by decide +kernel
theorem d_X_openWay_66 : decode b_X_openWay 66 = .ok (.iload_n 2, 1) := by decide +kernel
theorem d_X_openWay_67 : decode b_X_openWay 67 = .ok (.iload_n 3, 1) := by decide +kernel
theorem d_X_openWay_68 : decode b_X_openWay 68 = .ok (.iload 4, 2) := by decide +kernel
theorem d_X_openWay_70 : decode b_X_openWay 70 = .ok (.invokevirtual 104, 3) := by decide +kernel
theorem d_X_openWay_73 : decode b_X_openWay 73 = .ok (.iload 5, 2) := by decide +kernel
theorem d_X_openWay_75 : decode b_X_openWay 75 = .ok (.invokevirtual 78, 3) := by decide +kernel
theorem d_X_openWay_78 : decode b_X_openWay 78 = .ok (.iconst 2, 1) := by decide +kernel
theorem d_X_openWay_79 : decode b_X_openWay 79 = .ok (.ireturn, 1) := by decide +kernel
theorem d_X_levelOfGap_0 : decode b_X_levelOfGap 0 = .ok (.aload_n 0, 1) := by decide +kernel
theorem d_X_levelOfGap_1 : decode b_X_levelOfGap 1 = .ok (.getfield 26, 3) := by decide +kernel
theorem d_X_levelOfGap_4 : decode b_X_levelOfGap 4 = .ok (.iload_n 1, 1) := by decide +kernel
theorem d_X_levelOfGap_5 : decode b_X_levelOfGap 5 = .ok (.invokevirtual 75, 3) := by decide +kernel
theorem d_X_levelOfGap_8 : decode b_X_levelOfGap 8 = .ok (.istore 4, 2) := by decide +kernel
theorem d_X_levelOfGap_10 : decode b_X_levelOfGap 10 = .ok (.iload_n 2, 1) := by decide +kernel
theorem d_X_levelOfGap_11 : decode b_X_levelOfGap 11 = .ok (.invokestatic 157, 3) := by decide +kernel
theorem d_X_levelOfGap_14 : decode b_X_levelOfGap 14 = .ok (.istore 5, 2) := by decide +kernel
theorem d_X_levelOfGap_16 : decode b_X_levelOfGap 16 = .ok (.iload 5, 2) := by decide +kernel
theorem d_X_levelOfGap_18 : decode b_X_levelOfGap 18 = .ok (.ifCond .le 37, 3) := by decide +kernel
theorem d_X_levelOfGap_21 : decode b_X_levelOfGap 21 = .ok (.aload_n 0, 1) := by decide +kernel
theorem d_X_levelOfGap_22 : decode b_X_levelOfGap 22 = .ok (.getfield 26, 3) := by decide +kernel
theorem d_X_levelOfGap_25 : decode b_X_levelOfGap 25 = .ok (.iload 4, 2) := by decide +kernel
theorem d_X_levelOfGap_27 : decode b_X_levelOfGap 27 = .ok (.iconst 1, 1) := by decide +kernel
theorem d_X_levelOfGap_28 : decode b_X_levelOfGap 28 = .ok (.iadd, 1) := by decide +kernel
theorem d_X_levelOfGap_29 : decode b_X_levelOfGap 29 = .ok (.iload_n 3, 1) := by decide +kernel
theorem d_X_levelOfGap_30 : decode b_X_levelOfGap 30 = .ok (.iload 5, 2) := by decide +kernel
theorem d_X_levelOfGap_32 : decode b_X_levelOfGap 32 = .ok (.invokestatic 160, 3) := by decide +kernel
theorem d_X_levelOfGap_35 : decode b_X_levelOfGap 35 = .ok (.iadd, 1) := by decide +kernel
theorem d_X_levelOfGap_36 : decode b_X_levelOfGap 36 = .ok (.invokevirtual 68, 3) := by decide +kernel
theorem d_X_levelOfGap_39 : decode b_X_levelOfGap 39 = .ok (.istore 4, 2) := by decide +kernel
theorem d_X_levelOfGap_41 : decode b_X_levelOfGap 41 = .ok (.iload 4, 2) := by decide +kernel
theorem d_X_levelOfGap_43 : decode b_X_levelOfGap 43 = .ok (.ifCond .ne 6, 3) := by decide +kernel
theorem d_X_levelOfGap_46 : decode b_X_levelOfGap 46 = .ok (.iload 5, 2) := by decide +kernel
theorem d_X_levelOfGap_48 : decode b_X_levelOfGap 48 = .ok (.ireturn, 1) := by decide +kernel
theorem d_X_levelOfGap_49 : decode b_X_levelOfGap 49 = .ok (.iinc 5 (-1), 3) := by decide +kernel
theorem d_X_levelOfGap_52 : decode b_X_levelOfGap 52 = .ok (.goto (-36), 3) := by decide +kernel
theorem d_X_levelOfGap_55 : decode b_X_levelOfGap 55 = .ok (.iconst 0, 1) := by decide +kernel
theorem d_X_levelOfGap_56 : decode b_X_levelOfGap 56 = .ok (.ireturn, 1) := by decide +kernel
theorem d_X_cellOnWay_0 : decode b_X_cellOnWay 0 = .ok (.aload_n 0, 1) := by decide +kernel
theorem d_X_cellOnWay_1 : decode b_X_cellOnWay 1 = .ok (.getfield 26, 3) := by decide +kernel
theorem d_X_cellOnWay_4 : decode b_X_cellOnWay 4 = .ok (.iload_n 1, 1) := by decide +kernel
theorem d_X_cellOnWay_5 : decode b_X_cellOnWay 5 = .ok (.invokevirtual 75, 3) := by decide +kernel
theorem d_X_cellOnWay_8 : decode b_X_cellOnWay 8 = .ok (.istore 5, 2) := by decide +kernel
theorem d_X_cellOnWay_10 : decode b_X_cellOnWay 10 = .ok (.iload_n 2, 1) := by decide +kernel
theorem d_X_cellOnWay_11 : decode b_X_cellOnWay 11 = .ok (.invokestatic 157, 3) := by decide +kernel
theorem d_X_cellOnWay_14 : decode b_X_cellOnWay 14 = .ok (.istore 6, 2) := by decide +kernel
theorem d_X_cellOnWay_16 : decode b_X_cellOnWay 16 = .ok (.iload 6, 2) := by decide +kernel
theorem d_X_cellOnWay_18 : decode b_X_cellOnWay 18 = .ok (.iload 4, 2) := by decide +kernel
theorem d_X_cellOnWay_20 : decode b_X_cellOnWay 20 = .ok (.if_icmp .le 29, 3) := by decide +kernel
theorem d_X_cellOnWay_23 : decode b_X_cellOnWay 23 = .ok (.aload_n 0, 1) := by decide +kernel
theorem d_X_cellOnWay_24 : decode b_X_cellOnWay 24 = .ok (.getfield 26, 3) := by decide +kernel
theorem d_X_cellOnWay_27 : decode b_X_cellOnWay 27 = .ok (.iload 5, 2) := by decide +kernel
theorem d_X_cellOnWay_29 : decode b_X_cellOnWay 29 = .ok (.iconst 1, 1) := by decide +kernel
theorem d_X_cellOnWay_30 : decode b_X_cellOnWay 30 = .ok (.iadd, 1) := by decide +kernel
theorem d_X_cellOnWay_31 : decode b_X_cellOnWay 31 = .ok (.iload_n 3, 1) := by decide +kernel
theorem d_X_cellOnWay_32 : decode b_X_cellOnWay 32 = .ok (.iload 6, 2) := by decide +kernel
theorem d_X_cellOnWay_34 : decode b_X_cellOnWay 34 = .ok (.invokestatic 160, 3) := by decide +kernel
theorem d_X_cellOnWay_37 : decode b_X_cellOnWay 37 = .ok (.iadd, 1) := by decide +kernel
theorem d_X_cellOnWay_38 : decode b_X_cellOnWay 38 = .ok (.invokevirtual 68, 3) := by decide +kernel
theorem d_X_cellOnWay_41 : decode b_X_cellOnWay 41 = .ok (.istore 5, 2) := by decide +kernel
theorem d_X_cellOnWay_43 : decode b_X_cellOnWay 43 = .ok (.iinc 6 (-1), 3) := by decide +kernel
theorem d_X_cellOnWay_46 : decode b_X_cellOnWay 46 = .ok (.goto (-30), 3) := by decide +kernel
theorem d_X_cellOnWay_49 : decode b_X_cellOnWay 49 = .ok (.iload 5, 2) := by decide +kernel
theorem d_X_cellOnWay_51 : decode b_X_cellOnWay 51 = .ok (.iconst 1, 1) := by decide +kernel
theorem d_X_cellOnWay_52 : decode b_X_cellOnWay 52 = .ok (.iadd, 1) := by decide +kernel
theorem d_X_cellOnWay_53 : decode b_X_cellOnWay 53 = .ok (.iload_n 3, 1) := by decide +kernel
theorem d_X_cellOnWay_54 : decode b_X_cellOnWay 54 = .ok (.iload 4, 2) := by decide +kernel
theorem d_X_cellOnWay_56 : decode b_X_cellOnWay 56 = .ok (.invokestatic 160, 3) := by decide +kernel
theorem d_X_cellOnWay_59 : decode b_X_cellOnWay 59 = .ok (.iadd, 1) := by decide +kernel
theorem d_X_cellOnWay_60 : decode b_X_cellOnWay 60 = .ok (.ireturn, 1) := by decide +kernel
theorem d_X_slot_0 : decode b_X_slot 0 = .ok (.iload_n 1, 1) := by decide +kernel
theorem d_X_slot_1 : decode b_X_slot 1 = .ok (.ifCond .ne 7, 3) := by decide +kernel
theorem d_X_slot_4 : decode b_X_slot 4 = .ok (.iload_n 0, 1) := by decide +kernel
theorem d_X_slot_5 : decode b_X_slot 5 = .ok (.goto 20, 3) := by decide +kernel
theorem d_X_slot_8 : decode b_X_slot 8 = .ok (.iload_n 1, 1) := by decide +kernel
theorem d_X_slot_9 : decode b_X_slot 9 = .ok (.iconst 1, 1) := by decide +kernel
theorem d_X_slot_10 : decode b_X_slot 10 = .ok (.if_icmp .ne 10, 3) := by decide +kernel
theorem d_X_slot_13 : decode b_X_slot 13 = .ok (.iload_n 0, 1) := by decide +kernel
theorem d_X_slot_14 : decode b_X_slot 14 = .ok (.bipush 15, 2) := by decide +kernel
theorem d_X_slot_16 : decode b_X_slot 16 = .ok (.idiv, 1) := by decide +kernel
theorem d_X_slot_17 : decode b_X_slot 17 = .ok (.goto 8, 3) := by decide +kernel
theorem d_X_slot_20 : decode b_X_slot 20 = .ok (.iload_n 0, 1) := by decide +kernel
theorem d_X_slot_21 : decode b_X_slot 21 = .ok (.sipush 225, 3) := by decide +kernel
theorem d_X_slot_24 : decode b_X_slot 24 = .ok (.idiv, 1) := by decide +kernel
theorem d_X_slot_25 : decode b_X_slot 25 = .ok (.istore_n 2, 1) := by decide +kernel
theorem d_X_slot_26 : decode b_X_slot 26 = .ok (.iload_n 2, 1) := by decide +kernel
theorem d_X_slot_27 : decode b_X_slot 27 = .ok (.bipush 15, 2) := by decide +kernel
theorem d_X_slot_29 : decode b_X_slot 29 = .ok (.irem, 1) := by decide +kernel
theorem d_X_slot_30 : decode b_X_slot 30 = .ok (.ireturn, 1) := by decide +kernel
