theorem d_B_init_0 : decode c_B_init 0 = .ok (.aload_n 0, 1) := by decide +kernel
theorem d_B_init_1 : decode c_B_init 1 = .ok (.invokespecial 1, 3) := by decide +kernel
theorem d_B_init_4 : decode c_B_init 4 = .ok (.aload_n 0, 1) := by decide +kernel
theorem d_B_init_5 : decode c_B_init 5 = .ok (.bipush 10, 2) := by decide +kernel
theorem d_B_init_7 : decode c_B_init 7 = .ok (.anewarray 9, 3) := by decide +kernel
theorem d_B_init_10 : decode c_B_init 10 = .ok (.putfield 11, 3) := by decide +kernel
theorem d_B_init_13 : decode c_B_init 13 = .ok (.iconst 0, 1) := by decide +kernel
theorem d_B_init_14 : decode c_B_init 14 = .ok (.istore_n 1, 1) := by decide +kernel
theorem d_B_init_15 : decode c_B_init 15 = .ok (.iload_n 1, 1) := by decide +kernel
theorem d_B_init_16 : decode c_B_init 16 = .ok (.bipush 10, 2) := by decide +kernel
theorem d_B_init_18 : decode c_B_init 18 = .ok (.if_icmp .ge 22, 3) := by decide +kernel
theorem d_B_init_21 : decode c_B_init 21 = .ok (.aload_n 0, 1) := by decide +kernel
theorem d_B_init_22 : decode c_B_init 22 = .ok (.getfield 11, 3) := by decide +kernel
theorem d_B_init_25 : decode c_B_init 25 = .ok (.iload_n 1, 1) := by decide +kernel
theorem d_B_init_26 : decode c_B_init 26 = .ok (.new 9, 3) := by decide +kernel
theorem d_B_init_29 : decode c_B_init 29 = .ok (.dup, 1) := by decide +kernel
theorem d_B_init_30 : decode c_B_init 30 = .ok (.invokespecial 15, 3) := by decide +kernel
theorem d_B_init_33 : decode c_B_init 33 = .ok (.aastore, 1) := by decide +kernel
theorem d_B_init_34 : decode c_B_init 34 = .ok (.iinc 1 1, 3) := by decide +kernel
theorem d_B_init_37 : decode c_B_init 37 = .ok (.goto (-22), 3) := by decide +kernel
theorem d_B_init_40 : decode c_B_init 40 = .ok (.aload_n 0, 1) := by decide +kernel
theorem d_B_init_41 : decode c_B_init 41 = .ok (.bipush 10, 2) := by decide +kernel
theorem d_B_init_43 : decode c_B_init 43 = .ok (.anewarray 9, 3) := by decide +kernel
theorem d_B_init_46 : decode c_B_init 46 = .ok (.putfield 16, 3) := by decide +kernel
theorem d_B_init_49 : decode c_B_init 49 = .ok (.aload_n 0, 1) := by decide +kernel
theorem d_B_init_50 : decode c_B_init 50 = .ok (.bipush 10, 2) := by decide +kernel
theorem d_B_init_52 : decode c_B_init 52 = .ok (.newarray .int, 2) := by decide +kernel
theorem d_B_init_54 : decode c_B_init 54 = .ok (.putfield 19, 3) := by decide +kernel
theorem d_B_init_57 : decode c_B_init 57 = .ok (.aload_n 0, 1) := by decide +kernel
theorem d_B_init_58 : decode c_B_init 58 = .ok (.new 23, 3) := by decide +kernel
theorem d_B_init_61 : decode c_B_init 61 = .ok (.dup, 1) := by decide +kernel
theorem d_B_init_62 : decode c_B_init 62 = .ok (.invokespecial 25, 3) := by decide +kernel
theorem d_B_init_65 : decode c_B_init 65 = .ok (.putfield 26, 3) := by decide +kernel
theorem d_B_init_68 : decode c_B_init 68 = .ok (.aload_n 0, 1) := by decide +kernel
theorem d_B_init_69 : decode c_B_init 69 = .ok (.bipush 24, 2) := by decide +kernel
theorem d_B_init_71 : decode c_B_init 71 = .ok (.newarray .char, 2) := by decide +kernel
theorem d_B_init_73 : decode c_B_init 73 = .ok (.putfield 30, 3) := by decide +kernel
theorem d_B_init_76 : decode c_B_init 76 = .ok (.aload_n 0, 1) := by decide +kernel
theorem d_B_init_77 : decode c_B_init 77 = .ok (.iconst 0, 1) := by decide +kernel
theorem d_B_init_78 : decode c_B_init 78 = .ok (.putfield 34, 3) := by decide +kernel
theorem d_B_init_81 : decode c_B_init 81 = .ok (.return_, 1) := by decide +kernel
theorem d_Ce_init_0 : decode c_Ce_init 0 = .ok (.aload_n 0, 1) := by decide +kernel
theorem d_Ce_init_1 : decode c_Ce_init 1 = .ok (.invokespecial 3, 3) := by decide +kernel
theorem d_Ce_init_4 : decode c_Ce_init 4 = .ok (.aload_n 0, 1) := by decide +kernel
theorem d_Ce_init_5 : decode c_Ce_init 5 = .ok (.new 9, 3) := by decide +kernel
theorem d_Ce_init_8 : decode c_Ce_init 8 = .ok (.dup, 1) := by decide +kernel
theorem d_Ce_init_9 : decode c_Ce_init 9 = .ok (.invokespecial 11, 3) := by decide +kernel
theorem d_Ce_init_12 : decode c_Ce_init 12 = .ok (.putfield 12, 3) := by decide +kernel
theorem d_Ce_init_15 : decode c_Ce_init 15 = .ok (.aload_n 0, 1) := by decide +kernel
theorem d_Ce_init_16 : decode c_Ce_init 16 = .ok (.iconst (-1), 1) := by decide +kernel
theorem d_Ce_init_17 : decode c_Ce_init 17 = .ok (.putfield 18, 3) := by decide +kernel
theorem d_Ce_init_20 : decode c_Ce_init 20 = .ok (.aload_n 0, 1) := by decide +kernel
theorem d_Ce_init_21 : decode c_Ce_init 21 = .ok (.iconst 0, 1) := by decide +kernel
theorem d_Ce_init_22 : decode c_Ce_init 22 = .ok (.putfield 22, 3) := by decide +kernel
theorem d_Ce_init_25 : decode c_Ce_init 25 = .ok (.aload_n 0, 1) := by decide +kernel
theorem d_Ce_init_26 : decode c_Ce_init 26 = .ok (.iconst 0, 1) := by decide +kernel
theorem d_Ce_init_27 : decode c_Ce_init 27 = .ok (.putfield 25, 3) := by decide +kernel
theorem d_Ce_init_30 : decode c_Ce_init 30 = .ok (.aload_n 0, 1) := by decide +kernel
theorem d_Ce_init_31 : decode c_Ce_init 31 = .ok (.iconst 0, 1) := by decide +kernel
theorem d_Ce_init_32 : decode c_Ce_init 32 = .ok (.putfield 29, 3) := by decide +kernel
theorem d_Ce_init_35 : decode c_Ce_init 35 = .ok (.aload_n 0, 1) := by decide +kernel
theorem d_Ce_init_36 : decode c_Ce_init 36 = .ok (.iconst 0, 1) := by decide +kernel
theorem d_Ce_init_37 : decode c_Ce_init 37 = .ok (.putfield 32, 3) := by decide +kernel
theorem d_Ce_init_40 : decode c_Ce_init 40 = .ok (.aload_n 0, 1) := by decide +kernel
theorem d_Ce_init_41 : decode c_Ce_init 41 = .ok (.iconst 0, 1) := by decide +kernel
theorem d_Ce_init_42 : decode c_Ce_init 42 = .ok (.putfield 35, 3) := by decide +kernel
theorem d_Ce_init_45 : decode c_Ce_init 45 = .ok (.aload_n 0, 1) := by decide +kernel
theorem d_Ce_init_46 : decode c_Ce_init 46 = .ok (.iconst 0, 1) := by decide +kernel
theorem d_Ce_init_47 : decode c_Ce_init 47 = .ok (.putfield 38, 3) := by decide +kernel
theorem d_Ce_init_50 : decode c_Ce_init 50 = .ok (.return_, 1) := by decide +kernel
theorem d_Te_init_0 : decode c_Te_init 0 = .ok (.aload_n 0, 1) := by decide +kernel
theorem d_Te_init_1 : decode c_Te_init 1 = .ok (.invokespecial 3, 3) := by decide +kernel
theorem d_Te_init_4 : decode c_Te_init 4 = .ok (.aload_n 0, 1) := by decide +kernel
theorem d_Te_init_5 : decode c_Te_init 5 = .ok (.bipush 24, 2) := by decide +kernel
theorem d_Te_init_7 : decode c_Te_init 7 = .ok (.newarray .char, 2) := by decide +kernel
theorem d_Te_init_9 : decode c_Te_init 9 = .ok (.putfield 9, 3) := by decide +kernel
theorem d_Te_init_12 : decode c_Te_init 12 = .ok (.aload_n 0, 1) := by decide +kernel
theorem d_Te_init_13 : decode c_Te_init 13 = .ok (.bipush 24, 2) := by decide +kernel
theorem d_Te_init_15 : decode c_Te_init 15 = .ok (.newarray .int, 2) := by decide +kernel
theorem d_Te_init_17 : decode c_Te_init 17 = .ok (.putfield 15, 3) := by decide +kernel
theorem d_Te_init_20 : decode c_Te_init 20 = .ok (.aload_n 0, 1) := by decide +kernel
theorem d_Te_init_21 : decode c_Te_init 21 = .ok (.iconst 0, 1) := by decide +kernel
theorem d_Te_init_22 : decode c_Te_init 22 = .ok (.putfield 19, 3) := by decide +kernel
theorem d_Te_init_25 : decode c_Te_init 25 = .ok (.aload_n 0, 1) := by decide +kernel
theorem d_Te_init_26 : decode c_Te_init 26 = .ok (.iconst 0, 1) := by decide +kernel
theorem d_Te_init_27 : decode c_Te_init 27 = .ok (.putfield 23, 3) := by decide +kernel
theorem d_Te_init_30 : decode c_Te_init 30 = .ok (.aload_n 0, 1) := by decide +kernel
theorem d_Te_init_31 : decode c_Te_init 31 = .ok (.iconst 0, 1) := by decide +kernel
theorem d_Te_init_32 : decode c_Te_init 32 = .ok (.putfield 26, 3) := by decide +kernel
theorem d_Te_init_35 : decode c_Te_init 35 = .ok (.aload_n 0, 1) := by decide +kernel
theorem d_Te_init_36 : decode c_Te_init 36 = .ok (.iconst 0, 1) := by decide +kernel
theorem d_Te_init_37 : decode c_Te_init 37 = .ok (.putfield 30, 3) := by decide +kernel
theorem d_Te_init_40 : decode c_Te_init 40 = .ok (.return_, 1) := by decide +kernel
theorem d_Ev_init_0 : decode c_Ev_init 0 = .ok (.aload_n 0, 1) := by decide +kernel
theorem d_Ev_init_1 : decode c_Ev_init 1 = .ok (.invokespecial 3, 3) := by decide +kernel
theorem d_Ev_init_4 : decode c_Ev_init 4 = .ok (.aload_n 0, 1) := by decide +kernel
theorem d_Ev_init_5 : decode c_Ev_init 5 = .ok (.bipush 6, 2) := by decide +kernel
theorem d_Ev_init_7 : decode c_Ev_init 7 = .ok (.anewarray 9, 3) := by decide +kernel
theorem d_Ev_init_10 : decode c_Ev_init 10 = .ok (.putfield 11, 3) := by decide +kernel
theorem d_Ev_init_13 : decode c_Ev_init 13 = .ok (.iconst 0, 1) := by decide +kernel
theorem d_Ev_init_14 : decode c_Ev_init 14 = .ok (.istore_n 1, 1) := by decide +kernel
theorem d_Ev_init_15 : decode c_Ev_init 15 = .ok (.iload_n 1, 1) := by decide +kernel
theorem d_Ev_init_16 : decode c_Ev_init 16 = .ok (.iconst 5, 1) := by decide +kernel
theorem d_Ev_init_17 : decode c_Ev_init 17 = .ok (.if_icmp .gt 23, 3) := by decide +kernel
theorem d_Ev_init_20 : decode c_Ev_init 20 = .ok (.aload_n 0, 1) := by decide +kernel
theorem d_Ev_init_21 : decode c_Ev_init 21 = .ok (.getfield 11, 3) := by decide +kernel
theorem d_Ev_init_24 : decode c_Ev_init 24 = .ok (.iload_n 1, 1) := by decide +kernel
theorem d_Ev_init_25 : decode c_Ev_init 25 = .ok (.new 9, 3) := by decide +kernel
theorem d_Ev_init_28 : decode c_Ev_init 28 = .ok (.dup, 1) := by decide +kernel
theorem d_Ev_init_29 : decode c_Ev_init 29 = .ok (.iload_n 1, 1) := by decide +kernel
theorem d_Ev_init_30 : decode c_Ev_init 30 = .ok (.invokespecial 17, 3) := by decide +kernel
theorem d_Ev_init_33 : decode c_Ev_init 33 = .ok (.aastore, 1) := by decide +kernel
theorem d_Ev_init_34 : decode c_Ev_init 34 = .ok (.iinc 1 1, 3) := by decide +kernel
theorem d_Ev_init_37 : decode c_Ev_init 37 = .ok (.goto (-22), 3) := by decide +kernel
theorem d_Ev_init_40 : decode c_Ev_init 40 = .ok (.aload_n 0, 1) := by decide +kernel
theorem d_Ev_init_41 : decode c_Ev_init 41 = .ok (.aconst_null, 1) := by decide +kernel
theorem d_Ev_init_42 : decode c_Ev_init 42 = .ok (.putfield 20, 3) := by decide +kernel
theorem d_Ev_init_45 : decode c_Ev_init 45 = .ok (.aload_n 0, 1) := by decide +kernel
theorem d_Ev_init_46 : decode c_Ev_init 46 = .ok (.iconst 0, 1) := by decide +kernel
theorem d_Ev_init_47 : decode c_Ev_init 47 = .ok (.putfield 24, 3) := by decide +kernel
theorem d_Ev_init_50 : decode c_Ev_init 50 = .ok (.aload_n 0, 1) := by decide +kernel
theorem d_Ev_init_51 : decode c_Ev_init 51 = .ok (.iconst 0, 1) := by decide +kernel
theorem d_Ev_init_52 : decode c_Ev_init 52 = .ok (.putfield 28, 3) := by decide +kernel
theorem d_Ev_init_55 : decode c_Ev_init 55 = .ok (.aload_n 0, 1) := by decide +kernel
theorem d_Ev_init_56 : decode c_Ev_init 56 = .ok (.iconst 0, 1) := by decide +kernel
theorem d_Ev_init_57 : decode c_Ev_init 57 = .ok (.putfield 31, 3) := by decide +kernel
theorem d_Ev_init_60 : decode c_Ev_init 60 = .ok (.return_, 1) := by decide +kernel
theorem d_Fr_init_0 : decode c_Fr_init 0 = .ok (.aload_n 0, 1) := by decide +kernel
theorem d_Fr_init_1 : decode c_Fr_init 1 = .ok (.invokespecial 3, 3) := by decide +kernel
theorem d_Fr_init_4 : decode c_Fr_init 4 = .ok (.aload_n 0, 1) := by decide +kernel
theorem d_Fr_init_5 : decode c_Fr_init 5 = .ok (.iload_n 1, 1) := by decide +kernel
theorem d_Fr_init_6 : decode c_Fr_init 6 = .ok (.putfield 9, 3) := by decide +kernel
theorem d_Fr_init_9 : decode c_Fr_init 9 = .ok (.aload_n 0, 1) := by decide +kernel
theorem d_Fr_init_10 : decode c_Fr_init 10 = .ok (.bipush 6, 2) := by decide +kernel
theorem d_Fr_init_12 : decode c_Fr_init 12 = .ok (.newarray .int, 2) := by decide +kernel
theorem d_Fr_init_14 : decode c_Fr_init 14 = .ok (.putfield 15, 3) := by decide +kernel
theorem d_Fr_init_17 : decode c_Fr_init 17 = .ok (.aload_n 0, 1) := by decide +kernel
theorem d_Fr_init_18 : decode c_Fr_init 18 = .ok (.aconst_null, 1) := by decide +kernel
theorem d_Fr_init_19 : decode c_Fr_init 19 = .ok (.putfield 19, 3) := by decide +kernel
theorem d_Fr_init_22 : decode c_Fr_init 22 = .ok (.return_, 1) := by decide +kernel
theorem d_B_type_0 : decode c_B_type 0 = .ok (.iload_n 3, 1) := by decide +kernel
theorem d_B_type_1 : decode c_B_type 1 = .ok (.iconst 1, 1) := by decide +kernel
theorem d_B_type_2 : decode c_B_type 2 = .ok (.if_icmp .lt 28, 3) := by decide +kernel
theorem d_B_type_5 : decode c_B_type 5 = .ok (.iload_n 3, 1) := by decide +kernel
theorem d_B_type_6 : decode c_B_type 6 = .ok (.bipush 8, 2) := by decide +kernel
theorem d_B_type_8 : decode c_B_type 8 = .ok (.if_icmp .gt 22, 3) := by decide +kernel
theorem d_B_type_11 : decode c_B_type 11 = .ok (.aload_n 0, 1) := by decide +kernel
theorem d_B_type_12 : decode c_B_type 12 = .ok (.getfield 34, 3) := by decide +kernel
theorem d_B_type_15 : decode c_B_type 15 = .ok (.iload_n 3, 1) := by decide +kernel
theorem d_B_type_16 : decode c_B_type 16 = .ok (.iadd, 1) := by decide +kernel
theorem d_B_type_17 : decode c_B_type 17 = .ok (.bipush 24, 2) := by decide +kernel
theorem d_B_type_19 : decode c_B_type 19 = .ok (.if_icmp .gt 11, 3) := by decide +kernel
theorem d_B_type_22 : decode c_B_type 22 = .ok (.lload_n 1, 1) := by decide +kernel
theorem d_B_type_23 : decode c_B_type 23 = .ok (.iload_n 3, 1) := by decide +kernel
theorem d_B_type_24 : decode c_B_type 24 = .ok (.invokestatic 38, 3) := by decide +kernel
theorem d_B_type_27 : decode c_B_type 27 = .ok (.ifCond .ne 5, 3) := by decide +kernel
theorem d_B_type_30 : decode c_B_type 30 = .ok (.iconst (-1), 1) := by decide +kernel
theorem d_B_type_31 : decode c_B_type 31 = .ok (.ireturn, 1) := by decide +kernel
theorem d_B_type_32 : decode c_B_type 32 = .ok (.iconst 0, 1) := by decide +kernel
theorem d_B_type_33 : decode c_B_type 33 = .ok (.istore 4, 2) := by decide +kernel
theorem d_B_type_35 : decode c_B_type 35 = .ok (.iload 4, 2) := by decide +kernel
theorem d_B_type_37 : decode c_B_type 37 = .ok (.iload_n 3, 1) := by decide +kernel
theorem d_B_type_38 : decode c_B_type 38 = .ok (.if_icmp .ge 27, 3) := by decide +kernel
theorem d_B_type_41 : decode c_B_type 41 = .ok (.aload_n 0, 1) := by decide +kernel
theorem d_B_type_42 : decode c_B_type 42 = .ok (.getfield 30, 3) := by decide +kernel
theorem d_B_type_45 : decode c_B_type 45 = .ok (.aload_n 0, 1) := by decide +kernel
theorem d_B_type_46 : decode c_B_type 46 = .ok (.getfield 34, 3) := by decide +kernel
theorem d_B_type_49 : decode c_B_type 49 = .ok (.iload 4, 2) := by decide +kernel
theorem d_B_type_51 : decode c_B_type 51 = .ok (.iadd, 1) := by decide +kernel
theorem d_B_type_52 : decode c_B_type 52 = .ok (.lload_n 1, 1) := by decide +kernel
theorem d_B_type_53 : decode c_B_type 53 = .ok (.iload 4, 2) := by decide +kernel
theorem d_B_type_55 : decode c_B_type 55 = .ok (.invokestatic 42, 3) := by decide +kernel
theorem d_B_type_58 : decode c_B_type 58 = .ok (.castore, 1) := by decide +kernel
theorem d_B_type_59 : decode c_B_type 59 = .ok (.iinc 4 1, 3) := by decide +kernel
theorem d_B_type_62 : decode c_B_type 62 = .ok (.goto (-27), 3) := by decide +kernel
theorem d_B_type_65 : decode c_B_type 65 = .ok (.aload_n 0, 1) := by decide +kernel
theorem d_B_type_66 : decode c_B_type 66 = .ok (.dup, 1) := by decide +kernel
theorem d_B_type_67 : decode c_B_type 67 = .ok (.getfield 34, 3) := by decide +kernel
theorem d_B_type_70 : decode c_B_type 70 = .ok (.iload_n 3, 1) := by decide +kernel
theorem d_B_type_71 : decode c_B_type 71 = .ok (.iadd, 1) := by decide +kernel
theorem d_B_type_72 : decode c_B_type 72 = .ok (.putfield 34, 3) := by decide +kernel
theorem d_B_type_75 : decode c_B_type 75 = .ok (.aload_n 0, 1) := by decide +kernel
theorem d_B_type_76 : decode c_B_type 76 = .ok (.getfield 34, 3) := by decide +kernel
theorem d_B_type_79 : decode c_B_type 79 = .ok (.ireturn, 1) := by decide +kernel
theorem d_B_areTypeable_0 : decode c_B_areTypeable 0 = .ok (.iconst 0, 1) := by decide +kernel
theorem d_B_areTypeable_1 : decode c_B_areTypeable 1 = .ok (.istore_n 3, 1) := by decide +kernel
theorem d_B_areTypeable_2 : decode c_B_areTypeable 2 = .ok (.iload_n 3, 1) := by decide +kernel
theorem d_B_areTypeable_3 : decode c_B_areTypeable 3 = .ok (.iload_n 2, 1) := by decide +kernel
theorem d_B_areTypeable_4 : decode c_B_areTypeable 4 = .ok (.if_icmp .ge 32, 3) := by decide +kernel
theorem d_B_areTypeable_7 : decode c_B_areTypeable 7 = .ok (.lload_n 0, 1) := by decide +kernel
theorem d_B_areTypeable_8 : decode c_B_areTypeable 8 = .ok (.iload_n 3, 1) := by decide +kernel
theorem d_B_areTypeable_9 : decode c_B_areTypeable 9 = .ok (.invokestatic 42, 3) := by decide +kernel
theorem d_B_areTypeable_12 : decode c_B_areTypeable 12 = .ok (.istore 4, 2) := by decide +kernel
theorem d_B_areTypeable_14 : decode c_B_areTypeable 14 = .ok (.iload 4, 2) := by decide +kernel
theorem d_B_areTypeable_16 : decode c_B_areTypeable 16 = .ok (.bipush 33, 2) := by decide +kernel
theorem d_B_areTypeable_18 : decode c_B_areTypeable 18 = .ok (.if_icmp .lt 10, 3) := by decide +kernel
theorem d_B_areTypeable_21 : decode c_B_areTypeable 21 = .ok (.iload 4, 2) := by decide +kernel
theorem d_B_areTypeable_23 : decode c_B_areTypeable 23 = .ok (.bipush 126, 2) := by decide +kernel
theorem d_B_areTypeable_25 : decode c_B_areTypeable 25 = .ok (.if_icmp .le 5, 3) := by decide +kernel
theorem d_B_areTypeable_28 : decode c_B_areTypeable 28 = .ok (.iconst 0, 1) := by decide +kernel
theorem d_B_areTypeable_29 : decode c_B_areTypeable 29 = .ok (.ireturn, 1) := by decide +kernel
theorem d_B_areTypeable_30 : decode c_B_areTypeable 30 = .ok (.iinc 3 1, 3) := by decide +kernel
theorem d_B_areTypeable_33 : decode c_B_areTypeable 33 = .ok (.goto (-31), 3) := by decide +kernel
theorem d_B_areTypeable_36 : decode c_B_areTypeable 36 = .ok (.iconst 1, 1) := by decide +kernel
theorem d_B_areTypeable_37 : decode c_B_areTypeable 37 = .ok (.ireturn, 1) := by decide +kernel
theorem d_B_characterAt_0 : decode c_B_characterAt 0 = .ok (.lload_n 0, 1) := by decide +kernel
theorem d_B_characterAt_1 : decode c_B_characterAt 1 = .ok (.bipush 8, 2) := by decide +kernel
theorem d_B_characterAt_3 : decode c_B_characterAt 3 = .ok (.iload_n 2, 1) := by decide +kernel
theorem d_B_characterAt_4 : decode c_B_characterAt 4 = .ok (.imul, 1) := by decide +kernel
theorem d_B_characterAt_5 : decode c_B_characterAt 5 = .ok (.lushr, 1) := by decide +kernel
theorem d_B_characterAt_6 : decode c_B_characterAt 6 = .ok (.ldc2_w 109, 3) := by decide +kernel
theorem d_B_characterAt_9 : decode c_B_characterAt 9 = .ok (.land, 1) := by decide +kernel
theorem d_B_characterAt_10 : decode c_B_characterAt 10 = .ok (.l2i, 1) := by decide +kernel
theorem d_B_characterAt_11 : decode c_B_characterAt 11 = .ok (.i2c, 1) := by decide +kernel
theorem d_B_characterAt_12 : decode c_B_characterAt 12 = .ok (.ireturn, 1) := by decide +kernel
theorem d_B_set_0 : decode c_B_set 0 = .ok (.iload_n 1, 1) := by decide +kernel
theorem d_B_set_1 : decode c_B_set 1 = .ok (.invokestatic 46, 3) := by decide +kernel
theorem d_B_set_4 : decode c_B_set 4 = .ok (.ifCond .eq 20, 3) := by decide +kernel
theorem d_B_set_7 : decode c_B_set 7 = .ok (.iload_n 2, 1) := by decide +kernel
theorem d_B_set_8 : decode c_B_set 8 = .ok (.ifCond .lt 16, 3) := by decide +kernel
theorem d_B_set_11 : decode c_B_set 11 = .ok (.iload_n 2, 1) := by decide +kernel
theorem d_B_set_12 : decode c_B_set 12 = .ok (.bipush 10, 2) := by decide +kernel
theorem d_B_set_14 : decode c_B_set 14 = .ok (.if_icmp .ge 10, 3) := by decide +kernel
theorem d_B_set_17 : decode c_B_set 17 = .ok (.aload_n 0, 1) := by decide +kernel
theorem d_B_set_18 : decode c_B_set 18 = .ok (.getfield 34, 3) := by decide +kernel
theorem d_B_set_21 : decode c_B_set 21 = .ok (.ifCond .ne 5, 3) := by decide +kernel
theorem d_B_set_24 : decode c_B_set 24 = .ok (.iconst 0, 1) := by decide +kernel
theorem d_B_set_25 : decode c_B_set 25 = .ok (.ireturn, 1) := by decide +kernel
theorem d_B_set_26 : decode c_B_set 26 = .ok (.aload_n 0, 1) := by decide +kernel
theorem d_B_set_27 : decode c_B_set 27 = .ok (.getfield 11, 3) := by decide +kernel
theorem d_B_set_30 : decode c_B_set 30 = .ok (.iload_n 1, 1) := by decide +kernel
theorem d_B_set_31 : decode c_B_set 31 = .ok (.aaload, 1) := by decide +kernel
theorem d_B_set_32 : decode c_B_set 32 = .ok (.astore_n 3, 1) := by decide +kernel
theorem d_B_set_33 : decode c_B_set 33 = .ok (.aload_n 3, 1) := by decide +kernel
theorem d_B_set_34 : decode c_B_set 34 = .ok (.invokevirtual 50, 3) := by decide +kernel
theorem d_B_set_37 : decode c_B_set 37 = .ok (.iconst 1, 1) := by decide +kernel
theorem d_B_set_38 : decode c_B_set 38 = .ok (.iload_n 2, 1) := by decide +kernel
theorem d_B_set_39 : decode c_B_set 39 = .ok (.ishl, 1) := by decide +kernel
theorem d_B_set_40 : decode c_B_set 40 = .ok (.ior, 1) := by decide +kernel
theorem d_B_set_41 : decode c_B_set 41 = .ok (.istore 4, 2) := by decide +kernel
theorem d_B_set_43 : decode c_B_set 43 = .ok (.aload_n 3, 1) := by decide +kernel
theorem d_B_set_44 : decode c_B_set 44 = .ok (.iload_n 2, 1) := by decide +kernel
theorem d_B_set_45 : decode c_B_set 45 = .ok (.putfield 54, 3) := by decide +kernel
theorem d_B_set_48 : decode c_B_set 48 = .ok (.aload_n 3, 1) := by decide +kernel
theorem d_B_set_49 : decode c_B_set 49 = .ok (.getfield 57, 3) := by decide +kernel
theorem d_B_set_52 : decode c_B_set 52 = .ok (.aload_n 0, 1) := by decide +kernel
theorem d_B_set_53 : decode c_B_set 53 = .ok (.getfield 30, 3) := by decide +kernel
theorem d_B_set_56 : decode c_B_set 56 = .ok (.aload_n 0, 1) := by decide +kernel
theorem d_B_set_57 : decode c_B_set 57 = .ok (.getfield 34, 3) := by decide +kernel
theorem d_B_set_60 : decode c_B_set 60 = .ok (.invokevirtual 61, 3) := by decide +kernel
theorem d_B_set_63 : decode c_B_set 63 = .ok (.aload_n 0, 1) := by decide +kernel
theorem d_B_set_64 : decode c_B_set 64 = .ok (.iconst 0, 1) := by decide +kernel
theorem d_B_set_65 : decode c_B_set 65 = .ok (.putfield 34, 3) := by decide +kernel
theorem d_B_set_68 : decode c_B_set 68 = .ok (.aload_n 0, 1) := by decide +kernel
theorem d_B_set_69 : decode c_B_set 69 = .ok (.iload 4, 2) := by decide +kernel
theorem d_B_set_71 : decode c_B_set 71 = .ok (.invokevirtual 67, 3) := by decide +kernel
theorem d_B_set_74 : decode c_B_set 74 = .ok (.iconst 1, 1) := by decide +kernel
theorem d_B_set_75 : decode c_B_set 75 = .ok (.ireturn, 1) := by decide +kernel
theorem d_B_isCell_0 : decode c_B_isCell 0 = .ok (.iload_n 0, 1) := by decide +kernel
theorem d_B_isCell_1 : decode c_B_isCell 1 = .ok (.ifCond .lt 13, 3) := by decide +kernel
theorem d_B_isCell_4 : decode c_B_isCell 4 = .ok (.iload_n 0, 1) := by decide +kernel
theorem d_B_isCell_5 : decode c_B_isCell 5 = .ok (.bipush 10, 2) := by decide +kernel
theorem d_B_isCell_7 : decode c_B_isCell 7 = .ok (.if_icmp .ge 7, 3) := by decide +kernel
theorem d_B_isCell_10 : decode c_B_isCell 10 = .ok (.iconst 1, 1) := by decide +kernel
theorem d_B_isCell_11 : decode c_B_isCell 11 = .ok (.goto 4, 3) := by decide +kernel
theorem d_B_isCell_14 : decode c_B_isCell 14 = .ok (.iconst 0, 1) := by decide +kernel
theorem d_B_isCell_15 : decode c_B_isCell 15 = .ok (.ireturn, 1) := by decide +kernel
theorem d_Ce_nameBit_0 : decode c_Ce_nameBit 0 = .ok (.aload_n 0, 1) := by decide +kernel
theorem d_Ce_nameBit_1 : decode c_Ce_nameBit 1 = .ok (.invokevirtual 44, 3) := by decide +kernel
theorem d_Ce_nameBit_4 : decode c_Ce_nameBit 4 = .ok (.ifCond .eq 7, 3) := by decide +kernel
theorem d_Ce_nameBit_7 : decode c_Ce_nameBit 7 = .ok (.iconst 0, 1) := by decide +kernel
theorem d_Ce_nameBit_8 : decode c_Ce_nameBit 8 = .ok (.goto 9, 3) := by decide +kernel
theorem d_Ce_nameBit_11 : decode c_Ce_nameBit 11 = .ok (.iconst 1, 1) := by decide +kernel
theorem d_Ce_nameBit_12 : decode c_Ce_nameBit 12 = .ok (.aload_n 0, 1) := by decide +kernel
theorem d_Ce_nameBit_13 : decode c_Ce_nameBit 13 = .ok (.getfield 18, 3) := by decide +kernel
theorem d_Ce_nameBit_16 : decode c_Ce_nameBit 16 = .ok (.ishl, 1) := by decide +kernel
theorem d_Ce_nameBit_17 : decode c_Ce_nameBit 17 = .ok (.ireturn, 1) := by decide +kernel
theorem d_Ce_isEmpty_0 : decode c_Ce_isEmpty 0 = .ok (.aload_n 0, 1) := by decide +kernel
theorem d_Ce_isEmpty_1 : decode c_Ce_isEmpty 1 = .ok (.getfield 18, 3) := by decide +kernel
theorem d_Ce_isEmpty_4 : decode c_Ce_isEmpty 4 = .ok (.iconst (-1), 1) := by decide +kernel
theorem d_Ce_isEmpty_5 : decode c_Ce_isEmpty 5 = .ok (.if_icmp .ne 7, 3) := by decide +kernel
theorem d_Ce_isEmpty_8 : decode c_Ce_isEmpty 8 = .ok (.iconst 1, 1) := by decide +kernel
theorem d_Ce_isEmpty_9 : decode c_Ce_isEmpty 9 = .ok (.goto 4, 3) := by decide +kernel
theorem d_Ce_isEmpty_12 : decode c_Ce_isEmpty 12 = .ok (.iconst 0, 1) := by decide +kernel
theorem d_Ce_isEmpty_13 : decode c_Ce_isEmpty 13 = .ok (.ireturn, 1) := by decide +kernel
theorem d_Te_read_0 : decode c_Te_read 0 = .ok (.aload_n 0, 1) := by decide +kernel
theorem d_Te_read_1 : decode c_Te_read 1 = .ok (.iload_n 2, 1) := by decide +kernel
theorem d_Te_read_2 : decode c_Te_read 2 = .ok (.bipush 24, 2) := by decide +kernel
theorem d_Te_read_4 : decode c_Te_read 4 = .ok (.invokestatic 33, 3) := by decide +kernel
theorem d_Te_read_7 : decode c_Te_read 7 = .ok (.putfield 19, 3) := by decide +kernel
theorem d_Te_read_10 : decode c_Te_read 10 = .ok (.aload_n 1, 1) := by decide +kernel
theorem d_Te_read_11 : decode c_Te_read 11 = .ok (.iconst 0, 1) := by decide +kernel
theorem d_Te_read_12 : decode c_Te_read 12 = .ok (.aload_n 0, 1) := by decide +kernel
theorem d_Te_read_13 : decode c_Te_read 13 = .ok (.getfield 9, 3) := by decide +kernel
theorem d_Te_read_16 : decode c_Te_read 16 = .ok (.iconst 0, 1) := by decide +kernel
theorem d_Te_read_17 : decode c_Te_read 17 = .ok (.aload_n 0, 1) := by decide +kernel
theorem d_Te_read_18 : decode c_Te_read 18 = .ok (.getfield 19, 3) := by decide +kernel
theorem d_Te_read_21 : decode c_Te_read 21 = .ok (.invokestatic 39, 3) := by decide +kernel
theorem d_Te_read_24 : decode c_Te_read 24 = .ok (.aload_n 0, 1) := by decide +kernel
theorem d_Te_read_25 : decode c_Te_read 25 = .ok (.iconst 0, 1) := by decide +kernel
theorem d_Te_read_26 : decode c_Te_read 26 = .ok (.invokevirtual 45, 3) := by decide +kernel
theorem d_Te_read_29 : decode c_Te_read 29 = .ok (.bipush 92, 2) := by decide +kernel
theorem d_Te_read_31 : decode c_Te_read 31 = .ok (.if_icmp .ne 18, 3) := by decide +kernel
theorem d_Te_read_34 : decode c_Te_read 34 = .ok (.aload_n 0, 1) := by decide +kernel
theorem d_Te_read_35 : decode c_Te_read 35 = .ok (.iconst 1, 1) := by decide +kernel
theorem d_Te_read_36 : decode c_Te_read 36 = .ok (.invokevirtual 45, 3) := by decide +kernel
theorem d_Te_read_39 : decode c_Te_read 39 = .ok (.invokestatic 49, 3) := by decide +kernel
theorem d_Te_read_42 : decode c_Te_read 42 = .ok (.ifCond .eq 7, 3) := by decide +kernel
theorem d_Te_read_45 : decode c_Te_read 45 = .ok (.iconst 1, 1) := by decide +kernel
theorem d_Te_read_46 : decode c_Te_read 46 = .ok (.goto 4, 3) := by decide +kernel
theorem d_Te_read_49 : decode c_Te_read 49 = .ok (.iconst 0, 1) := by decide +kernel
theorem d_Te_read_50 : decode c_Te_read 50 = .ok (.istore_n 3, 1) := by decide +kernel
theorem d_Te_read_51 : decode c_Te_read 51 = .ok (.aload_n 0, 1) := by decide +kernel
theorem d_Te_read_52 : decode c_Te_read 52 = .ok (.iload_n 3, 1) := by decide +kernel
theorem d_Te_read_53 : decode c_Te_read 53 = .ok (.ifCond .eq 7, 3) := by decide +kernel
theorem d_Te_read_56 : decode c_Te_read 56 = .ok (.iconst 2, 1) := by decide +kernel
theorem d_Te_read_57 : decode c_Te_read 57 = .ok (.goto 4, 3) := by decide +kernel
theorem d_Te_read_60 : decode c_Te_read 60 = .ok (.iconst 0, 1) := by decide +kernel
theorem d_Te_read_61 : decode c_Te_read 61 = .ok (.putfield 23, 3) := by decide +kernel
theorem d_Te_read_64 : decode c_Te_read 64 = .ok (.aload_n 0, 1) := by decide +kernel
theorem d_Te_read_65 : decode c_Te_read 65 = .ok (.iconst 0, 1) := by decide +kernel
theorem d_Te_read_66 : decode c_Te_read 66 = .ok (.putfield 30, 3) := by decide +kernel
theorem d_Te_read_69 : decode c_Te_read 69 = .ok (.aload_n 0, 1) := by decide +kernel
theorem d_Te_read_70 : decode c_Te_read 70 = .ok (.aload_n 0, 1) := by decide +kernel
theorem d_Te_read_71 : decode c_Te_read 71 = .ok (.aload_n 0, 1) := by decide +kernel
theorem d_Te_read_72 : decode c_Te_read 72 = .ok (.getfield 23, 3) := by decide +kernel
theorem d_Te_read_75 : decode c_Te_read 75 = .ok (.iconst 0, 1) := by decide +kernel
theorem d_Te_read_76 : decode c_Te_read 76 = .ok (.iload_n 3, 1) := by decide +kernel
theorem d_Te_read_77 : decode c_Te_read 77 = .ok (.ifCond .eq 13, 3) := by decide +kernel
theorem d_Te_read_80 : decode c_Te_read 80 = .ok (.iconst 1, 1) := by decide +kernel
theorem d_Te_read_81 : decode c_Te_read 81 = .ok (.aload_n 0, 1) := by decide +kernel
theorem d_Te_read_82 : decode c_Te_read 82 = .ok (.iconst 1, 1) := by decide +kernel
theorem d_Te_read_83 : decode c_Te_read 83 = .ok (.invokevirtual 53, 3) := by decide +kernel
theorem d_Te_read_86 : decode c_Te_read 86 = .ok (.ishl, 1) := by decide +kernel
theorem d_Te_read_87 : decode c_Te_read 87 = .ok (.goto 4, 3) := by decide +kernel
theorem d_Te_read_90 : decode c_Te_read 90 = .ok (.iconst 0, 1) := by decide +kernel
theorem d_Te_read_91 : decode c_Te_read 91 = .ok (.invokevirtual 57, 3) := by decide +kernel
theorem d_Te_read_94 : decode c_Te_read 94 = .ok (.aload_n 0, 1) := by decide +kernel
theorem d_Te_read_95 : decode c_Te_read 95 = .ok (.getfield 19, 3) := by decide +kernel
theorem d_Te_read_98 : decode c_Te_read 98 = .ok (.if_icmp .ne 7, 3) := by decide +kernel
theorem d_Te_read_101 : decode c_Te_read 101 = .ok (.iconst 1, 1) := by decide +kernel
theorem d_Te_read_102 : decode c_Te_read 102 = .ok (.goto 4, 3) := by decide +kernel
theorem d_Te_read_105 : decode c_Te_read 105 = .ok (.iconst 0, 1) := by decide +kernel
theorem d_Te_read_106 : decode c_Te_read 106 = .ok (.putfield 26, 3) := by decide +kernel
theorem d_Te_read_109 : decode c_Te_read 109 = .ok (.aload_n 0, 1) := by decide +kernel
theorem d_Te_read_110 : decode c_Te_read 110 = .ok (.getfield 26, 3) := by decide +kernel
theorem d_Te_read_113 : decode c_Te_read 113 = .ok (.ifCond .ne 8, 3) := by decide +kernel
theorem d_Te_read_116 : decode c_Te_read 116 = .ok (.aload_n 0, 1) := by decide +kernel
theorem d_Te_read_117 : decode c_Te_read 117 = .ok (.iconst 0, 1) := by decide +kernel
theorem d_Te_read_118 : decode c_Te_read 118 = .ok (.putfield 30, 3) := by decide +kernel
theorem d_Te_read_121 : decode c_Te_read 121 = .ok (.return_, 1) := by decide +kernel
theorem d_Te_signAt_0 : decode c_Te_signAt 0 = .ok (.iload_n 1, 1) := by decide +kernel
theorem d_Te_signAt_1 : decode c_Te_signAt 1 = .ok (.ifCond .lt 20, 3) := by decide +kernel
theorem d_Te_signAt_4 : decode c_Te_signAt 4 = .ok (.iload_n 1, 1) := by decide +kernel
theorem d_Te_signAt_5 : decode c_Te_signAt 5 = .ok (.aload_n 0, 1) := by decide +kernel
theorem d_Te_signAt_6 : decode c_Te_signAt 6 = .ok (.getfield 19, 3) := by decide +kernel
theorem d_Te_signAt_9 : decode c_Te_signAt 9 = .ok (.if_icmp .ge 12, 3) := by decide +kernel
theorem d_Te_signAt_12 : decode c_Te_signAt 12 = .ok (.aload_n 0, 1) := by decide +kernel
theorem d_Te_signAt_13 : decode c_Te_signAt 13 = .ok (.getfield 9, 3) := by decide +kernel
theorem d_Te_signAt_16 : decode c_Te_signAt 16 = .ok (.iload_n 1, 1) := by decide +kernel
theorem d_Te_signAt_17 : decode c_Te_signAt 17 = .ok (.caload, 1) := by decide +kernel
theorem d_Te_signAt_18 : decode c_Te_signAt 18 = .ok (.goto 4, 3) := by decide +kernel
theorem d_Te_signAt_21 : decode c_Te_signAt 21 = .ok (.iconst 0, 1) := by decide +kernel
theorem d_Te_signAt_22 : decode c_Te_signAt 22 = .ok (.ireturn, 1) := by decide +kernel
theorem d_B_isLocal_0 : decode c_B_isLocal 0 = .ok (.iload_n 0, 1) := by decide +kernel
theorem d_B_isLocal_1 : decode c_B_isLocal 1 = .ok (.bipush 107, 2) := by decide +kernel
theorem d_B_isLocal_3 : decode c_B_isLocal 3 = .ok (.if_icmp .lt 13, 3) := by decide +kernel
theorem d_B_isLocal_6 : decode c_B_isLocal 6 = .ok (.iload_n 0, 1) := by decide +kernel
theorem d_B_isLocal_7 : decode c_B_isLocal 7 = .ok (.bipush 112, 2) := by decide +kernel
theorem d_B_isLocal_9 : decode c_B_isLocal 9 = .ok (.if_icmp .gt 7, 3) := by decide +kernel
theorem d_B_isLocal_12 : decode c_B_isLocal 12 = .ok (.iconst 1, 1) := by decide +kernel
theorem d_B_isLocal_13 : decode c_B_isLocal 13 = .ok (.goto 4, 3) := by decide +kernel
theorem d_B_isLocal_16 : decode c_B_isLocal 16 = .ok (.iconst 0, 1) := by decide +kernel
theorem d_B_isLocal_17 : decode c_B_isLocal 17 = .ok (.ireturn, 1) := by decide +kernel
theorem d_Te_localAt_0 : decode c_Te_localAt 0 = .ok (.aload_n 0, 1) := by decide +kernel
theorem d_Te_localAt_1 : decode c_Te_localAt 1 = .ok (.iload_n 1, 1) := by decide +kernel
theorem d_Te_localAt_2 : decode c_Te_localAt 2 = .ok (.invokevirtual 45, 3) := by decide +kernel
theorem d_Te_localAt_5 : decode c_Te_localAt 5 = .ok (.istore_n 2, 1) := by decide +kernel
theorem d_Te_localAt_6 : decode c_Te_localAt 6 = .ok (.iload_n 2, 1) := by decide +kernel
theorem d_Te_localAt_7 : decode c_Te_localAt 7 = .ok (.invokestatic 49, 3) := by decide +kernel
theorem d_Te_localAt_10 : decode c_Te_localAt 10 = .ok (.ifCond .eq 10, 3) := by decide +kernel
theorem d_Te_localAt_13 : decode c_Te_localAt 13 = .ok (.iload_n 2, 1) := by decide +kernel
theorem d_Te_localAt_14 : decode c_Te_localAt 14 = .ok (.bipush 107, 2) := by decide +kernel
theorem d_Te_localAt_16 : decode c_Te_localAt 16 = .ok (.isub, 1) := by decide +kernel
theorem d_Te_localAt_17 : decode c_Te_localAt 17 = .ok (.goto 4, 3) := by decide +kernel
theorem d_Te_localAt_20 : decode c_Te_localAt 20 = .ok (.iconst 0, 1) := by decide +kernel
theorem d_Te_localAt_21 : decode c_Te_localAt 21 = .ok (.ireturn, 1) := by decide +kernel
theorem d_Te_readExpression_0 : decode c_Te_readExpression 0 = .ok (.iload_n 1, 1) := by decide +kernel
theorem d_Te_readExpression_1 : decode c_Te_readExpression 1 = .ok (.ifCond .lt 16, 3) := by decide +kernel
theorem d_Te_readExpression_4 : decode c_Te_readExpression 4 = .ok (.iload_n 1, 1) := by decide +kernel
theorem d_Te_readExpression_5 : decode c_Te_readExpression 5 = .ok (.aload_n 0, 1) := by decide +kernel
theorem d_Te_readExpression_6 : decode c_Te_readExpression 6 = .ok (.getfield 19, 3) := by decide +kernel
theorem d_Te_readExpression_9 : decode c_Te_readExpression 9 = .ok (.if_icmp .ge 8, 3) := by decide +kernel
theorem d_Te_readExpression_12 : decode c_Te_readExpression 12 = .ok (.iload_n 2, 1) := by decide +kernel
theorem d_Te_readExpression_13 : decode c_Te_readExpression 13 = .ok (.iconst 5, 1) := by decide +kernel
theorem d_Te_readExpression_14 : decode c_Te_readExpression 14 = .ok (.if_icmp .le 5, 3) := by decide +kernel
theorem d_Te_readExpression_17 : decode c_Te_readExpression 17 = .ok (.iconst (-1), 1) := by decide +kernel
theorem d_Te_readExpression_18 : decode c_Te_readExpression 18 = .ok (.ireturn, 1) := by decide +kernel
theorem d_Te_readExpression_19 : decode c_Te_readExpression 19 = .ok (.aload_n 0, 1) := by decide +kernel
theorem d_Te_readExpression_20 : decode c_Te_readExpression 20 = .ok (.iload_n 1, 1) := by decide +kernel
theorem d_Te_readExpression_21 : decode c_Te_readExpression 21 = .ok (.iload_n 2, 1) := by decide +kernel
theorem d_Te_readExpression_22 : decode c_Te_readExpression 22 = .ok (.iconst 1, 1) := by decide +kernel
theorem d_Te_readExpression_23 : decode c_Te_readExpression 23 = .ok (.iadd, 1) := by decide +kernel
theorem d_Te_readExpression_24 : decode c_Te_readExpression 24 = .ok (.iload_n 3, 1) := by decide +kernel
theorem d_Te_readExpression_25 : decode c_Te_readExpression 25 = .ok (.invokevirtual 61, 3) := by decide +kernel
theorem d_Te_readExpression_28 : decode c_Te_readExpression 28 = .ok (.istore 4, 2) := by decide +kernel
theorem d_Te_readExpression_30 : decode c_Te_readExpression 30 = .ok (.aload_n 0, 1) := by decide +kernel
theorem d_Te_readExpression_31 : decode c_Te_readExpression 31 = .ok (.getfield 15, 3) := by decide +kernel
theorem d_Te_readExpression_34 : decode c_Te_readExpression 34 = .ok (.iload_n 1, 1) := by decide +kernel
theorem d_Te_readExpression_35 : decode c_Te_readExpression 35 = .ok (.iload 4, 2) := by decide +kernel
theorem d_Te_readExpression_37 : decode c_Te_readExpression 37 = .ok (.iastore, 1) := by decide +kernel
theorem d_Te_readExpression_38 : decode c_Te_readExpression 38 = .ok (.iload 4, 2) := by decide +kernel
theorem d_Te_readExpression_40 : decode c_Te_readExpression 40 = .ok (.ireturn, 1) := by decide +kernel
theorem d_Te_readSign_0 : decode c_Te_readSign 0 = .ok (.aload_n 0, 1) := by decide +kernel
theorem d_Te_readSign_1 : decode c_Te_readSign 1 = .ok (.getfield 9, 3) := by decide +kernel
theorem d_Te_readSign_4 : decode c_Te_readSign 4 = .ok (.iload_n 1, 1) := by decide +kernel
theorem d_Te_readSign_5 : decode c_Te_readSign 5 = .ok (.caload, 1) := by decide +kernel
theorem d_Te_readSign_6 : decode c_Te_readSign 6 = .ok (.lookupswitch 180 #[(33, 147), (35, 172), (36, 139), (38, 106), (42, 106), (43, 106), (45, 106), (47, 106), (60, 106), (61, 106), (63, 128), (126, 117)], 106) := by decide +kernel
theorem d_Te_readSign_112 : decode c_Te_readSign 112 = .ok (.aload_n 0, 1) := by decide +kernel
theorem d_Te_readSign_113 : decode c_Te_readSign 113 = .ok (.iload_n 1, 1) := by decide +kernel
theorem d_Te_readSign_114 : decode c_Te_readSign 114 = .ok (.iconst 1, 1) := by decide +kernel
theorem d_Te_readSign_115 : decode c_Te_readSign 115 = .ok (.iadd, 1) := by decide +kernel
theorem d_Te_readSign_116 : decode c_Te_readSign 116 = .ok (.iconst 2, 1) := by decide +kernel
theorem d_Te_readSign_117 : decode c_Te_readSign 117 = .ok (.iload_n 2, 1) := by decide +kernel
theorem d_Te_readSign_118 : decode c_Te_readSign 118 = .ok (.iload_n 3, 1) := by decide +kernel
theorem d_Te_readSign_119 : decode c_Te_readSign 119 = .ok (.invokevirtual 64, 3) := by decide +kernel
theorem d_Te_readSign_122 : decode c_Te_readSign 122 = .ok (.ireturn, 1) := by decide +kernel
theorem d_Te_readSign_123 : decode c_Te_readSign 123 = .ok (.aload_n 0, 1) := by decide +kernel
theorem d_Te_readSign_124 : decode c_Te_readSign 124 = .ok (.iload_n 1, 1) := by decide +kernel
theorem d_Te_readSign_125 : decode c_Te_readSign 125 = .ok (.iconst 1, 1) := by decide +kernel
theorem d_Te_readSign_126 : decode c_Te_readSign 126 = .ok (.iadd, 1) := by decide +kernel
theorem d_Te_readSign_127 : decode c_Te_readSign 127 = .ok (.iconst 1, 1) := by decide +kernel
theorem d_Te_readSign_128 : decode c_Te_readSign 128 = .ok (.iload_n 2, 1) := by decide +kernel
theorem d_Te_readSign_129 : decode c_Te_readSign 129 = .ok (.iload_n 3, 1) := by decide +kernel
theorem d_Te_readSign_130 : decode c_Te_readSign 130 = .ok (.invokevirtual 64, 3) := by decide +kernel
theorem d_Te_readSign_133 : decode c_Te_readSign 133 = .ok (.ireturn, 1) := by decide +kernel
theorem d_Te_readSign_134 : decode c_Te_readSign 134 = .ok (.aload_n 0, 1) := by decide +kernel
theorem d_Te_readSign_135 : decode c_Te_readSign 135 = .ok (.iload_n 1, 1) := by decide +kernel
theorem d_Te_readSign_136 : decode c_Te_readSign 136 = .ok (.iconst 1, 1) := by decide +kernel
theorem d_Te_readSign_137 : decode c_Te_readSign 137 = .ok (.iadd, 1) := by decide +kernel
theorem d_Te_readSign_138 : decode c_Te_readSign 138 = .ok (.iconst 3, 1) := by decide +kernel
theorem d_Te_readSign_139 : decode c_Te_readSign 139 = .ok (.iload_n 2, 1) := by decide +kernel
theorem d_Te_readSign_140 : decode c_Te_readSign 140 = .ok (.iload_n 3, 1) := by decide +kernel
theorem d_Te_readSign_141 : decode c_Te_readSign 141 = .ok (.invokevirtual 64, 3) := by decide +kernel
theorem d_Te_readSign_144 : decode c_Te_readSign 144 = .ok (.ireturn, 1) := by decide +kernel
theorem d_Te_readSign_145 : decode c_Te_readSign 145 = .ok (.aload_n 0, 1) := by decide +kernel
theorem d_Te_readSign_146 : decode c_Te_readSign 146 = .ok (.iload_n 1, 1) := by decide +kernel
theorem d_Te_readSign_147 : decode c_Te_readSign 147 = .ok (.iload_n 2, 1) := by decide +kernel
theorem d_Te_readSign_148 : decode c_Te_readSign 148 = .ok (.iload_n 3, 1) := by decide +kernel
theorem d_Te_readSign_149 : decode c_Te_readSign 149 = .ok (.invokevirtual 68, 3) := by decide +kernel
theorem d_Te_readSign_152 : decode c_Te_readSign 152 = .ok (.ireturn, 1) := by decide +kernel
theorem d_Te_readSign_153 : decode c_Te_readSign 153 = .ok (.aload_n 0, 1) := by decide +kernel
theorem d_Te_readSign_154 : decode c_Te_readSign 154 = .ok (.iload_n 1, 1) := by decide +kernel
theorem d_Te_readSign_155 : decode c_Te_readSign 155 = .ok (.iconst 1, 1) := by decide +kernel
theorem d_Te_readSign_156 : decode c_Te_readSign 156 = .ok (.iadd, 1) := by decide +kernel
theorem d_Te_readSign_157 : decode c_Te_readSign 157 = .ok (.invokevirtual 71, 3) := by decide +kernel
theorem d_Te_readSign_160 : decode c_Te_readSign 160 = .ok (.iconst (-1), 1) := by decide +kernel
theorem d_Te_readSign_161 : decode c_Te_readSign 161 = .ok (.if_icmp .ne 7, 3) := by decide +kernel
theorem d_Te_readSign_164 : decode c_Te_readSign 164 = .ok (.iconst (-1), 1) := by decide +kernel
theorem d_Te_readSign_165 : decode c_Te_readSign 165 = .ok (.goto 12, 3) := by decide +kernel
theorem d_Te_readSign_168 : decode c_Te_readSign 168 = .ok (.aload_n 0, 1) := by decide +kernel
theorem d_Te_readSign_169 : decode c_Te_readSign 169 = .ok (.iload_n 1, 1) := by decide +kernel
theorem d_Te_readSign_170 : decode c_Te_readSign 170 = .ok (.iconst 2, 1) := by decide +kernel
theorem d_Te_readSign_171 : decode c_Te_readSign 171 = .ok (.iadd, 1) := by decide +kernel
theorem d_Te_readSign_172 : decode c_Te_readSign 172 = .ok (.iload_n 2, 1) := by decide +kernel
theorem d_Te_readSign_173 : decode c_Te_readSign 173 = .ok (.iload_n 3, 1) := by decide +kernel
theorem d_Te_readSign_174 : decode c_Te_readSign 174 = .ok (.invokevirtual 57, 3) := by decide +kernel
theorem d_Te_readSign_177 : decode c_Te_readSign 177 = .ok (.ireturn, 1) := by decide +kernel
theorem d_Te_readSign_178 : decode c_Te_readSign 178 = .ok (.aload_n 0, 1) := by decide +kernel
theorem d_Te_readSign_179 : decode c_Te_readSign 179 = .ok (.iload_n 1, 1) := by decide +kernel
theorem d_Te_readSign_180 : decode c_Te_readSign 180 = .ok (.iload_n 2, 1) := by decide +kernel
theorem d_Te_readSign_181 : decode c_Te_readSign 181 = .ok (.iload_n 3, 1) := by decide +kernel
theorem d_Te_readSign_182 : decode c_Te_readSign 182 = .ok (.invokevirtual 74, 3) := by decide +kernel
theorem d_Te_readSign_185 : decode c_Te_readSign 185 = .ok (.ireturn, 1) := by decide +kernel
theorem d_Te_readSign_186 : decode c_Te_readSign 186 = .ok (.aload_n 0, 1) := by decide +kernel
theorem d_Te_readSign_187 : decode c_Te_readSign 187 = .ok (.iload_n 1, 1) := by decide +kernel
theorem d_Te_readSign_188 : decode c_Te_readSign 188 = .ok (.iload_n 3, 1) := by decide +kernel
theorem d_Te_readSign_189 : decode c_Te_readSign 189 = .ok (.invokevirtual 77, 3) := by decide +kernel
theorem d_Te_readSign_192 : decode c_Te_readSign 192 = .ok (.ireturn, 1) := by decide +kernel
theorem d_Te_readExpressions_0 : decode c_Te_readExpressions 0 = .ok (.iload_n 1, 1) := by decide +kernel
theorem d_Te_readExpressions_1 : decode c_Te_readExpressions 1 = .ok (.istore 5, 2) := by decide +kernel
theorem d_Te_readExpressions_3 : decode c_Te_readExpressions 3 = .ok (.iconst 0, 1) := by decide +kernel
theorem d_Te_readExpressions_4 : decode c_Te_readExpressions 4 = .ok (.istore 6, 2) := by decide +kernel
theorem d_Te_readExpressions_6 : decode c_Te_readExpressions 6 = .ok (.iload 6, 2) := by decide +kernel
theorem d_Te_readExpressions_8 : decode c_Te_readExpressions 8 = .ok (.iload_n 2, 1) := by decide +kernel
theorem d_Te_readExpressions_9 : decode c_Te_readExpressions 9 = .ok (.if_icmp .ge 20, 3) := by decide +kernel
theorem d_Te_readExpressions_12 : decode c_Te_readExpressions 12 = .ok (.aload_n 0, 1) := by decide +kernel
theorem d_Te_readExpressions_13 : decode c_Te_readExpressions 13 = .ok (.iload 5, 2) := by decide +kernel
theorem d_Te_readExpressions_15 : decode c_Te_readExpressions 15 = .ok (.iload_n 3, 1) := by decide +kernel
theorem d_Te_readExpressions_16 : decode c_Te_readExpressions 16 = .ok (.iload 4, 2) := by decide +kernel
theorem d_Te_readExpressions_18 : decode c_Te_readExpressions 18 = .ok (.invokevirtual 57, 3) := by decide +kernel
theorem d_Te_readExpressions_21 : decode c_Te_readExpressions 21 = .ok (.istore 5, 2) := by decide +kernel
theorem d_Te_readExpressions_23 : decode c_Te_readExpressions 23 = .ok (.iinc 6 1, 3) := by decide +kernel
theorem d_Te_readExpressions_26 : decode c_Te_readExpressions 26 = .ok (.goto (-20), 3) := by decide +kernel
theorem d_Te_readExpressions_29 : decode c_Te_readExpressions 29 = .ok (.iload 5, 2) := by decide +kernel
theorem d_Te_readExpressions_31 : decode c_Te_readExpressions 31 = .ok (.ireturn, 1) := by decide +kernel
theorem d_Te_readBinding_0 : decode c_Te_readBinding 0 = .ok (.aload_n 0, 1) := by decide +kernel
theorem d_Te_readBinding_1 : decode c_Te_readBinding 1 = .ok (.iload_n 1, 1) := by decide +kernel
theorem d_Te_readBinding_2 : decode c_Te_readBinding 2 = .ok (.iconst 1, 1) := by decide +kernel
theorem d_Te_readBinding_3 : decode c_Te_readBinding 3 = .ok (.iadd, 1) := by decide +kernel
theorem d_Te_readBinding_4 : decode c_Te_readBinding 4 = .ok (.invokevirtual 45, 3) := by decide +kernel
theorem d_Te_readBinding_7 : decode c_Te_readBinding 7 = .ok (.istore 4, 2) := by decide +kernel
theorem d_Te_readBinding_9 : decode c_Te_readBinding 9 = .ok (.iload 4, 2) := by decide +kernel
theorem d_Te_readBinding_11 : decode c_Te_readBinding 11 = .ok (.invokestatic 49, 3) := by decide +kernel
theorem d_Te_readBinding_14 : decode c_Te_readBinding 14 = .ok (.ifCond .ne 5, 3) := by decide +kernel
theorem d_Te_readBinding_17 : decode c_Te_readBinding 17 = .ok (.iconst (-1), 1) := by decide +kernel
theorem d_Te_readBinding_18 : decode c_Te_readBinding 18 = .ok (.ireturn, 1) := by decide +kernel
theorem d_Te_readBinding_19 : decode c_Te_readBinding 19 = .ok (.aload_n 0, 1) := by decide +kernel
theorem d_Te_readBinding_20 : decode c_Te_readBinding 20 = .ok (.iload_n 1, 1) := by decide +kernel
theorem d_Te_readBinding_21 : decode c_Te_readBinding 21 = .ok (.iconst 2, 1) := by decide +kernel
theorem d_Te_readBinding_22 : decode c_Te_readBinding 22 = .ok (.iadd, 1) := by decide +kernel
theorem d_Te_readBinding_23 : decode c_Te_readBinding 23 = .ok (.iload_n 2, 1) := by decide +kernel
theorem d_Te_readBinding_24 : decode c_Te_readBinding 24 = .ok (.iload_n 3, 1) := by decide +kernel
theorem d_Te_readBinding_25 : decode c_Te_readBinding 25 = .ok (.invokevirtual 57, 3) := by decide +kernel
theorem d_Te_readBinding_28 : decode c_Te_readBinding 28 = .ok (.istore 5, 2) := by decide +kernel
theorem d_Te_readBinding_30 : decode c_Te_readBinding 30 = .ok (.aload_n 0, 1) := by decide +kernel
theorem d_Te_readBinding_31 : decode c_Te_readBinding 31 = .ok (.iload 5, 2) := by decide +kernel
theorem d_Te_readBinding_33 : decode c_Te_readBinding 33 = .ok (.iload_n 2, 1) := by decide +kernel
theorem d_Te_readBinding_34 : decode c_Te_readBinding 34 = .ok (.iload_n 3, 1) := by decide +kernel
theorem d_Te_readBinding_35 : decode c_Te_readBinding 35 = .ok (.iconst 1, 1) := by decide +kernel
theorem d_Te_readBinding_36 : decode c_Te_readBinding 36 = .ok (.iload 4, 2) := by decide +kernel
theorem d_Te_readBinding_38 : decode c_Te_readBinding 38 = .ok (.bipush 107, 2) := by decide +kernel
theorem d_Te_readBinding_40 : decode c_Te_readBinding 40 = .ok (.isub, 1) := by decide +kernel
theorem d_Te_readBinding_41 : decode c_Te_readBinding 41 = .ok (.ishl, 1) := by decide +kernel
theorem d_Te_readBinding_42 : decode c_Te_readBinding 42 = .ok (.ior, 1) := by decide +kernel
theorem d_Te_readBinding_43 : decode c_Te_readBinding 43 = .ok (.invokevirtual 57, 3) := by decide +kernel
theorem d_Te_readBinding_46 : decode c_Te_readBinding 46 = .ok (.ireturn, 1) := by decide +kernel
theorem d_Te_readName_0 : decode c_Te_readName 0 = .ok (.aload_n 0, 1) := by decide +kernel
theorem d_Te_readName_1 : decode c_Te_readName 1 = .ok (.iload_n 1, 1) := by decide +kernel
theorem d_Te_readName_2 : decode c_Te_readName 2 = .ok (.invokevirtual 45, 3) := by decide +kernel
theorem d_Te_readName_5 : decode c_Te_readName 5 = .ok (.istore_n 2, 1) := by decide +kernel
theorem d_Te_readName_6 : decode c_Te_readName 6 = .ok (.iload_n 2, 1) := by decide +kernel
theorem d_Te_readName_7 : decode c_Te_readName 7 = .ok (.invokestatic 87, 3) := by decide +kernel
theorem d_Te_readName_10 : decode c_Te_readName 10 = .ok (.ifCond .ne 5, 3) := by decide +kernel
theorem d_Te_readName_13 : decode c_Te_readName 13 = .ok (.iconst (-1), 1) := by decide +kernel
theorem d_Te_readName_14 : decode c_Te_readName 14 = .ok (.ireturn, 1) := by decide +kernel
theorem d_Te_readName_15 : decode c_Te_readName 15 = .ok (.aload_n 0, 1) := by decide +kernel
theorem d_Te_readName_16 : decode c_Te_readName 16 = .ok (.dup, 1) := by decide +kernel
theorem d_Te_readName_17 : decode c_Te_readName 17 = .ok (.getfield 30, 3) := by decide +kernel
theorem d_Te_readName_20 : decode c_Te_readName 20 = .ok (.iconst 1, 1) := by decide +kernel
theorem d_Te_readName_21 : decode c_Te_readName 21 = .ok (.iload_n 2, 1) := by decide +kernel
theorem d_Te_readName_22 : decode c_Te_readName 22 = .ok (.bipush 97, 2) := by decide +kernel
theorem d_Te_readName_24 : decode c_Te_readName 24 = .ok (.isub, 1) := by decide +kernel
theorem d_Te_readName_25 : decode c_Te_readName 25 = .ok (.ishl, 1) := by decide +kernel
theorem d_Te_readName_26 : decode c_Te_readName 26 = .ok (.ior, 1) := by decide +kernel
theorem d_Te_readName_27 : decode c_Te_readName 27 = .ok (.putfield 30, 3) := by decide +kernel
theorem d_Te_readName_30 : decode c_Te_readName 30 = .ok (.iload_n 1, 1) := by decide +kernel
theorem d_Te_readName_31 : decode c_Te_readName 31 = .ok (.iconst 1, 1) := by decide +kernel
theorem d_Te_readName_32 : decode c_Te_readName 32 = .ok (.iadd, 1) := by decide +kernel
theorem d_Te_readName_33 : decode c_Te_readName 33 = .ok (.ireturn, 1) := by decide +kernel
theorem d_B_isName_0 : decode c_B_isName 0 = .ok (.iload_n 0, 1) := by decide +kernel
theorem d_B_isName_1 : decode c_B_isName 1 = .ok (.bipush 97, 2) := by decide +kernel
theorem d_B_isName_3 : decode c_B_isName 3 = .ok (.if_icmp .lt 13, 3) := by decide +kernel
theorem d_B_isName_6 : decode c_B_isName 6 = .ok (.iload_n 0, 1) := by decide +kernel
theorem d_B_isName_7 : decode c_B_isName 7 = .ok (.bipush 106, 2) := by decide +kernel
theorem d_B_isName_9 : decode c_B_isName 9 = .ok (.if_icmp .gt 7, 3) := by decide +kernel
theorem d_B_isName_12 : decode c_B_isName 12 = .ok (.iconst 1, 1) := by decide +kernel
theorem d_B_isName_13 : decode c_B_isName 13 = .ok (.goto 4, 3) := by decide +kernel
theorem d_B_isName_16 : decode c_B_isName 16 = .ok (.iconst 0, 1) := by decide +kernel
theorem d_B_isName_17 : decode c_B_isName 17 = .ok (.ireturn, 1) := by decide +kernel
theorem d_Te_readMatch_0 : decode c_Te_readMatch 0 = .ok (.aload_n 0, 1) := by decide +kernel
theorem d_Te_readMatch_1 : decode c_Te_readMatch 1 = .ok (.iload_n 1, 1) := by decide +kernel
theorem d_Te_readMatch_2 : decode c_Te_readMatch 2 = .ok (.iconst 1, 1) := by decide +kernel
theorem d_Te_readMatch_3 : decode c_Te_readMatch 3 = .ok (.iadd, 1) := by decide +kernel
theorem d_Te_readMatch_4 : decode c_Te_readMatch 4 = .ok (.iload_n 2, 1) := by decide +kernel
theorem d_Te_readMatch_5 : decode c_Te_readMatch 5 = .ok (.iload_n 3, 1) := by decide +kernel
theorem d_Te_readMatch_6 : decode c_Te_readMatch 6 = .ok (.invokevirtual 57, 3) := by decide +kernel
theorem d_Te_readMatch_9 : decode c_Te_readMatch 9 = .ok (.istore 4, 2) := by decide +kernel
theorem d_Te_readMatch_11 : decode c_Te_readMatch 11 = .ok (.iconst 0, 1) := by decide +kernel
theorem d_Te_readMatch_12 : decode c_Te_readMatch 12 = .ok (.istore 5, 2) := by decide +kernel
theorem d_Te_readMatch_14 : decode c_Te_readMatch 14 = .ok (.iload 5, 2) := by decide +kernel
theorem d_Te_readMatch_16 : decode c_Te_readMatch 16 = .ok (.iconst 2, 1) := by decide +kernel
theorem d_Te_readMatch_17 : decode c_Te_readMatch 17 = .ok (.if_icmp .ge 35, 3) := by decide +kernel
theorem d_Te_readMatch_20 : decode c_Te_readMatch 20 = .ok (.aload_n 0, 1) := by decide +kernel
theorem d_Te_readMatch_21 : decode c_Te_readMatch 21 = .ok (.iload 4, 2) := by decide +kernel
theorem d_Te_readMatch_23 : decode c_Te_readMatch 23 = .ok (.invokevirtual 45, 3) := by decide +kernel
theorem d_Te_readMatch_26 : decode c_Te_readMatch 26 = .ok (.invokestatic 80, 3) := by decide +kernel
theorem d_Te_readMatch_29 : decode c_Te_readMatch 29 = .ok (.ifCond .ne 5, 3) := by decide +kernel
theorem d_Te_readMatch_32 : decode c_Te_readMatch 32 = .ok (.iconst (-1), 1) := by decide +kernel
theorem d_Te_readMatch_33 : decode c_Te_readMatch 33 = .ok (.ireturn, 1) := by decide +kernel
theorem d_Te_readMatch_34 : decode c_Te_readMatch 34 = .ok (.aload_n 0, 1) := by decide +kernel
theorem d_Te_readMatch_35 : decode c_Te_readMatch 35 = .ok (.iload 4, 2) := by decide +kernel
theorem d_Te_readMatch_37 : decode c_Te_readMatch 37 = .ok (.iconst 1, 1) := by decide +kernel
theorem d_Te_readMatch_38 : decode c_Te_readMatch 38 = .ok (.iadd, 1) := by decide +kernel
theorem d_Te_readMatch_39 : decode c_Te_readMatch 39 = .ok (.iload_n 2, 1) := by decide +kernel
theorem d_Te_readMatch_40 : decode c_Te_readMatch 40 = .ok (.iload_n 3, 1) := by decide +kernel
theorem d_Te_readMatch_41 : decode c_Te_readMatch 41 = .ok (.invokevirtual 57, 3) := by decide +kernel
theorem d_Te_readMatch_44 : decode c_Te_readMatch 44 = .ok (.istore 4, 2) := by decide +kernel
theorem d_Te_readMatch_46 : decode c_Te_readMatch 46 = .ok (.iinc 5 1, 3) := by decide +kernel
theorem d_Te_readMatch_49 : decode c_Te_readMatch 49 = .ok (.goto (-35), 3) := by decide +kernel
theorem d_Te_readMatch_52 : decode c_Te_readMatch 52 = .ok (.iload 4, 2) := by decide +kernel
theorem d_Te_readMatch_54 : decode c_Te_readMatch 54 = .ok (.ireturn, 1) := by decide +kernel
theorem d_B_isDigit_0 : decode c_B_isDigit 0 = .ok (.iload_n 0, 1) := by decide +kernel
theorem d_B_isDigit_1 : decode c_B_isDigit 1 = .ok (.bipush 48, 2) := by decide +kernel
theorem d_B_isDigit_3 : decode c_B_isDigit 3 = .ok (.if_icmp .lt 13, 3) := by decide +kernel
theorem d_B_isDigit_6 : decode c_B_isDigit 6 = .ok (.iload_n 0, 1) := by decide +kernel
theorem d_B_isDigit_7 : decode c_B_isDigit 7 = .ok (.bipush 57, 2) := by decide +kernel
theorem d_B_isDigit_9 : decode c_B_isDigit 9 = .ok (.if_icmp .gt 7, 3) := by decide +kernel
theorem d_B_isDigit_12 : decode c_B_isDigit 12 = .ok (.iconst 1, 1) := by decide +kernel
theorem d_B_isDigit_13 : decode c_B_isDigit 13 = .ok (.goto 4, 3) := by decide +kernel
theorem d_B_isDigit_16 : decode c_B_isDigit 16 = .ok (.iconst 0, 1) := by decide +kernel
theorem d_B_isDigit_17 : decode c_B_isDigit 17 = .ok (.ireturn, 1) := by decide +kernel
theorem d_Te_readLeaf_0 : decode c_Te_readLeaf 0 = .ok (.aload_n 0, 1) := by decide +kernel
theorem d_Te_readLeaf_1 : decode c_Te_readLeaf 1 = .ok (.iload_n 1, 1) := by decide +kernel
theorem d_Te_readLeaf_2 : decode c_Te_readLeaf 2 = .ok (.invokevirtual 45, 3) := by decide +kernel
theorem d_Te_readLeaf_5 : decode c_Te_readLeaf 5 = .ok (.istore_n 3, 1) := by decide +kernel
theorem d_Te_readLeaf_6 : decode c_Te_readLeaf 6 = .ok (.iload_n 3, 1) := by decide +kernel
theorem d_Te_readLeaf_7 : decode c_Te_readLeaf 7 = .ok (.invokestatic 49, 3) := by decide +kernel
theorem d_Te_readLeaf_10 : decode c_Te_readLeaf 10 = .ok (.ifCond .eq 22, 3) := by decide +kernel
theorem d_Te_readLeaf_13 : decode c_Te_readLeaf 13 = .ok (.iload_n 2, 1) := by decide +kernel
theorem d_Te_readLeaf_14 : decode c_Te_readLeaf 14 = .ok (.iload_n 3, 1) := by decide +kernel
theorem d_Te_readLeaf_15 : decode c_Te_readLeaf 15 = .ok (.bipush 107, 2) := by decide +kernel
theorem d_Te_readLeaf_17 : decode c_Te_readLeaf 17 = .ok (.isub, 1) := by decide +kernel
theorem d_Te_readLeaf_18 : decode c_Te_readLeaf 18 = .ok (.invokestatic 83, 3) := by decide +kernel
theorem d_Te_readLeaf_21 : decode c_Te_readLeaf 21 = .ok (.ifCond .eq 9, 3) := by decide +kernel
theorem d_Te_readLeaf_24 : decode c_Te_readLeaf 24 = .ok (.iload_n 1, 1) := by decide +kernel
theorem d_Te_readLeaf_25 : decode c_Te_readLeaf 25 = .ok (.iconst 1, 1) := by decide +kernel
theorem d_Te_readLeaf_26 : decode c_Te_readLeaf 26 = .ok (.iadd, 1) := by decide +kernel
theorem d_Te_readLeaf_27 : decode c_Te_readLeaf 27 = .ok (.goto 4, 3) := by decide +kernel
theorem d_Te_readLeaf_30 : decode c_Te_readLeaf 30 = .ok (.iconst (-1), 1) := by decide +kernel
theorem d_Te_readLeaf_31 : decode c_Te_readLeaf 31 = .ok (.ireturn, 1) := by decide +kernel
theorem d_Te_readLeaf_32 : decode c_Te_readLeaf 32 = .ok (.iload_n 3, 1) := by decide +kernel
theorem d_Te_readLeaf_33 : decode c_Te_readLeaf 33 = .ok (.invokestatic 80, 3) := by decide +kernel
theorem d_Te_readLeaf_36 : decode c_Te_readLeaf 36 = .ok (.ifCond .eq 9, 3) := by decide +kernel
theorem d_Te_readLeaf_39 : decode c_Te_readLeaf 39 = .ok (.iload_n 1, 1) := by decide +kernel
theorem d_Te_readLeaf_40 : decode c_Te_readLeaf 40 = .ok (.iconst 1, 1) := by decide +kernel
theorem d_Te_readLeaf_41 : decode c_Te_readLeaf 41 = .ok (.iadd, 1) := by decide +kernel
theorem d_Te_readLeaf_42 : decode c_Te_readLeaf 42 = .ok (.goto 8, 3) := by decide +kernel
theorem d_Te_readLeaf_45 : decode c_Te_readLeaf 45 = .ok (.aload_n 0, 1) := by decide +kernel
theorem d_Te_readLeaf_46 : decode c_Te_readLeaf 46 = .ok (.iload_n 1, 1) := by decide +kernel
theorem d_Te_readLeaf_47 : decode c_Te_readLeaf 47 = .ok (.invokevirtual 71, 3) := by decide +kernel
theorem d_Te_readLeaf_50 : decode c_Te_readLeaf 50 = .ok (.ireturn, 1) := by decide +kernel
theorem d_B_hasBit_0 : decode c_B_hasBit 0 = .ok (.iload_n 0, 1) := by decide +kernel
theorem d_B_hasBit_1 : decode c_B_hasBit 1 = .ok (.iload_n 1, 1) := by decide +kernel
theorem d_B_hasBit_2 : decode c_B_hasBit 2 = .ok (.ishr, 1) := by decide +kernel
theorem d_B_hasBit_3 : decode c_B_hasBit 3 = .ok (.iconst 1, 1) := by decide +kernel
theorem d_B_hasBit_4 : decode c_B_hasBit 4 = .ok (.iand, 1) := by decide +kernel
theorem d_B_hasBit_5 : decode c_B_hasBit 5 = .ok (.iconst 1, 1) := by decide +kernel
theorem d_B_hasBit_6 : decode c_B_hasBit 6 = .ok (.if_icmp .ne 7, 3) := by decide +kernel
theorem d_B_hasBit_9 : decode c_B_hasBit 9 = .ok (.iconst 1, 1) := by decide +kernel
theorem d_B_hasBit_10 : decode c_B_hasBit 10 = .ok (.goto 4, 3) := by decide +kernel
theorem d_B_hasBit_13 : decode c_B_hasBit 13 = .ok (.iconst 0, 1) := by decide +kernel
theorem d_B_hasBit_14 : decode c_B_hasBit 14 = .ok (.ireturn, 1) := by decide +kernel
theorem d_B_follow_0 : decode c_B_follow 0 = .ok (.aload_n 0, 1) := by decide +kernel
theorem d_B_follow_1 : decode c_B_follow 1 = .ok (.invokevirtual 115, 3) := by decide +kernel
theorem d_B_follow_4 : decode c_B_follow 4 = .ok (.aload_n 0, 1) := by decide +kernel
theorem d_B_follow_5 : decode c_B_follow 5 = .ok (.invokevirtual 118, 3) := by decide +kernel
theorem d_B_follow_8 : decode c_B_follow 8 = .ok (.iconst 0, 1) := by decide +kernel
theorem d_B_follow_9 : decode c_B_follow 9 = .ok (.istore_n 2, 1) := by decide +kernel
theorem d_B_follow_10 : decode c_B_follow 10 = .ok (.iload_n 2, 1) := by decide +kernel
theorem d_B_follow_11 : decode c_B_follow 11 = .ok (.bipush 10, 2) := by decide +kernel
theorem d_B_follow_13 : decode c_B_follow 13 = .ok (.if_icmp .ge 23, 3) := by decide +kernel
theorem d_B_follow_16 : decode c_B_follow 16 = .ok (.aload_n 0, 1) := by decide +kernel
theorem d_B_follow_17 : decode c_B_follow 17 = .ok (.getfield 11, 3) := by decide +kernel
theorem d_B_follow_20 : decode c_B_follow 20 = .ok (.iload_n 2, 1) := by decide +kernel
theorem d_B_follow_21 : decode c_B_follow 21 = .ok (.aaload, 1) := by decide +kernel
theorem d_B_follow_22 : decode c_B_follow 22 = .ok (.aload_n 0, 1) := by decide +kernel
theorem d_B_follow_23 : decode c_B_follow 23 = .ok (.iload_n 2, 1) := by decide +kernel
theorem d_B_follow_24 : decode c_B_follow 24 = .ok (.invokevirtual 121, 3) := by decide +kernel
theorem d_B_follow_27 : decode c_B_follow 27 = .ok (.putfield 125, 3) := by decide +kernel
theorem d_B_follow_30 : decode c_B_follow 30 = .ok (.iinc 2 1, 3) := by decide +kernel
theorem d_B_follow_33 : decode c_B_follow 33 = .ok (.goto (-23), 3) := by decide +kernel
theorem d_B_follow_36 : decode c_B_follow 36 = .ok (.aload_n 0, 1) := by decide +kernel
theorem d_B_follow_37 : decode c_B_follow 37 = .ok (.iload_n 1, 1) := by decide +kernel
theorem d_B_follow_38 : decode c_B_follow 38 = .ok (.invokevirtual 128, 3) := by decide +kernel
theorem d_B_follow_41 : decode c_B_follow 41 = .ok (.return_, 1) := by decide +kernel
theorem d_B_findDefiners_0 : decode c_B_findDefiners 0 = .ok (.iconst 0, 1) := by decide +kernel
theorem d_B_findDefiners_1 : decode c_B_findDefiners 1 = .ok (.istore_n 1, 1) := by decide +kernel
theorem d_B_findDefiners_2 : decode c_B_findDefiners 2 = .ok (.iload_n 1, 1) := by decide +kernel
theorem d_B_findDefiners_3 : decode c_B_findDefiners 3 = .ok (.bipush 10, 2) := by decide +kernel
theorem d_B_findDefiners_5 : decode c_B_findDefiners 5 = .ok (.if_icmp .ge 16, 3) := by decide +kernel
theorem d_B_findDefiners_8 : decode c_B_findDefiners 8 = .ok (.aload_n 0, 1) := by decide +kernel
theorem d_B_findDefiners_9 : decode c_B_findDefiners 9 = .ok (.getfield 16, 3) := by decide +kernel
theorem d_B_findDefiners_12 : decode c_B_findDefiners 12 = .ok (.iload_n 1, 1) := by decide +kernel
theorem d_B_findDefiners_13 : decode c_B_findDefiners 13 = .ok (.aconst_null, 1) := by decide +kernel
theorem d_B_findDefiners_14 : decode c_B_findDefiners 14 = .ok (.aastore, 1) := by decide +kernel
theorem d_B_findDefiners_15 : decode c_B_findDefiners 15 = .ok (.iinc 1 1, 3) := by decide +kernel
theorem d_B_findDefiners_18 : decode c_B_findDefiners 18 = .ok (.goto (-16), 3) := by decide +kernel
theorem d_B_findDefiners_21 : decode c_B_findDefiners 21 = .ok (.iconst 0, 1) := by decide +kernel
theorem d_B_findDefiners_22 : decode c_B_findDefiners 22 = .ok (.istore_n 1, 1) := by decide +kernel
theorem d_B_findDefiners_23 : decode c_B_findDefiners 23 = .ok (.iload_n 1, 1) := by decide +kernel
theorem d_B_findDefiners_24 : decode c_B_findDefiners 24 = .ok (.bipush 10, 2) := by decide +kernel
theorem d_B_findDefiners_26 : decode c_B_findDefiners 26 = .ok (.if_icmp .ge 41, 3) := by decide +kernel
theorem d_B_findDefiners_29 : decode c_B_findDefiners 29 = .ok (.aload_n 0, 1) := by decide +kernel
theorem d_B_findDefiners_30 : decode c_B_findDefiners 30 = .ok (.getfield 11, 3) := by decide +kernel
theorem d_B_findDefiners_33 : decode c_B_findDefiners 33 = .ok (.iload_n 1, 1) := by decide +kernel
theorem d_B_findDefiners_34 : decode c_B_findDefiners 34 = .ok (.aaload, 1) := by decide +kernel
theorem d_B_findDefiners_35 : decode c_B_findDefiners 35 = .ok (.invokevirtual 71, 3) := by decide +kernel
theorem d_B_findDefiners_38 : decode c_B_findDefiners 38 = .ok (.ifCond .ne 23, 3) := by decide +kernel
theorem d_B_findDefiners_41 : decode c_B_findDefiners 41 = .ok (.aload_n 0, 1) := by decide +kernel
theorem d_B_findDefiners_42 : decode c_B_findDefiners 42 = .ok (.getfield 16, 3) := by decide +kernel
theorem d_B_findDefiners_45 : decode c_B_findDefiners 45 = .ok (.aload_n 0, 1) := by decide +kernel
theorem d_B_findDefiners_46 : decode c_B_findDefiners 46 = .ok (.getfield 11, 3) := by decide +kernel
theorem d_B_findDefiners_49 : decode c_B_findDefiners 49 = .ok (.iload_n 1, 1) := by decide +kernel
theorem d_B_findDefiners_50 : decode c_B_findDefiners 50 = .ok (.aaload, 1) := by decide +kernel
theorem d_B_findDefiners_51 : decode c_B_findDefiners 51 = .ok (.getfield 54, 3) := by decide +kernel
theorem d_B_findDefiners_54 : decode c_B_findDefiners 54 = .ok (.aload_n 0, 1) := by decide +kernel
theorem d_B_findDefiners_55 : decode c_B_findDefiners 55 = .ok (.getfield 11, 3) := by decide +kernel
theorem d_B_findDefiners_58 : decode c_B_findDefiners 58 = .ok (.iload_n 1, 1) := by decide +kernel
theorem d_B_findDefiners_59 : decode c_B_findDefiners 59 = .ok (.aaload, 1) := by decide +kernel
theorem d_B_findDefiners_60 : decode c_B_findDefiners 60 = .ok (.aastore, 1) := by decide +kernel
theorem d_B_findDefiners_61 : decode c_B_findDefiners 61 = .ok (.iinc 1 1, 3) := by decide +kernel
theorem d_B_findDefiners_64 : decode c_B_findDefiners 64 = .ok (.goto (-41), 3) := by decide +kernel
theorem d_B_findDefiners_67 : decode c_B_findDefiners 67 = .ok (.return_, 1) := by decide +kernel
theorem d_B_findWays_0 : decode c_B_findWays 0 = .ok (.iconst 0, 1) := by decide +kernel
theorem d_B_findWays_1 : decode c_B_findWays 1 = .ok (.istore_n 1, 1) := by decide +kernel
theorem d_B_findWays_2 : decode c_B_findWays 2 = .ok (.iload_n 1, 1) := by decide +kernel
theorem d_B_findWays_3 : decode c_B_findWays 3 = .ok (.bipush 10, 2) := by decide +kernel
theorem d_B_findWays_5 : decode c_B_findWays 5 = .ok (.if_icmp .ge 56, 3) := by decide +kernel
theorem d_B_findWays_8 : decode c_B_findWays 8 = .ok (.aload_n 0, 1) := by decide +kernel
theorem d_B_findWays_9 : decode c_B_findWays 9 = .ok (.getfield 11, 3) := by decide +kernel
theorem d_B_findWays_12 : decode c_B_findWays 12 = .ok (.iload_n 1, 1) := by decide +kernel
theorem d_B_findWays_13 : decode c_B_findWays 13 = .ok (.aaload, 1) := by decide +kernel
theorem d_B_findWays_14 : decode c_B_findWays 14 = .ok (.getfield 57, 3) := by decide +kernel
theorem d_B_findWays_17 : decode c_B_findWays 17 = .ok (.invokevirtual 134, 3) := by decide +kernel
theorem d_B_findWays_20 : decode c_B_findWays 20 = .ok (.istore_n 2, 1) := by decide +kernel
theorem d_B_findWays_21 : decode c_B_findWays 21 = .ok (.aload_n 0, 1) := by decide +kernel
theorem d_B_findWays_22 : decode c_B_findWays 22 = .ok (.getfield 19, 3) := by decide +kernel
theorem d_B_findWays_25 : decode c_B_findWays 25 = .ok (.iload_n 1, 1) := by decide +kernel
theorem d_B_findWays_26 : decode c_B_findWays 26 = .ok (.iload_n 2, 1) := by decide +kernel
theorem d_B_findWays_27 : decode c_B_findWays 27 = .ok (.ifCond .eq 11, 3) := by decide +kernel
theorem d_B_findWays_30 : decode c_B_findWays 30 = .ok (.aload_n 0, 1) := by decide +kernel
theorem d_B_findWays_31 : decode c_B_findWays 31 = .ok (.iload_n 1, 1) := by decide +kernel
theorem d_B_findWays_32 : decode c_B_findWays 32 = .ok (.invokevirtual 137, 3) := by decide +kernel
theorem d_B_findWays_35 : decode c_B_findWays 35 = .ok (.goto 19, 3) := by decide +kernel
theorem d_B_findWays_38 : decode c_B_findWays 38 = .ok (.aload_n 0, 1) := by decide +kernel
theorem d_B_findWays_39 : decode c_B_findWays 39 = .ok (.aload_n 0, 1) := by decide +kernel
theorem d_B_findWays_40 : decode c_B_findWays 40 = .ok (.getfield 11, 3) := by decide +kernel
theorem d_B_findWays_43 : decode c_B_findWays 43 = .ok (.iload_n 1, 1) := by decide +kernel
theorem d_B_findWays_44 : decode c_B_findWays 44 = .ok (.aaload, 1) := by decide +kernel
theorem d_B_findWays_45 : decode c_B_findWays 45 = .ok (.getfield 57, 3) := by decide +kernel
theorem d_B_findWays_48 : decode c_B_findWays 48 = .ok (.getfield 100, 3) := by decide +kernel
theorem d_B_findWays_51 : decode c_B_findWays 51 = .ok (.invokevirtual 131, 3) := by decide +kernel
theorem d_B_findWays_54 : decode c_B_findWays 54 = .ok (.iastore, 1) := by decide +kernel
theorem d_B_findWays_55 : decode c_B_findWays 55 = .ok (.iinc 1 1, 3) := by decide +kernel
theorem d_B_findWays_58 : decode c_B_findWays 58 = .ok (.goto (-56), 3) := by decide +kernel
theorem d_B_findWays_61 : decode c_B_findWays 61 = .ok (.iconst 0, 1) := by decide +kernel
theorem d_B_findWays_62 : decode c_B_findWays 62 = .ok (.istore_n 1, 1) := by decide +kernel
theorem d_B_findWays_63 : decode c_B_findWays 63 = .ok (.iload_n 1, 1) := by decide +kernel
theorem d_B_findWays_64 : decode c_B_findWays 64 = .ok (.bipush 10, 2) := by decide +kernel
theorem d_B_findWays_66 : decode c_B_findWays 66 = .ok (.if_icmp .ge 51, 3) := by decide +kernel
theorem d_B_findWays_69 : decode c_B_findWays 69 = .ok (.iconst 0, 1) := by decide +kernel
theorem d_B_findWays_70 : decode c_B_findWays 70 = .ok (.istore_n 2, 1) := by decide +kernel
theorem d_B_findWays_71 : decode c_B_findWays 71 = .ok (.iload_n 2, 1) := by decide +kernel
theorem d_B_findWays_72 : decode c_B_findWays 72 = .ok (.bipush 10, 2) := by decide +kernel
theorem d_B_findWays_74 : decode c_B_findWays 74 = .ok (.if_icmp .ge 37, 3) := by decide +kernel
theorem d_B_findWays_77 : decode c_B_findWays 77 = .ok (.aload_n 0, 1) := by decide +kernel
theorem d_B_findWays_78 : decode c_B_findWays 78 = .ok (.getfield 19, 3) := by decide +kernel
theorem d_B_findWays_81 : decode c_B_findWays 81 = .ok (.iload_n 2, 1) := by decide +kernel
theorem d_B_findWays_82 : decode c_B_findWays 82 = .ok (.iaload, 1) := by decide +kernel
theorem d_B_findWays_83 : decode c_B_findWays 83 = .ok (.iload_n 1, 1) := by decide +kernel
theorem d_B_findWays_84 : decode c_B_findWays 84 = .ok (.invokestatic 140, 3) := by decide +kernel
theorem d_B_findWays_87 : decode c_B_findWays 87 = .ok (.ifCond .eq 18, 3) := by decide +kernel
theorem d_B_findWays_90 : decode c_B_findWays 90 = .ok (.aload_n 0, 1) := by decide +kernel
theorem d_B_findWays_91 : decode c_B_findWays 91 = .ok (.getfield 19, 3) := by decide +kernel
theorem d_B_findWays_94 : decode c_B_findWays 94 = .ok (.iload_n 2, 1) := by decide +kernel
theorem d_B_findWays_95 : decode c_B_findWays 95 = .ok (.dup2, 1) := by decide +kernel
theorem d_B_findWays_96 : decode c_B_findWays 96 = .ok (.iaload, 1) := by decide +kernel
theorem d_B_findWays_97 : decode c_B_findWays 97 = .ok (.aload_n 0, 1) := by decide +kernel
theorem d_B_findWays_98 : decode c_B_findWays 98 = .ok (.getfield 19, 3) := by decide +kernel
theorem d_B_findWays_101 : decode c_B_findWays 101 = .ok (.iload_n 1, 1) := by decide +kernel
theorem d_B_findWays_102 : decode c_B_findWays 102 = .ok (.iaload, 1) := by decide +kernel
theorem d_B_findWays_103 : decode c_B_findWays 103 = .ok (.ior, 1) := by decide +kernel
theorem d_B_findWays_104 : decode c_B_findWays 104 = .ok (.iastore, 1) := by decide +kernel
theorem d_B_findWays_105 : decode c_B_findWays 105 = .ok (.iinc 2 1, 3) := by decide +kernel
theorem d_B_findWays_108 : decode c_B_findWays 108 = .ok (.goto (-37), 3) := by decide +kernel
theorem d_B_findWays_111 : decode c_B_findWays 111 = .ok (.iinc 1 1, 3) := by decide +kernel
theorem d_B_findWays_114 : decode c_B_findWays 114 = .ok (.goto (-51), 3) := by decide +kernel
theorem d_B_findWays_117 : decode c_B_findWays 117 = .ok (.return_, 1) := by decide +kernel
theorem d_Te_isFunction_0 : decode c_Te_isFunction 0 = .ok (.aload_n 0, 1) := by decide +kernel
theorem d_Te_isFunction_1 : decode c_Te_isFunction 1 = .ok (.getfield 26, 3) := by decide +kernel
theorem d_Te_isFunction_4 : decode c_Te_isFunction 4 = .ok (.ifCond .eq 15, 3) := by decide +kernel
theorem d_Te_isFunction_7 : decode c_Te_isFunction 7 = .ok (.aload_n 0, 1) := by decide +kernel
theorem d_Te_isFunction_8 : decode c_Te_isFunction 8 = .ok (.getfield 23, 3) := by decide +kernel
theorem d_Te_isFunction_11 : decode c_Te_isFunction 11 = .ok (.iconst 2, 1) := by decide +kernel
theorem d_Te_isFunction_12 : decode c_Te_isFunction 12 = .ok (.if_icmp .ne 7, 3) := by decide +kernel
theorem d_Te_isFunction_15 : decode c_Te_isFunction 15 = .ok (.iconst 1, 1) := by decide +kernel
theorem d_Te_isFunction_16 : decode c_Te_isFunction 16 = .ok (.goto 4, 3) := by decide +kernel
theorem d_Te_isFunction_19 : decode c_Te_isFunction 19 = .ok (.iconst 0, 1) := by decide +kernel
theorem d_Te_isFunction_20 : decode c_Te_isFunction 20 = .ok (.ireturn, 1) := by decide +kernel
theorem d_B_othersUsedBy_0 : decode c_B_othersUsedBy 0 = .ok (.aload_n 0, 1) := by decide +kernel
theorem d_B_othersUsedBy_1 : decode c_B_othersUsedBy 1 = .ok (.aload_n 0, 1) := by decide +kernel
theorem d_B_othersUsedBy_2 : decode c_B_othersUsedBy 2 = .ok (.getfield 11, 3) := by decide +kernel
theorem d_B_othersUsedBy_5 : decode c_B_othersUsedBy 5 = .ok (.iload_n 1, 1) := by decide +kernel
theorem d_B_othersUsedBy_6 : decode c_B_othersUsedBy 6 = .ok (.aaload, 1) := by decide +kernel
theorem d_B_othersUsedBy_7 : decode c_B_othersUsedBy 7 = .ok (.getfield 57, 3) := by decide +kernel
theorem d_B_othersUsedBy_10 : decode c_B_othersUsedBy 10 = .ok (.getfield 100, 3) := by decide +kernel
theorem d_B_othersUsedBy_13 : decode c_B_othersUsedBy 13 = .ok (.invokevirtual 131, 3) := by decide +kernel
theorem d_B_othersUsedBy_16 : decode c_B_othersUsedBy 16 = .ok (.iconst 1, 1) := by decide +kernel
theorem d_B_othersUsedBy_17 : decode c_B_othersUsedBy 17 = .ok (.iload_n 1, 1) := by decide +kernel
theorem d_B_othersUsedBy_18 : decode c_B_othersUsedBy 18 = .ok (.ishl, 1) := by decide +kernel
theorem d_B_othersUsedBy_19 : decode c_B_othersUsedBy 19 = .ok (.iconst (-1), 1) := by decide +kernel
theorem d_B_othersUsedBy_20 : decode c_B_othersUsedBy 20 = .ok (.ixor, 1) := by decide +kernel
theorem d_B_othersUsedBy_21 : decode c_B_othersUsedBy 21 = .ok (.iand, 1) := by decide +kernel
theorem d_B_othersUsedBy_22 : decode c_B_othersUsedBy 22 = .ok (.ireturn, 1) := by decide +kernel
theorem d_B_cellsDefining_0 : decode c_B_cellsDefining 0 = .ok (.iconst 0, 1) := by decide +kernel
theorem d_B_cellsDefining_1 : decode c_B_cellsDefining 1 = .ok (.istore_n 2, 1) := by decide +kernel
theorem d_B_cellsDefining_2 : decode c_B_cellsDefining 2 = .ok (.iconst 0, 1) := by decide +kernel
theorem d_B_cellsDefining_3 : decode c_B_cellsDefining 3 = .ok (.istore_n 3, 1) := by decide +kernel
theorem d_B_cellsDefining_4 : decode c_B_cellsDefining 4 = .ok (.iload_n 3, 1) := by decide +kernel
theorem d_B_cellsDefining_5 : decode c_B_cellsDefining 5 = .ok (.bipush 10, 2) := by decide +kernel
theorem d_B_cellsDefining_7 : decode c_B_cellsDefining 7 = .ok (.if_icmp .ge 29, 3) := by decide +kernel
theorem d_B_cellsDefining_10 : decode c_B_cellsDefining 10 = .ok (.aload_n 0, 1) := by decide +kernel
theorem d_B_cellsDefining_11 : decode c_B_cellsDefining 11 = .ok (.getfield 11, 3) := by decide +kernel
theorem d_B_cellsDefining_14 : decode c_B_cellsDefining 14 = .ok (.iload_n 3, 1) := by decide +kernel
theorem d_B_cellsDefining_15 : decode c_B_cellsDefining 15 = .ok (.aaload, 1) := by decide +kernel
theorem d_B_cellsDefining_16 : decode c_B_cellsDefining 16 = .ok (.invokevirtual 50, 3) := by decide +kernel
theorem d_B_cellsDefining_19 : decode c_B_cellsDefining 19 = .ok (.iload_n 1, 1) := by decide +kernel
theorem d_B_cellsDefining_20 : decode c_B_cellsDefining 20 = .ok (.iand, 1) := by decide +kernel
theorem d_B_cellsDefining_21 : decode c_B_cellsDefining 21 = .ok (.ifCond .eq 9, 3) := by decide +kernel
theorem d_B_cellsDefining_24 : decode c_B_cellsDefining 24 = .ok (.iload_n 2, 1) := by decide +kernel
theorem d_B_cellsDefining_25 : decode c_B_cellsDefining 25 = .ok (.iconst 1, 1) := by decide +kernel
theorem d_B_cellsDefining_26 : decode c_B_cellsDefining 26 = .ok (.iload_n 3, 1) := by decide +kernel
theorem d_B_cellsDefining_27 : decode c_B_cellsDefining 27 = .ok (.ishl, 1) := by decide +kernel
theorem d_B_cellsDefining_28 : decode c_B_cellsDefining 28 = .ok (.ior, 1) := by decide +kernel
theorem d_B_cellsDefining_29 : decode c_B_cellsDefining 29 = .ok (.istore_n 2, 1) := by decide +kernel
theorem d_B_cellsDefining_30 : decode c_B_cellsDefining 30 = .ok (.iinc 3 1, 3) := by decide +kernel
theorem d_B_cellsDefining_33 : decode c_B_cellsDefining 33 = .ok (.goto (-29), 3) := by decide +kernel
theorem d_B_cellsDefining_36 : decode c_B_cellsDefining 36 = .ok (.iload_n 2, 1) := by decide +kernel
theorem d_B_cellsDefining_37 : decode c_B_cellsDefining 37 = .ok (.ireturn, 1) := by decide +kernel
theorem d_B_faultOf_0 : decode c_B_faultOf 0 = .ok (.aload_n 0, 1) := by decide +kernel
theorem d_B_faultOf_1 : decode c_B_faultOf 1 = .ok (.getfield 11, 3) := by decide +kernel
theorem d_B_faultOf_4 : decode c_B_faultOf 4 = .ok (.iload_n 1, 1) := by decide +kernel
theorem d_B_faultOf_5 : decode c_B_faultOf 5 = .ok (.aaload, 1) := by decide +kernel
theorem d_B_faultOf_6 : decode c_B_faultOf 6 = .ok (.astore_n 2, 1) := by decide +kernel
theorem d_B_faultOf_7 : decode c_B_faultOf 7 = .ok (.aload_n 2, 1) := by decide +kernel
theorem d_B_faultOf_8 : decode c_B_faultOf 8 = .ok (.invokevirtual 71, 3) := by decide +kernel
theorem d_B_faultOf_11 : decode c_B_faultOf 11 = .ok (.ifCond .eq 5, 3) := by decide +kernel
theorem d_B_faultOf_14 : decode c_B_faultOf 14 = .ok (.iconst 0, 1) := by decide +kernel
theorem d_B_faultOf_15 : decode c_B_faultOf 15 = .ok (.ireturn, 1) := by decide +kernel
theorem d_B_faultOf_16 : decode c_B_faultOf 16 = .ok (.aload_n 2, 1) := by decide +kernel
theorem d_B_faultOf_17 : decode c_B_faultOf 17 = .ok (.getfield 57, 3) := by decide +kernel
theorem d_B_faultOf_20 : decode c_B_faultOf 20 = .ok (.getfield 144, 3) := by decide +kernel
theorem d_B_faultOf_23 : decode c_B_faultOf 23 = .ok (.ifCond .ne 5, 3) := by decide +kernel
theorem d_B_faultOf_26 : decode c_B_faultOf 26 = .ok (.iconst 1, 1) := by decide +kernel
theorem d_B_faultOf_27 : decode c_B_faultOf 27 = .ok (.ireturn, 1) := by decide +kernel
theorem d_B_faultOf_28 : decode c_B_faultOf 28 = .ok (.aload_n 0, 1) := by decide +kernel
theorem d_B_faultOf_29 : decode c_B_faultOf 29 = .ok (.aload_n 2, 1) := by decide +kernel
theorem d_B_faultOf_30 : decode c_B_faultOf 30 = .ok (.invokevirtual 50, 3) := by decide +kernel
theorem d_B_faultOf_33 : decode c_B_faultOf 33 = .ok (.invokevirtual 131, 3) := by decide +kernel
theorem d_B_faultOf_36 : decode c_B_faultOf 36 = .ok (.iconst 1, 1) := by decide +kernel
theorem d_B_faultOf_37 : decode c_B_faultOf 37 = .ok (.iload_n 1, 1) := by decide +kernel
theorem d_B_faultOf_38 : decode c_B_faultOf 38 = .ok (.ishl, 1) := by decide +kernel
theorem d_B_faultOf_39 : decode c_B_faultOf 39 = .ok (.if_icmp .eq 5, 3) := by decide +kernel
theorem d_B_faultOf_42 : decode c_B_faultOf 42 = .ok (.iconst 2, 1) := by decide +kernel
theorem d_B_faultOf_43 : decode c_B_faultOf 43 = .ok (.ireturn, 1) := by decide +kernel
theorem d_B_faultOf_44 : decode c_B_faultOf 44 = .ok (.aload_n 0, 1) := by decide +kernel
theorem d_B_faultOf_45 : decode c_B_faultOf 45 = .ok (.aload_n 2, 1) := by decide +kernel
theorem d_B_faultOf_46 : decode c_B_faultOf 46 = .ok (.invokevirtual 147, 3) := by decide +kernel
theorem d_B_faultOf_49 : decode c_B_faultOf 49 = .ok (.ifCond .eq 5, 3) := by decide +kernel
theorem d_B_faultOf_52 : decode c_B_faultOf 52 = .ok (.iconst 3, 1) := by decide +kernel
theorem d_B_faultOf_53 : decode c_B_faultOf 53 = .ok (.ireturn, 1) := by decide +kernel
theorem d_B_faultOf_54 : decode c_B_faultOf 54 = .ok (.aload_n 0, 1) := by decide +kernel
theorem d_B_faultOf_55 : decode c_B_faultOf 55 = .ok (.getfield 19, 3) := by decide +kernel
theorem d_B_faultOf_58 : decode c_B_faultOf 58 = .ok (.iload_n 1, 1) := by decide +kernel
theorem d_B_faultOf_59 : decode c_B_faultOf 59 = .ok (.iaload, 1) := by decide +kernel
theorem d_B_faultOf_60 : decode c_B_faultOf 60 = .ok (.iload_n 1, 1) := by decide +kernel
theorem d_B_faultOf_61 : decode c_B_faultOf 61 = .ok (.invokestatic 140, 3) := by decide +kernel
theorem d_B_faultOf_64 : decode c_B_faultOf 64 = .ok (.ifCond .eq 7, 3) := by decide +kernel
theorem d_B_faultOf_67 : decode c_B_faultOf 67 = .ok (.iconst 4, 1) := by decide +kernel
theorem d_B_faultOf_68 : decode c_B_faultOf 68 = .ok (.goto 4, 3) := by decide +kernel
theorem d_B_faultOf_71 : decode c_B_faultOf 71 = .ok (.iconst 0, 1) := by decide +kernel
theorem d_B_faultOf_72 : decode c_B_faultOf 72 = .ok (.ireturn, 1) := by decide +kernel
theorem d_B_usesMissingName_0 : decode c_B_usesMissingName 0 = .ok (.iconst 0, 1) := by decide +kernel
theorem d_B_usesMissingName_1 : decode c_B_usesMissingName 1 = .ok (.istore_n 2, 1) := by decide +kernel
theorem d_B_usesMissingName_2 : decode c_B_usesMissingName 2 = .ok (.iload_n 2, 1) := by decide +kernel
theorem d_B_usesMissingName_3 : decode c_B_usesMissingName 3 = .ok (.bipush 10, 2) := by decide +kernel
theorem d_B_usesMissingName_5 : decode c_B_usesMissingName 5 = .ok (.if_icmp .ge 34, 3) := by decide +kernel
theorem d_B_usesMissingName_8 : decode c_B_usesMissingName 8 = .ok (.aload_n 1, 1) := by decide +kernel
theorem d_B_usesMissingName_9 : decode c_B_usesMissingName 9 = .ok (.getfield 57, 3) := by decide +kernel
theorem d_B_usesMissingName_12 : decode c_B_usesMissingName 12 = .ok (.getfield 100, 3) := by decide +kernel
theorem d_B_usesMissingName_15 : decode c_B_usesMissingName 15 = .ok (.iload_n 2, 1) := by decide +kernel
theorem d_B_usesMissingName_16 : decode c_B_usesMissingName 16 = .ok (.invokestatic 140, 3) := by decide +kernel
theorem d_B_usesMissingName_19 : decode c_B_usesMissingName 19 = .ok (.ifCond .eq 14, 3) := by decide +kernel
theorem d_B_usesMissingName_22 : decode c_B_usesMissingName 22 = .ok (.aload_n 0, 1) := by decide +kernel
theorem d_B_usesMissingName_23 : decode c_B_usesMissingName 23 = .ok (.getfield 16, 3) := by decide +kernel
theorem d_B_usesMissingName_26 : decode c_B_usesMissingName 26 = .ok (.iload_n 2, 1) := by decide +kernel
theorem d_B_usesMissingName_27 : decode c_B_usesMissingName 27 = .ok (.aaload, 1) := by decide +kernel
theorem d_B_usesMissingName_28 : decode c_B_usesMissingName 28 = .ok (.ifnonnull 5, 3) := by decide +kernel
theorem d_B_usesMissingName_31 : decode c_B_usesMissingName 31 = .ok (.iconst 1, 1) := by decide +kernel
theorem d_B_usesMissingName_32 : decode c_B_usesMissingName 32 = .ok (.ireturn, 1) := by decide +kernel
theorem d_B_usesMissingName_33 : decode c_B_usesMissingName 33 = .ok (.iinc 2 1, 3) := by decide +kernel
theorem d_B_usesMissingName_36 : decode c_B_usesMissingName 36 = .ok (.goto (-34), 3) := by decide +kernel
theorem d_B_usesMissingName_39 : decode c_B_usesMissingName 39 = .ok (.iconst 0, 1) := by decide +kernel
theorem d_B_usesMissingName_40 : decode c_B_usesMissingName 40 = .ok (.ireturn, 1) := by decide +kernel
theorem d_B_spreadStale_0 : decode c_B_spreadStale 0 = .ok (.iconst 0, 1) := by decide +kernel
theorem d_B_spreadStale_1 : decode c_B_spreadStale 1 = .ok (.istore_n 2, 1) := by decide +kernel
theorem d_B_spreadStale_2 : decode c_B_spreadStale 2 = .ok (.iload_n 2, 1) := by decide +kernel
theorem d_B_spreadStale_3 : decode c_B_spreadStale 3 = .ok (.bipush 10, 2) := by decide +kernel
theorem d_B_spreadStale_5 : decode c_B_spreadStale 5 = .ok (.if_icmp .ge 33, 3) := by decide +kernel
theorem d_B_spreadStale_8 : decode c_B_spreadStale 8 = .ok (.aload_n 0, 1) := by decide +kernel
theorem d_B_spreadStale_9 : decode c_B_spreadStale 9 = .ok (.getfield 11, 3) := by decide +kernel
theorem d_B_spreadStale_12 : decode c_B_spreadStale 12 = .ok (.iload_n 2, 1) := by decide +kernel
theorem d_B_spreadStale_13 : decode c_B_spreadStale 13 = .ok (.aaload, 1) := by decide +kernel
theorem d_B_spreadStale_14 : decode c_B_spreadStale 14 = .ok (.invokevirtual 50, 3) := by decide +kernel
theorem d_B_spreadStale_17 : decode c_B_spreadStale 17 = .ok (.iload_n 1, 1) := by decide +kernel
theorem d_B_spreadStale_18 : decode c_B_spreadStale 18 = .ok (.iand, 1) := by decide +kernel
theorem d_B_spreadStale_19 : decode c_B_spreadStale 19 = .ok (.ifCond .eq 13, 3) := by decide +kernel
theorem d_B_spreadStale_22 : decode c_B_spreadStale 22 = .ok (.aload_n 0, 1) := by decide +kernel
theorem d_B_spreadStale_23 : decode c_B_spreadStale 23 = .ok (.getfield 11, 3) := by decide +kernel
theorem d_B_spreadStale_26 : decode c_B_spreadStale 26 = .ok (.iload_n 2, 1) := by decide +kernel
theorem d_B_spreadStale_27 : decode c_B_spreadStale 27 = .ok (.aaload, 1) := by decide +kernel
theorem d_B_spreadStale_28 : decode c_B_spreadStale 28 = .ok (.iconst 1, 1) := by decide +kernel
theorem d_B_spreadStale_29 : decode c_B_spreadStale 29 = .ok (.putfield 87, 3) := by decide +kernel
theorem d_B_spreadStale_32 : decode c_B_spreadStale 32 = .ok (.iinc 2 1, 3) := by decide +kernel
theorem d_B_spreadStale_35 : decode c_B_spreadStale 35 = .ok (.goto (-33), 3) := by decide +kernel
theorem d_B_spreadStale_38 : decode c_B_spreadStale 38 = .ok (.iload_n 1, 1) := by decide +kernel
theorem d_B_spreadStale_39 : decode c_B_spreadStale 39 = .ok (.istore_n 2, 1) := by decide +kernel
theorem d_B_spreadStale_40 : decode c_B_spreadStale 40 = .ok (.iconst 0, 1) := by decide +kernel
theorem d_B_spreadStale_41 : decode c_B_spreadStale 41 = .ok (.istore_n 3, 1) := by decide +kernel
theorem d_B_spreadStale_42 : decode c_B_spreadStale 42 = .ok (.iload_n 3, 1) := by decide +kernel
theorem d_B_spreadStale_43 : decode c_B_spreadStale 43 = .ok (.bipush 10, 2) := by decide +kernel
theorem d_B_spreadStale_45 : decode c_B_spreadStale 45 = .ok (.if_icmp .gt 27, 3) := by decide +kernel
theorem d_B_spreadStale_48 : decode c_B_spreadStale 48 = .ok (.iload_n 2, 1) := by decide +kernel
theorem d_B_spreadStale_49 : decode c_B_spreadStale 49 = .ok (.istore 4, 2) := by decide +kernel
theorem d_B_spreadStale_51 : decode c_B_spreadStale 51 = .ok (.iload_n 2, 1) := by decide +kernel
theorem d_B_spreadStale_52 : decode c_B_spreadStale 52 = .ok (.aload_n 0, 1) := by decide +kernel
theorem d_B_spreadStale_53 : decode c_B_spreadStale 53 = .ok (.iload_n 2, 1) := by decide +kernel
theorem d_B_spreadStale_54 : decode c_B_spreadStale 54 = .ok (.invokevirtual 151, 3) := by decide +kernel
theorem d_B_spreadStale_57 : decode c_B_spreadStale 57 = .ok (.ior, 1) := by decide +kernel
theorem d_B_spreadStale_58 : decode c_B_spreadStale 58 = .ok (.istore_n 2, 1) := by decide +kernel
theorem d_B_spreadStale_59 : decode c_B_spreadStale 59 = .ok (.iload_n 2, 1) := by decide +kernel
theorem d_B_spreadStale_60 : decode c_B_spreadStale 60 = .ok (.iload 4, 2) := by decide +kernel
theorem d_B_spreadStale_62 : decode c_B_spreadStale 62 = .ok (.if_icmp .ne 4, 3) := by decide +kernel
theorem d_B_spreadStale_65 : decode c_B_spreadStale 65 = .ok (.return_, 1) := by decide +kernel
theorem d_B_spreadStale_66 : decode c_B_spreadStale 66 = .ok (.iinc 3 1, 3) := by decide +kernel
theorem d_B_spreadStale_69 : decode c_B_spreadStale 69 = .ok (.goto (-27), 3) := by decide +kernel
theorem d_B_spreadStale_72 : decode c_B_spreadStale 72 = .ok (.return_, 1) := by decide +kernel
theorem d_B_makeUsersStale_0 : decode c_B_makeUsersStale 0 = .ok (.iconst 0, 1) := by decide +kernel
theorem d_B_makeUsersStale_1 : decode c_B_makeUsersStale 1 = .ok (.istore_n 2, 1) := by decide +kernel
theorem d_B_makeUsersStale_2 : decode c_B_makeUsersStale 2 = .ok (.iconst 0, 1) := by decide +kernel
theorem d_B_makeUsersStale_3 : decode c_B_makeUsersStale 3 = .ok (.istore_n 3, 1) := by decide +kernel
theorem d_B_makeUsersStale_4 : decode c_B_makeUsersStale 4 = .ok (.iload_n 3, 1) := by decide +kernel
theorem d_B_makeUsersStale_5 : decode c_B_makeUsersStale 5 = .ok (.bipush 10, 2) := by decide +kernel
theorem d_B_makeUsersStale_7 : decode c_B_makeUsersStale 7 = .ok (.if_icmp .ge 48, 3) := by decide +kernel
theorem d_B_makeUsersStale_10 : decode c_B_makeUsersStale 10 = .ok (.aload_n 0, 1) := by decide +kernel
theorem d_B_makeUsersStale_11 : decode c_B_makeUsersStale 11 = .ok (.getfield 11, 3) := by decide +kernel
theorem d_B_makeUsersStale_14 : decode c_B_makeUsersStale 14 = .ok (.iload_n 3, 1) := by decide +kernel
theorem d_B_makeUsersStale_15 : decode c_B_makeUsersStale 15 = .ok (.aaload, 1) := by decide +kernel
theorem d_B_makeUsersStale_16 : decode c_B_makeUsersStale 16 = .ok (.getfield 57, 3) := by decide +kernel
theorem d_B_makeUsersStale_19 : decode c_B_makeUsersStale 19 = .ok (.getfield 100, 3) := by decide +kernel
theorem d_B_makeUsersStale_22 : decode c_B_makeUsersStale 22 = .ok (.iload_n 1, 1) := by decide +kernel
theorem d_B_makeUsersStale_23 : decode c_B_makeUsersStale 23 = .ok (.iand, 1) := by decide +kernel
theorem d_B_makeUsersStale_24 : decode c_B_makeUsersStale 24 = .ok (.ifCond .eq 25, 3) := by decide +kernel
theorem d_B_makeUsersStale_27 : decode c_B_makeUsersStale 27 = .ok (.aload_n 0, 1) := by decide +kernel
theorem d_B_makeUsersStale_28 : decode c_B_makeUsersStale 28 = .ok (.getfield 11, 3) := by decide +kernel
theorem d_B_makeUsersStale_31 : decode c_B_makeUsersStale 31 = .ok (.iload_n 3, 1) := by decide +kernel
theorem d_B_makeUsersStale_32 : decode c_B_makeUsersStale 32 = .ok (.aaload, 1) := by decide +kernel
theorem d_B_makeUsersStale_33 : decode c_B_makeUsersStale 33 = .ok (.iconst 1, 1) := by decide +kernel
theorem d_B_makeUsersStale_34 : decode c_B_makeUsersStale 34 = .ok (.putfield 87, 3) := by decide +kernel
theorem d_B_makeUsersStale_37 : decode c_B_makeUsersStale 37 = .ok (.iload_n 2, 1) := by decide +kernel
theorem d_B_makeUsersStale_38 : decode c_B_makeUsersStale 38 = .ok (.aload_n 0, 1) := by decide +kernel
theorem d_B_makeUsersStale_39 : decode c_B_makeUsersStale 39 = .ok (.getfield 11, 3) := by decide +kernel
theorem d_B_makeUsersStale_42 : decode c_B_makeUsersStale 42 = .ok (.iload_n 3, 1) := by decide +kernel
theorem d_B_makeUsersStale_43 : decode c_B_makeUsersStale 43 = .ok (.aaload, 1) := by decide +kernel
theorem d_B_makeUsersStale_44 : decode c_B_makeUsersStale 44 = .ok (.invokevirtual 50, 3) := by decide +kernel
theorem d_B_makeUsersStale_47 : decode c_B_makeUsersStale 47 = .ok (.ior, 1) := by decide +kernel
theorem d_B_makeUsersStale_48 : decode c_B_makeUsersStale 48 = .ok (.istore_n 2, 1) := by decide +kernel
theorem d_B_makeUsersStale_49 : decode c_B_makeUsersStale 49 = .ok (.iinc 3 1, 3) := by decide +kernel
theorem d_B_makeUsersStale_52 : decode c_B_makeUsersStale 52 = .ok (.goto (-48), 3) := by decide +kernel
theorem d_B_makeUsersStale_55 : decode c_B_makeUsersStale 55 = .ok (.iload_n 2, 1) := by decide +kernel
theorem d_B_makeUsersStale_56 : decode c_B_makeUsersStale 56 = .ok (.ireturn, 1) := by decide +kernel
theorem d_B_remove_0 : decode c_B_remove 0 = .ok (.iload_n 1, 1) := by decide +kernel
theorem d_B_remove_1 : decode c_B_remove 1 = .ok (.invokestatic 46, 3) := by decide +kernel
theorem d_B_remove_4 : decode c_B_remove 4 = .ok (.ifCond .eq 15, 3) := by decide +kernel
theorem d_B_remove_7 : decode c_B_remove 7 = .ok (.aload_n 0, 1) := by decide +kernel
theorem d_B_remove_8 : decode c_B_remove 8 = .ok (.getfield 11, 3) := by decide +kernel
theorem d_B_remove_11 : decode c_B_remove 11 = .ok (.iload_n 1, 1) := by decide +kernel
theorem d_B_remove_12 : decode c_B_remove 12 = .ok (.aaload, 1) := by decide +kernel
theorem d_B_remove_13 : decode c_B_remove 13 = .ok (.invokevirtual 71, 3) := by decide +kernel
theorem d_B_remove_16 : decode c_B_remove 16 = .ok (.ifCond .eq 5, 3) := by decide +kernel
theorem d_B_remove_19 : decode c_B_remove 19 = .ok (.iconst 0, 1) := by decide +kernel
theorem d_B_remove_20 : decode c_B_remove 20 = .ok (.ireturn, 1) := by decide +kernel
theorem d_B_remove_21 : decode c_B_remove 21 = .ok (.aload_n 0, 1) := by decide +kernel
theorem d_B_remove_22 : decode c_B_remove 22 = .ok (.getfield 11, 3) := by decide +kernel
theorem d_B_remove_25 : decode c_B_remove 25 = .ok (.iload_n 1, 1) := by decide +kernel
theorem d_B_remove_26 : decode c_B_remove 26 = .ok (.aaload, 1) := by decide +kernel
theorem d_B_remove_27 : decode c_B_remove 27 = .ok (.invokevirtual 50, 3) := by decide +kernel
theorem d_B_remove_30 : decode c_B_remove 30 = .ok (.istore_n 2, 1) := by decide +kernel
theorem d_B_remove_31 : decode c_B_remove 31 = .ok (.aload_n 0, 1) := by decide +kernel
theorem d_B_remove_32 : decode c_B_remove 32 = .ok (.getfield 11, 3) := by decide +kernel
theorem d_B_remove_35 : decode c_B_remove 35 = .ok (.iload_n 1, 1) := by decide +kernel
theorem d_B_remove_36 : decode c_B_remove 36 = .ok (.aaload, 1) := by decide +kernel
theorem d_B_remove_37 : decode c_B_remove 37 = .ok (.invokevirtual 75, 3) := by decide +kernel
theorem d_B_remove_40 : decode c_B_remove 40 = .ok (.aload_n 0, 1) := by decide +kernel
theorem d_B_remove_41 : decode c_B_remove 41 = .ok (.iload_n 2, 1) := by decide +kernel
theorem d_B_remove_42 : decode c_B_remove 42 = .ok (.invokevirtual 67, 3) := by decide +kernel
theorem d_B_remove_45 : decode c_B_remove 45 = .ok (.iconst 1, 1) := by decide +kernel
theorem d_B_remove_46 : decode c_B_remove 46 = .ok (.ireturn, 1) := by decide +kernel
theorem d_Ce_clear_0 : decode c_Ce_clear 0 = .ok (.aload_n 0, 1) := by decide +kernel
theorem d_Ce_clear_1 : decode c_Ce_clear 1 = .ok (.iconst (-1), 1) := by decide +kernel
theorem d_Ce_clear_2 : decode c_Ce_clear 2 = .ok (.putfield 18, 3) := by decide +kernel
theorem d_Ce_clear_5 : decode c_Ce_clear 5 = .ok (.aload_n 0, 1) := by decide +kernel
theorem d_Ce_clear_6 : decode c_Ce_clear 6 = .ok (.iconst 0, 1) := by decide +kernel
theorem d_Ce_clear_7 : decode c_Ce_clear 7 = .ok (.putfield 25, 3) := by decide +kernel
theorem d_Ce_clear_10 : decode c_Ce_clear 10 = .ok (.aload_n 0, 1) := by decide +kernel
theorem d_Ce_clear_11 : decode c_Ce_clear 11 = .ok (.getfield 12, 3) := by decide +kernel
theorem d_Ce_clear_14 : decode c_Ce_clear 14 = .ok (.invokevirtual 41, 3) := by decide +kernel
theorem d_Ce_clear_17 : decode c_Ce_clear 17 = .ok (.return_, 1) := by decide +kernel
theorem d_Te_clear_0 : decode c_Te_clear 0 = .ok (.aload_n 0, 1) := by decide +kernel
theorem d_Te_clear_1 : decode c_Te_clear 1 = .ok (.iconst 0, 1) := by decide +kernel
theorem d_Te_clear_2 : decode c_Te_clear 2 = .ok (.putfield 19, 3) := by decide +kernel
theorem d_Te_clear_5 : decode c_Te_clear 5 = .ok (.aload_n 0, 1) := by decide +kernel
theorem d_Te_clear_6 : decode c_Te_clear 6 = .ok (.iconst 0, 1) := by decide +kernel
theorem d_Te_clear_7 : decode c_Te_clear 7 = .ok (.putfield 26, 3) := by decide +kernel
theorem d_Te_clear_10 : decode c_Te_clear 10 = .ok (.aload_n 0, 1) := by decide +kernel
theorem d_Te_clear_11 : decode c_Te_clear 11 = .ok (.iconst 0, 1) := by decide +kernel
theorem d_Te_clear_12 : decode c_Te_clear 12 = .ok (.putfield 30, 3) := by decide +kernel
theorem d_Te_clear_15 : decode c_Te_clear 15 = .ok (.return_, 1) := by decide +kernel
theorem d_B_work_0 : decode c_B_work 0 = .ok (.iload_n 1, 1) := by decide +kernel
theorem d_B_work_1 : decode c_B_work 1 = .ok (.ifCond .lt 9, 3) := by decide +kernel
theorem d_B_work_4 : decode c_B_work 4 = .ok (.iload_n 1, 1) := by decide +kernel
theorem d_B_work_5 : decode c_B_work 5 = .ok (.bipush 20, 2) := by decide +kernel
theorem d_B_work_7 : decode c_B_work 7 = .ok (.if_icmp .le 5, 3) := by decide +kernel
theorem d_B_work_10 : decode c_B_work 10 = .ok (.iconst (-1), 1) := by decide +kernel
theorem d_B_work_11 : decode c_B_work 11 = .ok (.ireturn, 1) := by decide +kernel
theorem d_B_work_12 : decode c_B_work 12 = .ok (.iconst 0, 1) := by decide +kernel
theorem d_B_work_13 : decode c_B_work 13 = .ok (.istore_n 2, 1) := by decide +kernel
theorem d_B_work_14 : decode c_B_work 14 = .ok (.iload_n 2, 1) := by decide +kernel
theorem d_B_work_15 : decode c_B_work 15 = .ok (.iload_n 1, 1) := by decide +kernel
theorem d_B_work_16 : decode c_B_work 16 = .ok (.if_icmp .ge 26, 3) := by decide +kernel
theorem d_B_work_19 : decode c_B_work 19 = .ok (.aload_n 0, 1) := by decide +kernel
theorem d_B_work_20 : decode c_B_work 20 = .ok (.invokevirtual 78, 3) := by decide +kernel
theorem d_B_work_23 : decode c_B_work 23 = .ok (.istore_n 3, 1) := by decide +kernel
theorem d_B_work_24 : decode c_B_work 24 = .ok (.iload_n 3, 1) := by decide +kernel
theorem d_B_work_25 : decode c_B_work 25 = .ok (.iconst (-1), 1) := by decide +kernel
theorem d_B_work_26 : decode c_B_work 26 = .ok (.if_icmp .ne 5, 3) := by decide +kernel
theorem d_B_work_29 : decode c_B_work 29 = .ok (.iload_n 2, 1) := by decide +kernel
theorem d_B_work_30 : decode c_B_work 30 = .ok (.ireturn, 1) := by decide +kernel
theorem d_B_work_31 : decode c_B_work 31 = .ok (.aload_n 0, 1) := by decide +kernel
theorem d_B_work_32 : decode c_B_work 32 = .ok (.iload_n 3, 1) := by decide +kernel
theorem d_B_work_33 : decode c_B_work 33 = .ok (.invokevirtual 81, 3) := by decide +kernel
theorem d_B_work_36 : decode c_B_work 36 = .ok (.iinc 2 1, 3) := by decide +kernel
theorem d_B_work_39 : decode c_B_work 39 = .ok (.goto (-25), 3) := by decide +kernel
theorem d_B_work_42 : decode c_B_work 42 = .ok (.iload_n 1, 1) := by decide +kernel
theorem d_B_work_43 : decode c_B_work 43 = .ok (.ireturn, 1) := by decide +kernel
theorem d_B_nextToWorkOn_0 : decode c_B_nextToWorkOn 0 = .ok (.aload_n 0, 1) := by decide +kernel
theorem d_B_nextToWorkOn_1 : decode c_B_nextToWorkOn 1 = .ok (.invokevirtual 154, 3) := by decide +kernel
theorem d_B_nextToWorkOn_4 : decode c_B_nextToWorkOn 4 = .ok (.istore_n 1, 1) := by decide +kernel
theorem d_B_nextToWorkOn_5 : decode c_B_nextToWorkOn 5 = .ok (.iconst 0, 1) := by decide +kernel
theorem d_B_nextToWorkOn_6 : decode c_B_nextToWorkOn 6 = .ok (.istore_n 2, 1) := by decide +kernel
theorem d_B_nextToWorkOn_7 : decode c_B_nextToWorkOn 7 = .ok (.iload_n 2, 1) := by decide +kernel
theorem d_B_nextToWorkOn_8 : decode c_B_nextToWorkOn 8 = .ok (.bipush 10, 2) := by decide +kernel
theorem d_B_nextToWorkOn_10 : decode c_B_nextToWorkOn 10 = .ok (.if_icmp .ge 51, 3) := by decide +kernel
theorem d_B_nextToWorkOn_13 : decode c_B_nextToWorkOn 13 = .ok (.aload_n 0, 1) := by decide +kernel
theorem d_B_nextToWorkOn_14 : decode c_B_nextToWorkOn 14 = .ok (.getfield 11, 3) := by decide +kernel
theorem d_B_nextToWorkOn_17 : decode c_B_nextToWorkOn 17 = .ok (.iload_n 2, 1) := by decide +kernel
theorem d_B_nextToWorkOn_18 : decode c_B_nextToWorkOn 18 = .ok (.aaload, 1) := by decide +kernel
theorem d_B_nextToWorkOn_19 : decode c_B_nextToWorkOn 19 = .ok (.getfield 125, 3) := by decide +kernel
theorem d_B_nextToWorkOn_22 : decode c_B_nextToWorkOn 22 = .ok (.ifCond .ne 13, 3) := by decide +kernel
theorem d_B_nextToWorkOn_25 : decode c_B_nextToWorkOn 25 = .ok (.aload_n 0, 1) := by decide +kernel
theorem d_B_nextToWorkOn_26 : decode c_B_nextToWorkOn 26 = .ok (.iload_n 2, 1) := by decide +kernel
theorem d_B_nextToWorkOn_27 : decode c_B_nextToWorkOn 27 = .ok (.invokevirtual 137, 3) := by decide +kernel
theorem d_B_nextToWorkOn_30 : decode c_B_nextToWorkOn 30 = .ok (.iload_n 1, 1) := by decide +kernel
theorem d_B_nextToWorkOn_31 : decode c_B_nextToWorkOn 31 = .ok (.iand, 1) := by decide +kernel
theorem d_B_nextToWorkOn_32 : decode c_B_nextToWorkOn 32 = .ok (.ifCond .ne 7, 3) := by decide +kernel
theorem d_B_nextToWorkOn_35 : decode c_B_nextToWorkOn 35 = .ok (.iconst 1, 1) := by decide +kernel
theorem d_B_nextToWorkOn_36 : decode c_B_nextToWorkOn 36 = .ok (.goto 4, 3) := by decide +kernel
theorem d_B_nextToWorkOn_39 : decode c_B_nextToWorkOn 39 = .ok (.iconst 0, 1) := by decide +kernel
theorem d_B_nextToWorkOn_40 : decode c_B_nextToWorkOn 40 = .ok (.istore_n 3, 1) := by decide +kernel
theorem d_B_nextToWorkOn_41 : decode c_B_nextToWorkOn 41 = .ok (.iload_n 1, 1) := by decide +kernel
theorem d_B_nextToWorkOn_42 : decode c_B_nextToWorkOn 42 = .ok (.iload_n 2, 1) := by decide +kernel
theorem d_B_nextToWorkOn_43 : decode c_B_nextToWorkOn 43 = .ok (.invokestatic 140, 3) := by decide +kernel
theorem d_B_nextToWorkOn_46 : decode c_B_nextToWorkOn 46 = .ok (.ifCond .eq 9, 3) := by decide +kernel
theorem d_B_nextToWorkOn_49 : decode c_B_nextToWorkOn 49 = .ok (.iload_n 3, 1) := by decide +kernel
theorem d_B_nextToWorkOn_50 : decode c_B_nextToWorkOn 50 = .ok (.ifCond .eq 5, 3) := by decide +kernel
theorem d_B_nextToWorkOn_53 : decode c_B_nextToWorkOn 53 = .ok (.iload_n 2, 1) := by decide +kernel
theorem d_B_nextToWorkOn_54 : decode c_B_nextToWorkOn 54 = .ok (.ireturn, 1) := by decide +kernel
theorem d_B_nextToWorkOn_55 : decode c_B_nextToWorkOn 55 = .ok (.iinc 2 1, 3) := by decide +kernel
theorem d_B_nextToWorkOn_58 : decode c_B_nextToWorkOn 58 = .ok (.goto (-51), 3) := by decide +kernel
theorem d_B_nextToWorkOn_61 : decode c_B_nextToWorkOn 61 = .ok (.iconst (-1), 1) := by decide +kernel
theorem d_B_nextToWorkOn_62 : decode c_B_nextToWorkOn 62 = .ok (.ireturn, 1) := by decide +kernel
theorem d_B_staleCells_0 : decode c_B_staleCells 0 = .ok (.iconst 0, 1) := by decide +kernel
theorem d_B_staleCells_1 : decode c_B_staleCells 1 = .ok (.istore_n 1, 1) := by decide +kernel
theorem d_B_staleCells_2 : decode c_B_staleCells 2 = .ok (.iconst 0, 1) := by decide +kernel
theorem d_B_staleCells_3 : decode c_B_staleCells 3 = .ok (.istore_n 2, 1) := by decide +kernel
theorem d_B_staleCells_4 : decode c_B_staleCells 4 = .ok (.iload_n 2, 1) := by decide +kernel
theorem d_B_staleCells_5 : decode c_B_staleCells 5 = .ok (.bipush 10, 2) := by decide +kernel
theorem d_B_staleCells_7 : decode c_B_staleCells 7 = .ok (.if_icmp .ge 27, 3) := by decide +kernel
theorem d_B_staleCells_10 : decode c_B_staleCells 10 = .ok (.aload_n 0, 1) := by decide +kernel
theorem d_B_staleCells_11 : decode c_B_staleCells 11 = .ok (.getfield 11, 3) := by decide +kernel
theorem d_B_staleCells_14 : decode c_B_staleCells 14 = .ok (.iload_n 2, 1) := by decide +kernel
theorem d_B_staleCells_15 : decode c_B_staleCells 15 = .ok (.aaload, 1) := by decide +kernel
theorem d_B_staleCells_16 : decode c_B_staleCells 16 = .ok (.getfield 87, 3) := by decide +kernel
theorem d_B_staleCells_19 : decode c_B_staleCells 19 = .ok (.ifCond .eq 9, 3) := by decide +kernel
theorem d_B_staleCells_22 : decode c_B_staleCells 22 = .ok (.iload_n 1, 1) := by decide +kernel
theorem d_B_staleCells_23 : decode c_B_staleCells 23 = .ok (.iconst 1, 1) := by decide +kernel
theorem d_B_staleCells_24 : decode c_B_staleCells 24 = .ok (.iload_n 2, 1) := by decide +kernel
theorem d_B_staleCells_25 : decode c_B_staleCells 25 = .ok (.ishl, 1) := by decide +kernel
theorem d_B_staleCells_26 : decode c_B_staleCells 26 = .ok (.ior, 1) := by decide +kernel
theorem d_B_staleCells_27 : decode c_B_staleCells 27 = .ok (.istore_n 1, 1) := by decide +kernel
theorem d_B_staleCells_28 : decode c_B_staleCells 28 = .ok (.iinc 2 1, 3) := by decide +kernel
theorem d_B_staleCells_31 : decode c_B_staleCells 31 = .ok (.goto (-27), 3) := by decide +kernel
theorem d_B_staleCells_34 : decode c_B_staleCells 34 = .ok (.iload_n 1, 1) := by decide +kernel
theorem d_B_staleCells_35 : decode c_B_staleCells 35 = .ok (.ireturn, 1) := by decide +kernel
theorem d_B_workOn_0 : decode c_B_workOn 0 = .ok (.aload_n 0, 1) := by decide +kernel
theorem d_B_workOn_1 : decode c_B_workOn 1 = .ok (.getfield 11, 3) := by decide +kernel
theorem d_B_workOn_4 : decode c_B_workOn 4 = .ok (.iload_n 1, 1) := by decide +kernel
theorem d_B_workOn_5 : decode c_B_workOn 5 = .ok (.aaload, 1) := by decide +kernel
theorem d_B_workOn_6 : decode c_B_workOn 6 = .ok (.astore_n 2, 1) := by decide +kernel
theorem d_B_workOn_7 : decode c_B_workOn 7 = .ok (.aload_n 2, 1) := by decide +kernel
theorem d_B_workOn_8 : decode c_B_workOn 8 = .ok (.iconst 0, 1) := by decide +kernel
theorem d_B_workOn_9 : decode c_B_workOn 9 = .ok (.putfield 87, 3) := by decide +kernel
theorem d_B_workOn_12 : decode c_B_workOn 12 = .ok (.aload_n 2, 1) := by decide +kernel
theorem d_B_workOn_13 : decode c_B_workOn 13 = .ok (.getfield 125, 3) := by decide +kernel
theorem d_B_workOn_16 : decode c_B_workOn 16 = .ok (.ifCond .eq 4, 3) := by decide +kernel
theorem d_B_workOn_19 : decode c_B_workOn 19 = .ok (.return_, 1) := by decide +kernel
theorem d_B_workOn_20 : decode c_B_workOn 20 = .ok (.aload_n 0, 1) := by decide +kernel
theorem d_B_workOn_21 : decode c_B_workOn 21 = .ok (.iload_n 1, 1) := by decide +kernel
theorem d_B_workOn_22 : decode c_B_workOn 22 = .ok (.invokevirtual 137, 3) := by decide +kernel
theorem d_B_workOn_25 : decode c_B_workOn 25 = .ok (.aload_n 0, 1) := by decide +kernel
theorem d_B_workOn_26 : decode c_B_workOn 26 = .ok (.invokevirtual 160, 3) := by decide +kernel
theorem d_B_workOn_29 : decode c_B_workOn 29 = .ok (.iconst (-1), 1) := by decide +kernel
theorem d_B_workOn_30 : decode c_B_workOn 30 = .ok (.ixor, 1) := by decide +kernel
theorem d_B_workOn_31 : decode c_B_workOn 31 = .ok (.iand, 1) := by decide +kernel
theorem d_B_workOn_32 : decode c_B_workOn 32 = .ok (.ifCond .eq 9, 3) := by decide +kernel
theorem d_B_workOn_35 : decode c_B_workOn 35 = .ok (.aload_n 2, 1) := by decide +kernel
theorem d_B_workOn_36 : decode c_B_workOn 36 = .ok (.iconst 5, 1) := by decide +kernel
theorem d_B_workOn_37 : decode c_B_workOn 37 = .ok (.putfield 91, 3) := by decide +kernel
theorem d_B_workOn_40 : decode c_B_workOn 40 = .ok (.return_, 1) := by decide +kernel
theorem d_B_workOn_41 : decode c_B_workOn 41 = .ok (.aload_n 0, 1) := by decide +kernel
theorem d_B_workOn_42 : decode c_B_workOn 42 = .ok (.getfield 16, 3) := by decide +kernel
theorem d_B_workOn_45 : decode c_B_workOn 45 = .ok (.aload_n 2, 1) := by decide +kernel
theorem d_B_workOn_46 : decode c_B_workOn 46 = .ok (.getfield 57, 3) := by decide +kernel
theorem d_B_workOn_49 : decode c_B_workOn 49 = .ok (.invokestatic 163, 3) := by decide +kernel
theorem d_B_workOn_52 : decode c_B_workOn 52 = .ok (.istore_n 3, 1) := by decide +kernel
theorem d_B_workOn_53 : decode c_B_workOn 53 = .ok (.iload_n 3, 1) := by decide +kernel
theorem d_B_workOn_54 : decode c_B_workOn 54 = .ok (.ifCond .ne 12, 3) := by decide +kernel
theorem d_B_workOn_57 : decode c_B_workOn 57 = .ok (.aload_n 2, 1) := by decide +kernel
theorem d_B_workOn_58 : decode c_B_workOn 58 = .ok (.bipush 6, 2) := by decide +kernel
theorem d_B_workOn_60 : decode c_B_workOn 60 = .ok (.putfield 91, 3) := by decide +kernel
theorem d_B_workOn_63 : decode c_B_workOn 63 = .ok (.goto 35, 3) := by decide +kernel
theorem d_B_workOn_66 : decode c_B_workOn 66 = .ok (.aload_n 2, 1) := by decide +kernel
theorem d_B_workOn_67 : decode c_B_workOn 67 = .ok (.getfield 57, 3) := by decide +kernel
theorem d_B_workOn_70 : decode c_B_workOn 70 = .ok (.invokevirtual 134, 3) := by decide +kernel
theorem d_B_workOn_73 : decode c_B_workOn 73 = .ok (.ifCond .eq 12, 3) := by decide +kernel
theorem d_B_workOn_76 : decode c_B_workOn 76 = .ok (.aload_n 2, 1) := by decide +kernel
theorem d_B_workOn_77 : decode c_B_workOn 77 = .ok (.bipush 13, 2) := by decide +kernel
theorem d_B_workOn_79 : decode c_B_workOn 79 = .ok (.putfield 91, 3) := by decide +kernel
theorem d_B_workOn_82 : decode c_B_workOn 82 = .ok (.goto 16, 3) := by decide +kernel
theorem d_B_workOn_85 : decode c_B_workOn 85 = .ok (.aload_n 0, 1) := by decide +kernel
theorem d_B_workOn_86 : decode c_B_workOn 86 = .ok (.getfield 26, 3) := by decide +kernel
theorem d_B_workOn_89 : decode c_B_workOn 89 = .ok (.aload_n 2, 1) := by decide +kernel
theorem d_B_workOn_90 : decode c_B_workOn 90 = .ok (.iload_n 3, 1) := by decide +kernel
theorem d_B_workOn_91 : decode c_B_workOn 91 = .ok (.aload_n 0, 1) := by decide +kernel
theorem d_B_workOn_92 : decode c_B_workOn 92 = .ok (.getfield 16, 3) := by decide +kernel
theorem d_B_workOn_95 : decode c_B_workOn 95 = .ok (.invokevirtual 169, 3) := by decide +kernel
theorem d_B_workOn_98 : decode c_B_workOn 98 = .ok (.return_, 1) := by decide +kernel
theorem d_B_usableCells_0 : decode c_B_usableCells 0 = .ok (.iconst 0, 1) := by decide +kernel
theorem d_B_usableCells_1 : decode c_B_usableCells 1 = .ok (.istore_n 1, 1) := by decide +kernel
theorem d_B_usableCells_2 : decode c_B_usableCells 2 = .ok (.iconst 0, 1) := by decide +kernel
theorem d_B_usableCells_3 : decode c_B_usableCells 3 = .ok (.istore_n 2, 1) := by decide +kernel
theorem d_B_usableCells_4 : decode c_B_usableCells 4 = .ok (.iload_n 2, 1) := by decide +kernel
theorem d_B_usableCells_5 : decode c_B_usableCells 5 = .ok (.bipush 10, 2) := by decide +kernel
theorem d_B_usableCells_7 : decode c_B_usableCells 7 = .ok (.if_icmp .ge 27, 3) := by decide +kernel
theorem d_B_usableCells_10 : decode c_B_usableCells 10 = .ok (.aload_n 0, 1) := by decide +kernel
theorem d_B_usableCells_11 : decode c_B_usableCells 11 = .ok (.getfield 11, 3) := by decide +kernel
theorem d_B_usableCells_14 : decode c_B_usableCells 14 = .ok (.iload_n 2, 1) := by decide +kernel
theorem d_B_usableCells_15 : decode c_B_usableCells 15 = .ok (.aaload, 1) := by decide +kernel
theorem d_B_usableCells_16 : decode c_B_usableCells 16 = .ok (.invokevirtual 157, 3) := by decide +kernel
theorem d_B_usableCells_19 : decode c_B_usableCells 19 = .ok (.ifCond .eq 9, 3) := by decide +kernel
theorem d_B_usableCells_22 : decode c_B_usableCells 22 = .ok (.iload_n 1, 1) := by decide +kernel
theorem d_B_usableCells_23 : decode c_B_usableCells 23 = .ok (.iconst 1, 1) := by decide +kernel
theorem d_B_usableCells_24 : decode c_B_usableCells 24 = .ok (.iload_n 2, 1) := by decide +kernel
theorem d_B_usableCells_25 : decode c_B_usableCells 25 = .ok (.ishl, 1) := by decide +kernel
theorem d_B_usableCells_26 : decode c_B_usableCells 26 = .ok (.ior, 1) := by decide +kernel
theorem d_B_usableCells_27 : decode c_B_usableCells 27 = .ok (.istore_n 1, 1) := by decide +kernel
theorem d_B_usableCells_28 : decode c_B_usableCells 28 = .ok (.iinc 2 1, 3) := by decide +kernel
theorem d_B_usableCells_31 : decode c_B_usableCells 31 = .ok (.goto (-27), 3) := by decide +kernel
theorem d_B_usableCells_34 : decode c_B_usableCells 34 = .ok (.iload_n 1, 1) := by decide +kernel
theorem d_B_usableCells_35 : decode c_B_usableCells 35 = .ok (.ireturn, 1) := by decide +kernel
theorem d_Ce_isUsable_0 : decode c_Ce_isUsable 0 = .ok (.aload_n 0, 1) := by decide +kernel
theorem d_Ce_isUsable_1 : decode c_Ce_isUsable 1 = .ok (.invokevirtual 48, 3) := by decide +kernel
theorem d_Ce_isUsable_4 : decode c_Ce_isUsable 4 = .ok (.istore_n 1, 1) := by decide +kernel
theorem d_Ce_isUsable_5 : decode c_Ce_isUsable 5 = .ok (.iload_n 1, 1) := by decide +kernel
theorem d_Ce_isUsable_6 : decode c_Ce_isUsable 6 = .ok (.bipush 14, 2) := by decide +kernel
theorem d_Ce_isUsable_8 : decode c_Ce_isUsable 8 = .ok (.if_icmp .eq 9, 3) := by decide +kernel
theorem d_Ce_isUsable_11 : decode c_Ce_isUsable 11 = .ok (.iload_n 1, 1) := by decide +kernel
theorem d_Ce_isUsable_12 : decode c_Ce_isUsable 12 = .ok (.bipush 13, 2) := by decide +kernel
theorem d_Ce_isUsable_14 : decode c_Ce_isUsable 14 = .ok (.if_icmp .ne 7, 3) := by decide +kernel
theorem d_Ce_isUsable_17 : decode c_Ce_isUsable 17 = .ok (.iconst 1, 1) := by decide +kernel
theorem d_Ce_isUsable_18 : decode c_Ce_isUsable 18 = .ok (.goto 4, 3) := by decide +kernel
theorem d_Ce_isUsable_21 : decode c_Ce_isUsable 21 = .ok (.iconst 0, 1) := by decide +kernel
theorem d_Ce_isUsable_22 : decode c_Ce_isUsable 22 = .ok (.ireturn, 1) := by decide +kernel
theorem d_Ce_shown_0 : decode c_Ce_shown 0 = .ok (.aload_n 0, 1) := by decide +kernel
theorem d_Ce_shown_1 : decode c_Ce_shown 1 = .ok (.invokevirtual 44, 3) := by decide +kernel
theorem d_Ce_shown_4 : decode c_Ce_shown 4 = .ok (.ifCond .eq 5, 3) := by decide +kernel
theorem d_Ce_shown_7 : decode c_Ce_shown 7 = .ok (.iconst 0, 1) := by decide +kernel
theorem d_Ce_shown_8 : decode c_Ce_shown 8 = .ok (.ireturn, 1) := by decide +kernel
theorem d_Ce_shown_9 : decode c_Ce_shown 9 = .ok (.aload_n 0, 1) := by decide +kernel
theorem d_Ce_shown_10 : decode c_Ce_shown 10 = .ok (.getfield 22, 3) := by decide +kernel
theorem d_Ce_shown_13 : decode c_Ce_shown 13 = .ok (.ifCond .eq 8, 3) := by decide +kernel
theorem d_Ce_shown_16 : decode c_Ce_shown 16 = .ok (.aload_n 0, 1) := by decide +kernel
theorem d_Ce_shown_17 : decode c_Ce_shown 17 = .ok (.getfield 22, 3) := by decide +kernel
theorem d_Ce_shown_20 : decode c_Ce_shown 20 = .ok (.ireturn, 1) := by decide +kernel
theorem d_Ce_shown_21 : decode c_Ce_shown 21 = .ok (.aload_n 0, 1) := by decide +kernel
theorem d_Ce_shown_22 : decode c_Ce_shown 22 = .ok (.getfield 25, 3) := by decide +kernel
theorem d_Ce_shown_25 : decode c_Ce_shown 25 = .ok (.ifCond .eq 8, 3) := by decide +kernel
theorem d_Ce_shown_28 : decode c_Ce_shown 28 = .ok (.bipush 12, 2) := by decide +kernel
theorem d_Ce_shown_30 : decode c_Ce_shown 30 = .ok (.goto 7, 3) := by decide +kernel
