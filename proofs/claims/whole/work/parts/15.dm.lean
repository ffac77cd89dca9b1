theorem dM_init_0 : decode cM_init 0 = .ok (.aload_n 0, 1) := by decide +kernel
theorem dM_init_1 : decode cM_init 1 = .ok (.invokespecial 1, 3) := by decide +kernel
theorem dM_init_4 : decode cM_init 4 = .ok (.aload_n 0, 1) := by decide +kernel
theorem dM_init_5 : decode cM_init 5 = .ok (.sipush 256, 3) := by decide +kernel
theorem dM_init_8 : decode cM_init 8 = .ok (.newarray .int, 2) := by decide +kernel
theorem dM_init_10 : decode cM_init 10 = .ok (.putfield 7, 3) := by decide +kernel
theorem dM_init_13 : decode cM_init 13 = .ok (.aload_n 0, 1) := by decide +kernel
theorem dM_init_14 : decode cM_init 14 = .ok (.iconst 4, 1) := by decide +kernel
theorem dM_init_15 : decode cM_init 15 = .ok (.newarray .int, 2) := by decide +kernel
theorem dM_init_17 : decode cM_init 17 = .ok (.putfield 13, 3) := by decide +kernel
theorem dM_init_20 : decode cM_init 20 = .ok (.aload_n 0, 1) := by decide +kernel
theorem dM_init_21 : decode cM_init 21 = .ok (.iconst 4, 1) := by decide +kernel
theorem dM_init_22 : decode cM_init 22 = .ok (.newarray .int, 2) := by decide +kernel
theorem dM_init_24 : decode cM_init 24 = .ok (.putfield 16, 3) := by decide +kernel
theorem dM_init_27 : decode cM_init 27 = .ok (.aload_n 0, 1) := by decide +kernel
theorem dM_init_28 : decode cM_init 28 = .ok (.iconst 4, 1) := by decide +kernel
theorem dM_init_29 : decode cM_init 29 = .ok (.newarray .int, 2) := by decide +kernel
theorem dM_init_31 : decode cM_init 31 = .ok (.putfield 19, 3) := by decide +kernel
theorem dM_init_34 : decode cM_init 34 = .ok (.aload_n 0, 1) := by decide +kernel
theorem dM_init_35 : decode cM_init 35 = .ok (.iconst 1, 1) := by decide +kernel
theorem dM_init_36 : decode cM_init 36 = .ok (.putfield 22, 3) := by decide +kernel
theorem dM_init_39 : decode cM_init 39 = .ok (.aload_n 0, 1) := by decide +kernel
theorem dM_init_40 : decode cM_init 40 = .ok (.bipush 12, 2) := by decide +kernel
theorem dM_init_42 : decode cM_init 42 = .ok (.newarray .int, 2) := by decide +kernel
theorem dM_init_44 : decode cM_init 44 = .ok (.putfield 26, 3) := by decide +kernel
theorem dM_init_47 : decode cM_init 47 = .ok (.aload_n 0, 1) := by decide +kernel
theorem dM_init_48 : decode cM_init 48 = .ok (.bipush 12, 2) := by decide +kernel
theorem dM_init_50 : decode cM_init 50 = .ok (.newarray .int, 2) := by decide +kernel
theorem dM_init_52 : decode cM_init 52 = .ok (.putfield 29, 3) := by decide +kernel
theorem dM_init_55 : decode cM_init 55 = .ok (.aload_n 0, 1) := by decide +kernel
theorem dM_init_56 : decode cM_init 56 = .ok (.getfield 26, 3) := by decide +kernel
theorem dM_init_59 : decode cM_init 59 = .ok (.bipush 8, 2) := by decide +kernel
theorem dM_init_61 : decode cM_init 61 = .ok (.sipush 256, 3) := by decide +kernel
theorem dM_init_64 : decode cM_init 64 = .ok (.iastore, 1) := by decide +kernel
theorem dM_init_65 : decode cM_init 65 = .ok (.aload_n 0, 1) := by decide +kernel
theorem dM_init_66 : decode cM_init 66 = .ok (.getfield 26, 3) := by decide +kernel
theorem dM_init_69 : decode cM_init 69 = .ok (.bipush 9, 2) := by decide +kernel
theorem dM_init_71 : decode cM_init 71 = .ok (.sipush 256, 3) := by decide +kernel
theorem dM_init_74 : decode cM_init 74 = .ok (.iastore, 1) := by decide +kernel
theorem dM_init_75 : decode cM_init 75 = .ok (.return_, 1) := by decide +kernel
theorem dM_poke_0 : decode cM_poke 0 = .ok (.aload_n 0, 1) := by decide +kernel
theorem dM_poke_1 : decode cM_poke 1 = .ok (.getfield 7, 3) := by decide +kernel
theorem dM_poke_4 : decode cM_poke 4 = .ok (.iload_n 1, 1) := by decide +kernel
theorem dM_poke_5 : decode cM_poke 5 = .ok (.sipush 255, 3) := by decide +kernel
theorem dM_poke_8 : decode cM_poke 8 = .ok (.iand, 1) := by decide +kernel
theorem dM_poke_9 : decode cM_poke 9 = .ok (.iaload, 1) := by decide +kernel
theorem dM_poke_10 : decode cM_poke 10 = .ok (.istore_n 3, 1) := by decide +kernel
theorem dM_poke_11 : decode cM_poke 11 = .ok (.aload_n 0, 1) := by decide +kernel
theorem dM_poke_12 : decode cM_poke 12 = .ok (.getfield 7, 3) := by decide +kernel
theorem dM_poke_15 : decode cM_poke 15 = .ok (.iload_n 1, 1) := by decide +kernel
theorem dM_poke_16 : decode cM_poke 16 = .ok (.sipush 255, 3) := by decide +kernel
theorem dM_poke_19 : decode cM_poke 19 = .ok (.iand, 1) := by decide +kernel
theorem dM_poke_20 : decode cM_poke 20 = .ok (.iload_n 2, 1) := by decide +kernel
theorem dM_poke_21 : decode cM_poke 21 = .ok (.ldc 32, 2) := by decide +kernel
theorem dM_poke_23 : decode cM_poke 23 = .ok (.iand, 1) := by decide +kernel
theorem dM_poke_24 : decode cM_poke 24 = .ok (.iastore, 1) := by decide +kernel
theorem dM_poke_25 : decode cM_poke 25 = .ok (.iload_n 3, 1) := by decide +kernel
theorem dM_poke_26 : decode cM_poke 26 = .ok (.ireturn, 1) := by decide +kernel
theorem dM_fill_0 : decode cM_fill 0 = .ok (.iload_n 1, 1) := by decide +kernel
theorem dM_fill_1 : decode cM_fill 1 = .ok (.ifCond .lt 10, 3) := by decide +kernel
theorem dM_fill_4 : decode cM_fill 4 = .ok (.iload_n 1, 1) := by decide +kernel
theorem dM_fill_5 : decode cM_fill 5 = .ok (.sipush 252, 3) := by decide +kernel
theorem dM_fill_8 : decode cM_fill 8 = .ok (.if_icmp .le 5, 3) := by decide +kernel
theorem dM_fill_11 : decode cM_fill 11 = .ok (.iconst 0, 1) := by decide +kernel
theorem dM_fill_12 : decode cM_fill 12 = .ok (.ireturn, 1) := by decide +kernel
theorem dM_fill_13 : decode cM_fill 13 = .ok (.iconst 0, 1) := by decide +kernel
theorem dM_fill_14 : decode cM_fill 14 = .ok (.istore 4, 2) := by decide +kernel
theorem dM_fill_16 : decode cM_fill 16 = .ok (.iload 4, 2) := by decide +kernel
theorem dM_fill_18 : decode cM_fill 18 = .ok (.iconst 4, 1) := by decide +kernel
theorem dM_fill_19 : decode cM_fill 19 = .ok (.if_icmp .ge 30, 3) := by decide +kernel
theorem dM_fill_22 : decode cM_fill 22 = .ok (.aload_n 0, 1) := by decide +kernel
theorem dM_fill_23 : decode cM_fill 23 = .ok (.getfield 7, 3) := by decide +kernel
theorem dM_fill_26 : decode cM_fill 26 = .ok (.iload_n 1, 1) := by decide +kernel
theorem dM_fill_27 : decode cM_fill 27 = .ok (.iload 4, 2) := by decide +kernel
theorem dM_fill_29 : decode cM_fill 29 = .ok (.iadd, 1) := by decide +kernel
theorem dM_fill_30 : decode cM_fill 30 = .ok (.lload_n 2, 1) := by decide +kernel
theorem dM_fill_31 : decode cM_fill 31 = .ok (.bipush 16, 2) := by decide +kernel
theorem dM_fill_33 : decode cM_fill 33 = .ok (.iload 4, 2) := by decide +kernel
theorem dM_fill_35 : decode cM_fill 35 = .ok (.imul, 1) := by decide +kernel
theorem dM_fill_36 : decode cM_fill 36 = .ok (.lshr, 1) := by decide +kernel
theorem dM_fill_37 : decode cM_fill 37 = .ok (.ldc2_w 33, 3) := by decide +kernel
theorem dM_fill_40 : decode cM_fill 40 = .ok (.land, 1) := by decide +kernel
theorem dM_fill_41 : decode cM_fill 41 = .ok (.l2i, 1) := by decide +kernel
theorem dM_fill_42 : decode cM_fill 42 = .ok (.iastore, 1) := by decide +kernel
theorem dM_fill_43 : decode cM_fill 43 = .ok (.iinc 4 1, 3) := by decide +kernel
theorem dM_fill_46 : decode cM_fill 46 = .ok (.goto (-30), 3) := by decide +kernel
theorem dM_fill_49 : decode cM_fill 49 = .ok (.iconst 1, 1) := by decide +kernel
theorem dM_fill_50 : decode cM_fill 50 = .ok (.ireturn, 1) := by decide +kernel
theorem dM_isAddress_0 : decode cM_isAddress 0 = .ok (.iload_n 0, 1) := by decide +kernel
theorem dM_isAddress_1 : decode cM_isAddress 1 = .ok (.ifCond .lt 14, 3) := by decide +kernel
theorem dM_isAddress_4 : decode cM_isAddress 4 = .ok (.iload_n 0, 1) := by decide +kernel
theorem dM_isAddress_5 : decode cM_isAddress 5 = .ok (.sipush 255, 3) := by decide +kernel
theorem dM_isAddress_8 : decode cM_isAddress 8 = .ok (.if_icmp .gt 7, 3) := by decide +kernel
theorem dM_isAddress_11 : decode cM_isAddress 11 = .ok (.iconst 1, 1) := by decide +kernel
theorem dM_isAddress_12 : decode cM_isAddress 12 = .ok (.goto 4, 3) := by decide +kernel
theorem dM_isAddress_15 : decode cM_isAddress 15 = .ok (.iconst 0, 1) := by decide +kernel
theorem dM_isAddress_16 : decode cM_isAddress 16 = .ok (.ireturn, 1) := by decide +kernel
theorem dM_region_0 : decode cM_region 0 = .ok (.iload_n 1, 1) := by decide +kernel
theorem dM_region_1 : decode cM_region 1 = .ok (.ifCond .lt 33, 3) := by decide +kernel
theorem dM_region_4 : decode cM_region 4 = .ok (.iload_n 1, 1) := by decide +kernel
theorem dM_region_5 : decode cM_region 5 = .ok (.iconst 3, 1) := by decide +kernel
theorem dM_region_6 : decode cM_region 6 = .ok (.if_icmp .gt 28, 3) := by decide +kernel
theorem dM_region_9 : decode cM_region 9 = .ok (.iload 4, 2) := by decide +kernel
theorem dM_region_11 : decode cM_region 11 = .ok (.ifCond .lt 23, 3) := by decide +kernel
theorem dM_region_14 : decode cM_region 14 = .ok (.iload 4, 2) := by decide +kernel
theorem dM_region_16 : decode cM_region 16 = .ok (.iconst 2, 1) := by decide +kernel
theorem dM_region_17 : decode cM_region 17 = .ok (.if_icmp .gt 17, 3) := by decide +kernel
theorem dM_region_20 : decode cM_region 20 = .ok (.iload_n 2, 1) := by decide +kernel
theorem dM_region_21 : decode cM_region 21 = .ok (.invokestatic 35, 3) := by decide +kernel
theorem dM_region_24 : decode cM_region 24 = .ok (.ifCond .eq 10, 3) := by decide +kernel
theorem dM_region_27 : decode cM_region 27 = .ok (.iload_n 3, 1) := by decide +kernel
theorem dM_region_28 : decode cM_region 28 = .ok (.invokestatic 35, 3) := by decide +kernel
theorem dM_region_31 : decode cM_region 31 = .ok (.ifCond .ne 5, 3) := by decide +kernel
theorem dM_region_34 : decode cM_region 34 = .ok (.iconst 0, 1) := by decide +kernel
theorem dM_region_35 : decode cM_region 35 = .ok (.ireturn, 1) := by decide +kernel
theorem dM_region_36 : decode cM_region 36 = .ok (.aload_n 0, 1) := by decide +kernel
theorem dM_region_37 : decode cM_region 37 = .ok (.getfield 13, 3) := by decide +kernel
theorem dM_region_40 : decode cM_region 40 = .ok (.iload_n 1, 1) := by decide +kernel
theorem dM_region_41 : decode cM_region 41 = .ok (.iload_n 2, 1) := by decide +kernel
theorem dM_region_42 : decode cM_region 42 = .ok (.iastore, 1) := by decide +kernel
theorem dM_region_43 : decode cM_region 43 = .ok (.aload_n 0, 1) := by decide +kernel
theorem dM_region_44 : decode cM_region 44 = .ok (.getfield 16, 3) := by decide +kernel
theorem dM_region_47 : decode cM_region 47 = .ok (.iload_n 1, 1) := by decide +kernel
theorem dM_region_48 : decode cM_region 48 = .ok (.iload_n 3, 1) := by decide +kernel
theorem dM_region_49 : decode cM_region 49 = .ok (.iastore, 1) := by decide +kernel
theorem dM_region_50 : decode cM_region 50 = .ok (.aload_n 0, 1) := by decide +kernel
theorem dM_region_51 : decode cM_region 51 = .ok (.getfield 19, 3) := by decide +kernel
theorem dM_region_54 : decode cM_region 54 = .ok (.iload_n 1, 1) := by decide +kernel
theorem dM_region_55 : decode cM_region 55 = .ok (.iload 4, 2) := by decide +kernel
theorem dM_region_57 : decode cM_region 57 = .ok (.iastore, 1) := by decide +kernel
theorem dM_region_58 : decode cM_region 58 = .ok (.iconst 1, 1) := by decide +kernel
theorem dM_region_59 : decode cM_region 59 = .ok (.ireturn, 1) := by decide +kernel
theorem dM_settings_0 : decode cM_settings 0 = .ok (.iload_n 2, 1) := by decide +kernel
theorem dM_settings_1 : decode cM_settings 1 = .ok (.ifCond .lt 31, 3) := by decide +kernel
theorem dM_settings_4 : decode cM_settings 4 = .ok (.iload_n 2, 1) := by decide +kernel
theorem dM_settings_5 : decode cM_settings 5 = .ok (.bipush 15, 2) := by decide +kernel
theorem dM_settings_7 : decode cM_settings 7 = .ok (.if_icmp .gt 25, 3) := by decide +kernel
theorem dM_settings_10 : decode cM_settings 10 = .ok (.iload_n 3, 1) := by decide +kernel
theorem dM_settings_11 : decode cM_settings 11 = .ok (.ifCond .lt 21, 3) := by decide +kernel
theorem dM_settings_14 : decode cM_settings 14 = .ok (.iload_n 3, 1) := by decide +kernel
theorem dM_settings_15 : decode cM_settings 15 = .ok (.bipush 31, 2) := by decide +kernel
theorem dM_settings_17 : decode cM_settings 17 = .ok (.if_icmp .gt 15, 3) := by decide +kernel
theorem dM_settings_20 : decode cM_settings 20 = .ok (.iload 4, 2) := by decide +kernel
theorem dM_settings_22 : decode cM_settings 22 = .ok (.ifCond .lt 10, 3) := by decide +kernel
theorem dM_settings_25 : decode cM_settings 25 = .ok (.iload 4, 2) := by decide +kernel
theorem dM_settings_27 : decode cM_settings 27 = .ok (.bipush 31, 2) := by decide +kernel
theorem dM_settings_29 : decode cM_settings 29 = .ok (.if_icmp .le 5, 3) := by decide +kernel
theorem dM_settings_32 : decode cM_settings 32 = .ok (.iconst 0, 1) := by decide +kernel
theorem dM_settings_33 : decode cM_settings 33 = .ok (.ireturn, 1) := by decide +kernel
theorem dM_settings_34 : decode cM_settings 34 = .ok (.aload_n 0, 1) := by decide +kernel
theorem dM_settings_35 : decode cM_settings 35 = .ok (.iload_n 1, 1) := by decide +kernel
theorem dM_settings_36 : decode cM_settings 36 = .ok (.putfield 22, 3) := by decide +kernel
theorem dM_settings_39 : decode cM_settings 39 = .ok (.aload_n 0, 1) := by decide +kernel
theorem dM_settings_40 : decode cM_settings 40 = .ok (.iload_n 2, 1) := by decide +kernel
theorem dM_settings_41 : decode cM_settings 41 = .ok (.putfield 39, 3) := by decide +kernel
theorem dM_settings_44 : decode cM_settings 44 = .ok (.aload_n 0, 1) := by decide +kernel
theorem dM_settings_45 : decode cM_settings 45 = .ok (.iload_n 3, 1) := by decide +kernel
theorem dM_settings_46 : decode cM_settings 46 = .ok (.putfield 43, 3) := by decide +kernel
theorem dM_settings_49 : decode cM_settings 49 = .ok (.aload_n 0, 1) := by decide +kernel
theorem dM_settings_50 : decode cM_settings 50 = .ok (.iload 4, 2) := by decide +kernel
theorem dM_settings_52 : decode cM_settings 52 = .ok (.putfield 46, 3) := by decide +kernel
theorem dM_settings_55 : decode cM_settings 55 = .ok (.iconst 1, 1) := by decide +kernel
theorem dM_settings_56 : decode cM_settings 56 = .ok (.ireturn, 1) := by decide +kernel
theorem dM_begin_0 : decode cM_begin 0 = .ok (.iload_n 1, 1) := by decide +kernel
theorem dM_begin_1 : decode cM_begin 1 = .ok (.invokestatic 35, 3) := by decide +kernel
theorem dM_begin_4 : decode cM_begin 4 = .ok (.ifCond .ne 5, 3) := by decide +kernel
theorem dM_begin_7 : decode cM_begin 7 = .ok (.iconst 0, 1) := by decide +kernel
theorem dM_begin_8 : decode cM_begin 8 = .ok (.ireturn, 1) := by decide +kernel
theorem dM_begin_9 : decode cM_begin 9 = .ok (.aload_n 0, 1) := by decide +kernel
theorem dM_begin_10 : decode cM_begin 10 = .ok (.getfield 26, 3) := by decide +kernel
theorem dM_begin_13 : decode cM_begin 13 = .ok (.bipush 7, 2) := by decide +kernel
theorem dM_begin_15 : decode cM_begin 15 = .ok (.iload_n 1, 1) := by decide +kernel
theorem dM_begin_16 : decode cM_begin 16 = .ok (.iastore, 1) := by decide +kernel
theorem dM_begin_17 : decode cM_begin 17 = .ok (.aload_n 0, 1) := by decide +kernel
theorem dM_begin_18 : decode cM_begin 18 = .ok (.getfield 26, 3) := by decide +kernel
theorem dM_begin_21 : decode cM_begin 21 = .ok (.bipush 11, 2) := by decide +kernel
theorem dM_begin_23 : decode cM_begin 23 = .ok (.iload_n 2, 1) := by decide +kernel
theorem dM_begin_24 : decode cM_begin 24 = .ok (.ifCond .eq 7, 3) := by decide +kernel
theorem dM_begin_27 : decode cM_begin 27 = .ok (.iconst 1, 1) := by decide +kernel
theorem dM_begin_28 : decode cM_begin 28 = .ok (.goto 4, 3) := by decide +kernel
theorem dM_begin_31 : decode cM_begin 31 = .ok (.iconst 0, 1) := by decide +kernel
theorem dM_begin_32 : decode cM_begin 32 = .ok (.iastore, 1) := by decide +kernel
theorem dM_begin_33 : decode cM_begin 33 = .ok (.aload_n 0, 1) := by decide +kernel
theorem dM_begin_34 : decode cM_begin 34 = .ok (.getfield 26, 3) := by decide +kernel
theorem dM_begin_37 : decode cM_begin 37 = .ok (.bipush 8, 2) := by decide +kernel
theorem dM_begin_39 : decode cM_begin 39 = .ok (.iload_n 3, 1) := by decide +kernel
theorem dM_begin_40 : decode cM_begin 40 = .ok (.ldc 32, 2) := by decide +kernel
theorem dM_begin_42 : decode cM_begin 42 = .ok (.iand, 1) := by decide +kernel
theorem dM_begin_43 : decode cM_begin 43 = .ok (.iastore, 1) := by decide +kernel
theorem dM_begin_44 : decode cM_begin 44 = .ok (.aload_n 0, 1) := by decide +kernel
theorem dM_begin_45 : decode cM_begin 45 = .ok (.getfield 26, 3) := by decide +kernel
theorem dM_begin_48 : decode cM_begin 48 = .ok (.bipush 9, 2) := by decide +kernel
theorem dM_begin_50 : decode cM_begin 50 = .ok (.iload 4, 2) := by decide +kernel
theorem dM_begin_52 : decode cM_begin 52 = .ok (.ldc 32, 2) := by decide +kernel
theorem dM_begin_54 : decode cM_begin 54 = .ok (.iand, 1) := by decide +kernel
theorem dM_begin_55 : decode cM_begin 55 = .ok (.iastore, 1) := by decide +kernel
theorem dM_begin_56 : decode cM_begin 56 = .ok (.aload_n 0, 1) := by decide +kernel
theorem dM_begin_57 : decode cM_begin 57 = .ok (.iconst 0, 1) := by decide +kernel
theorem dM_begin_58 : decode cM_begin 58 = .ok (.putfield 49, 3) := by decide +kernel
theorem dM_begin_61 : decode cM_begin 61 = .ok (.aload_n 0, 1) := by decide +kernel
theorem dM_begin_62 : decode cM_begin 62 = .ok (.iconst 0, 1) := by decide +kernel
theorem dM_begin_63 : decode cM_begin 63 = .ok (.putfield 52, 3) := by decide +kernel
theorem dM_begin_66 : decode cM_begin 66 = .ok (.aload_n 0, 1) := by decide +kernel
theorem dM_begin_67 : decode cM_begin 67 = .ok (.iconst 0, 1) := by decide +kernel
theorem dM_begin_68 : decode cM_begin 68 = .ok (.putfield 55, 3) := by decide +kernel
theorem dM_begin_71 : decode cM_begin 71 = .ok (.iconst 1, 1) := by decide +kernel
theorem dM_begin_72 : decode cM_begin 72 = .ok (.ireturn, 1) := by decide +kernel
theorem dM_set_0 : decode cM_set 0 = .ok (.iload_n 1, 1) := by decide +kernel
theorem dM_set_1 : decode cM_set 1 = .ok (.ifCond .lt 9, 3) := by decide +kernel
theorem dM_set_4 : decode cM_set 4 = .ok (.iload_n 1, 1) := by decide +kernel
theorem dM_set_5 : decode cM_set 5 = .ok (.bipush 6, 2) := by decide +kernel
theorem dM_set_7 : decode cM_set 7 = .ok (.if_icmp .le 5, 3) := by decide +kernel
theorem dM_set_10 : decode cM_set 10 = .ok (.iconst 0, 1) := by decide +kernel
theorem dM_set_11 : decode cM_set 11 = .ok (.ireturn, 1) := by decide +kernel
theorem dM_set_12 : decode cM_set 12 = .ok (.aload_n 0, 1) := by decide +kernel
theorem dM_set_13 : decode cM_set 13 = .ok (.getfield 26, 3) := by decide +kernel
theorem dM_set_16 : decode cM_set 16 = .ok (.iload_n 1, 1) := by decide +kernel
theorem dM_set_17 : decode cM_set 17 = .ok (.iload_n 2, 1) := by decide +kernel
theorem dM_set_18 : decode cM_set 18 = .ok (.ldc 32, 2) := by decide +kernel
theorem dM_set_20 : decode cM_set 20 = .ok (.iand, 1) := by decide +kernel
theorem dM_set_21 : decode cM_set 21 = .ok (.iastore, 1) := by decide +kernel
theorem dM_set_22 : decode cM_set 22 = .ok (.iconst 1, 1) := by decide +kernel
theorem dM_set_23 : decode cM_set 23 = .ok (.ireturn, 1) := by decide +kernel
theorem dM_interrupt_0 : decode cM_interrupt 0 = .ok (.iload_n 1, 1) := by decide +kernel
theorem dM_interrupt_1 : decode cM_interrupt 1 = .ok (.iconst 3, 1) := by decide +kernel
theorem dM_interrupt_2 : decode cM_interrupt 2 = .ok (.if_icmp .lt 9, 3) := by decide +kernel
theorem dM_interrupt_5 : decode cM_interrupt 5 = .ok (.iload_n 1, 1) := by decide +kernel
theorem dM_interrupt_6 : decode cM_interrupt 6 = .ok (.bipush 6, 2) := by decide +kernel
theorem dM_interrupt_8 : decode cM_interrupt 8 = .ok (.if_icmp .le 5, 3) := by decide +kernel
theorem dM_interrupt_11 : decode cM_interrupt 11 = .ok (.iconst 0, 1) := by decide +kernel
theorem dM_interrupt_12 : decode cM_interrupt 12 = .ok (.ireturn, 1) := by decide +kernel
theorem dM_interrupt_13 : decode cM_interrupt 13 = .ok (.aload_n 0, 1) := by decide +kernel
theorem dM_interrupt_14 : decode cM_interrupt 14 = .ok (.dup, 1) := by decide +kernel
theorem dM_interrupt_15 : decode cM_interrupt 15 = .ok (.getfield 55, 3) := by decide +kernel
theorem dM_interrupt_18 : decode cM_interrupt 18 = .ok (.iconst 1, 1) := by decide +kernel
theorem dM_interrupt_19 : decode cM_interrupt 19 = .ok (.iload_n 1, 1) := by decide +kernel
theorem dM_interrupt_20 : decode cM_interrupt 20 = .ok (.ishl, 1) := by decide +kernel
theorem dM_interrupt_21 : decode cM_interrupt 21 = .ok (.ior, 1) := by decide +kernel
theorem dM_interrupt_22 : decode cM_interrupt 22 = .ok (.putfield 55, 3) := by decide +kernel
theorem dM_interrupt_25 : decode cM_interrupt 25 = .ok (.iconst 1, 1) := by decide +kernel
theorem dM_interrupt_26 : decode cM_interrupt 26 = .ok (.ireturn, 1) := by decide +kernel
theorem dM_kindAt_0 : decode cM_kindAt 0 = .ok (.iload_n 1, 1) := by decide +kernel
theorem dM_kindAt_1 : decode cM_kindAt 1 = .ok (.sipush 255, 3) := by decide +kernel
theorem dM_kindAt_4 : decode cM_kindAt 4 = .ok (.iand, 1) := by decide +kernel
theorem dM_kindAt_5 : decode cM_kindAt 5 = .ok (.istore_n 2, 1) := by decide +kernel
theorem dM_kindAt_6 : decode cM_kindAt 6 = .ok (.iconst 0, 1) := by decide +kernel
theorem dM_kindAt_7 : decode cM_kindAt 7 = .ok (.istore_n 3, 1) := by decide +kernel
theorem dM_kindAt_8 : decode cM_kindAt 8 = .ok (.iconst 0, 1) := by decide +kernel
theorem dM_kindAt_9 : decode cM_kindAt 9 = .ok (.istore 4, 2) := by decide +kernel
theorem dM_kindAt_11 : decode cM_kindAt 11 = .ok (.iconst 0, 1) := by decide +kernel
theorem dM_kindAt_12 : decode cM_kindAt 12 = .ok (.istore 5, 2) := by decide +kernel
theorem dM_kindAt_14 : decode cM_kindAt 14 = .ok (.iload 5, 2) := by decide +kernel
theorem dM_kindAt_16 : decode cM_kindAt 16 = .ok (.iconst 4, 1) := by decide +kernel
theorem dM_kindAt_17 : decode cM_kindAt 17 = .ok (.if_icmp .ge 53, 3) := by decide +kernel
theorem dM_kindAt_20 : decode cM_kindAt 20 = .ok (.aload_n 0, 1) := by decide +kernel
theorem dM_kindAt_21 : decode cM_kindAt 21 = .ok (.getfield 19, 3) := by decide +kernel
theorem dM_kindAt_24 : decode cM_kindAt 24 = .ok (.iload 5, 2) := by decide +kernel
theorem dM_kindAt_26 : decode cM_kindAt 26 = .ok (.iaload, 1) := by decide +kernel
theorem dM_kindAt_27 : decode cM_kindAt 27 = .ok (.ifCond .eq 37, 3) := by decide +kernel
theorem dM_kindAt_30 : decode cM_kindAt 30 = .ok (.aload_n 0, 1) := by decide +kernel
theorem dM_kindAt_31 : decode cM_kindAt 31 = .ok (.getfield 13, 3) := by decide +kernel
theorem dM_kindAt_34 : decode cM_kindAt 34 = .ok (.iload 5, 2) := by decide +kernel
theorem dM_kindAt_36 : decode cM_kindAt 36 = .ok (.iaload, 1) := by decide +kernel
theorem dM_kindAt_37 : decode cM_kindAt 37 = .ok (.iload_n 2, 1) := by decide +kernel
theorem dM_kindAt_38 : decode cM_kindAt 38 = .ok (.if_icmp .gt 26, 3) := by decide +kernel
theorem dM_kindAt_41 : decode cM_kindAt 41 = .ok (.iload_n 2, 1) := by decide +kernel
theorem dM_kindAt_42 : decode cM_kindAt 42 = .ok (.aload_n 0, 1) := by decide +kernel
theorem dM_kindAt_43 : decode cM_kindAt 43 = .ok (.getfield 16, 3) := by decide +kernel
theorem dM_kindAt_46 : decode cM_kindAt 46 = .ok (.iload 5, 2) := by decide +kernel
theorem dM_kindAt_48 : decode cM_kindAt 48 = .ok (.iaload, 1) := by decide +kernel
theorem dM_kindAt_49 : decode cM_kindAt 49 = .ok (.if_icmp .gt 15, 3) := by decide +kernel
theorem dM_kindAt_52 : decode cM_kindAt 52 = .ok (.iinc 3 1, 3) := by decide +kernel
theorem dM_kindAt_55 : decode cM_kindAt 55 = .ok (.aload_n 0, 1) := by decide +kernel
theorem dM_kindAt_56 : decode cM_kindAt 56 = .ok (.getfield 19, 3) := by decide +kernel
theorem dM_kindAt_59 : decode cM_kindAt 59 = .ok (.iload 5, 2) := by decide +kernel
theorem dM_kindAt_61 : decode cM_kindAt 61 = .ok (.iaload, 1) := by decide +kernel
theorem dM_kindAt_62 : decode cM_kindAt 62 = .ok (.istore 4, 2) := by decide +kernel
theorem dM_kindAt_64 : decode cM_kindAt 64 = .ok (.iinc 5 1, 3) := by decide +kernel
theorem dM_kindAt_67 : decode cM_kindAt 67 = .ok (.goto (-53), 3) := by decide +kernel
theorem dM_kindAt_70 : decode cM_kindAt 70 = .ok (.iload_n 3, 1) := by decide +kernel
theorem dM_kindAt_71 : decode cM_kindAt 71 = .ok (.iconst 1, 1) := by decide +kernel
theorem dM_kindAt_72 : decode cM_kindAt 72 = .ok (.if_icmp .ne 8, 3) := by decide +kernel
theorem dM_kindAt_75 : decode cM_kindAt 75 = .ok (.iload 4, 2) := by decide +kernel
theorem dM_kindAt_77 : decode cM_kindAt 77 = .ok (.goto 4, 3) := by decide +kernel
theorem dM_kindAt_80 : decode cM_kindAt 80 = .ok (.iconst 0, 1) := by decide +kernel
theorem dM_kindAt_81 : decode cM_kindAt 81 = .ok (.ireturn, 1) := by decide +kernel
theorem dM_isOpenWorld_0 : decode cM_isOpenWorld 0 = .ok (.aload_n 0, 1) := by decide +kernel
theorem dM_isOpenWorld_1 : decode cM_isOpenWorld 1 = .ok (.getfield 26, 3) := by decide +kernel
theorem dM_isOpenWorld_4 : decode cM_isOpenWorld 4 = .ok (.bipush 11, 2) := by decide +kernel
theorem dM_isOpenWorld_6 : decode cM_isOpenWorld 6 = .ok (.iaload, 1) := by decide +kernel
theorem dM_isOpenWorld_7 : decode cM_isOpenWorld 7 = .ok (.iconst 1, 1) := by decide +kernel
theorem dM_isOpenWorld_8 : decode cM_isOpenWorld 8 = .ok (.if_icmp .ne 7, 3) := by decide +kernel
theorem dM_isOpenWorld_11 : decode cM_isOpenWorld 11 = .ok (.iconst 1, 1) := by decide +kernel
theorem dM_isOpenWorld_12 : decode cM_isOpenWorld 12 = .ok (.goto 4, 3) := by decide +kernel
theorem dM_isOpenWorld_15 : decode cM_isOpenWorld 15 = .ok (.iconst 0, 1) := by decide +kernel
theorem dM_isOpenWorld_16 : decode cM_isOpenWorld 16 = .ok (.ireturn, 1) := by decide +kernel
theorem dM_speak_0 : decode cM_speak 0 = .ok (.aload_n 0, 1) := by decide +kernel
theorem dM_speak_1 : decode cM_speak 1 = .ok (.getfield 58, 3) := by decide +kernel
theorem dM_speak_4 : decode cM_speak 4 = .ok (.ifCond .ne 8, 3) := by decide +kernel
theorem dM_speak_7 : decode cM_speak 7 = .ok (.aload_n 0, 1) := by decide +kernel
theorem dM_speak_8 : decode cM_speak 8 = .ok (.iload_n 1, 1) := by decide +kernel
theorem dM_speak_9 : decode cM_speak 9 = .ok (.putfield 58, 3) := by decide +kernel
theorem dM_speak_12 : decode cM_speak 12 = .ok (.return_, 1) := by decide +kernel
theorem dM_mayUse_0 : decode cM_mayUse 0 = .ok (.aload_n 0, 1) := by decide +kernel
theorem dM_mayUse_1 : decode cM_mayUse 1 = .ok (.invokevirtual 61, 3) := by decide +kernel
theorem dM_mayUse_4 : decode cM_mayUse 4 = .ok (.ifCond .eq 12, 3) := by decide +kernel
theorem dM_mayUse_7 : decode cM_mayUse 7 = .ok (.aload_n 0, 1) := by decide +kernel
theorem dM_mayUse_8 : decode cM_mayUse 8 = .ok (.iload_n 1, 1) := by decide +kernel
theorem dM_mayUse_9 : decode cM_mayUse 9 = .ok (.invokevirtual 65, 3) := by decide +kernel
theorem dM_mayUse_12 : decode cM_mayUse 12 = .ok (.iconst 1, 1) := by decide +kernel
theorem dM_mayUse_13 : decode cM_mayUse 13 = .ok (.if_icmp .ne 7, 3) := by decide +kernel
theorem dM_mayUse_16 : decode cM_mayUse 16 = .ok (.iconst 1, 1) := by decide +kernel
theorem dM_mayUse_17 : decode cM_mayUse 17 = .ok (.goto 4, 3) := by decide +kernel
theorem dM_mayUse_20 : decode cM_mayUse 20 = .ok (.iconst 0, 1) := by decide +kernel
theorem dM_mayUse_21 : decode cM_mayUse 21 = .ok (.ireturn, 1) := by decide +kernel
theorem dM_read_0 : decode cM_read 0 = .ok (.aload_n 0, 1) := by decide +kernel
theorem dM_read_1 : decode cM_read 1 = .ok (.iload_n 1, 1) := by decide +kernel
theorem dM_read_2 : decode cM_read 2 = .ok (.invokevirtual 69, 3) := by decide +kernel
theorem dM_read_5 : decode cM_read 5 = .ok (.ifCond .ne 8, 3) := by decide +kernel
theorem dM_read_8 : decode cM_read 8 = .ok (.aload_n 0, 1) := by decide +kernel
theorem dM_read_9 : decode cM_read 9 = .ok (.iconst 2, 1) := by decide +kernel
theorem dM_read_10 : decode cM_read 10 = .ok (.invokevirtual 72, 3) := by decide +kernel
theorem dM_read_13 : decode cM_read 13 = .ok (.aload_n 0, 1) := by decide +kernel
theorem dM_read_14 : decode cM_read 14 = .ok (.getfield 7, 3) := by decide +kernel
theorem dM_read_17 : decode cM_read 17 = .ok (.iload_n 1, 1) := by decide +kernel
theorem dM_read_18 : decode cM_read 18 = .ok (.sipush 255, 3) := by decide +kernel
theorem dM_read_21 : decode cM_read 21 = .ok (.iand, 1) := by decide +kernel
theorem dM_read_22 : decode cM_read 22 = .ok (.iaload, 1) := by decide +kernel
theorem dM_read_23 : decode cM_read 23 = .ok (.ireturn, 1) := by decide +kernel
theorem dM_write_0 : decode cM_write 0 = .ok (.aload_n 0, 1) := by decide +kernel
theorem dM_write_1 : decode cM_write 1 = .ok (.getfield 58, 3) := by decide +kernel
theorem dM_write_4 : decode cM_write 4 = .ok (.ifCond .eq 4, 3) := by decide +kernel
theorem dM_write_7 : decode cM_write 7 = .ok (.return_, 1) := by decide +kernel
theorem dM_write_8 : decode cM_write 8 = .ok (.aload_n 0, 1) := by decide +kernel
theorem dM_write_9 : decode cM_write 9 = .ok (.iload_n 1, 1) := by decide +kernel
theorem dM_write_10 : decode cM_write 10 = .ok (.invokevirtual 69, 3) := by decide +kernel
theorem dM_write_13 : decode cM_write 13 = .ok (.ifCond .eq 20, 3) := by decide +kernel
theorem dM_write_16 : decode cM_write 16 = .ok (.aload_n 0, 1) := by decide +kernel
theorem dM_write_17 : decode cM_write 17 = .ok (.getfield 7, 3) := by decide +kernel
theorem dM_write_20 : decode cM_write 20 = .ok (.iload_n 1, 1) := by decide +kernel
theorem dM_write_21 : decode cM_write 21 = .ok (.sipush 255, 3) := by decide +kernel
theorem dM_write_24 : decode cM_write 24 = .ok (.iand, 1) := by decide +kernel
theorem dM_write_25 : decode cM_write 25 = .ok (.iload_n 2, 1) := by decide +kernel
theorem dM_write_26 : decode cM_write 26 = .ok (.ldc 32, 2) := by decide +kernel
theorem dM_write_28 : decode cM_write 28 = .ok (.iand, 1) := by decide +kernel
theorem dM_write_29 : decode cM_write 29 = .ok (.iastore, 1) := by decide +kernel
theorem dM_write_30 : decode cM_write 30 = .ok (.goto 8, 3) := by decide +kernel
theorem dM_write_33 : decode cM_write 33 = .ok (.aload_n 0, 1) := by decide +kernel
theorem dM_write_34 : decode cM_write 34 = .ok (.iconst 2, 1) := by decide +kernel
theorem dM_write_35 : decode cM_write 35 = .ok (.invokevirtual 72, 3) := by decide +kernel
theorem dM_write_38 : decode cM_write 38 = .ok (.return_, 1) := by decide +kernel
theorem dM_stack_0 : decode cM_stack 0 = .ok (.aload_n 0, 1) := by decide +kernel
theorem dM_stack_1 : decode cM_stack 1 = .ok (.invokevirtual 61, 3) := by decide +kernel
theorem dM_stack_4 : decode cM_stack 4 = .ok (.ifCond .eq 8, 3) := by decide +kernel
theorem dM_stack_7 : decode cM_stack 7 = .ok (.bipush 9, 2) := by decide +kernel
theorem dM_stack_9 : decode cM_stack 9 = .ok (.goto 5, 3) := by decide +kernel
theorem dM_stack_12 : decode cM_stack 12 = .ok (.bipush 8, 2) := by decide +kernel
theorem dM_stack_14 : decode cM_stack 14 = .ok (.ireturn, 1) := by decide +kernel
theorem dM_push_0 : decode cM_push 0 = .ok (.aload_n 0, 1) := by decide +kernel
theorem dM_push_1 : decode cM_push 1 = .ok (.invokevirtual 76, 3) := by decide +kernel
theorem dM_push_4 : decode cM_push 4 = .ok (.istore_n 2, 1) := by decide +kernel
theorem dM_push_5 : decode cM_push 5 = .ok (.aload_n 0, 1) := by decide +kernel
theorem dM_push_6 : decode cM_push 6 = .ok (.getfield 26, 3) := by decide +kernel
theorem dM_push_9 : decode cM_push 9 = .ok (.iload_n 2, 1) := by decide +kernel
theorem dM_push_10 : decode cM_push 10 = .ok (.aload_n 0, 1) := by decide +kernel
theorem dM_push_11 : decode cM_push 11 = .ok (.getfield 26, 3) := by decide +kernel
theorem dM_push_14 : decode cM_push 14 = .ok (.iload_n 2, 1) := by decide +kernel
theorem dM_push_15 : decode cM_push 15 = .ok (.iaload, 1) := by decide +kernel
theorem dM_push_16 : decode cM_push 16 = .ok (.iconst 1, 1) := by decide +kernel
theorem dM_push_17 : decode cM_push 17 = .ok (.isub, 1) := by decide +kernel
theorem dM_push_18 : decode cM_push 18 = .ok (.ldc 32, 2) := by decide +kernel
theorem dM_push_20 : decode cM_push 20 = .ok (.iand, 1) := by decide +kernel
theorem dM_push_21 : decode cM_push 21 = .ok (.iastore, 1) := by decide +kernel
theorem dM_push_22 : decode cM_push 22 = .ok (.aload_n 0, 1) := by decide +kernel
theorem dM_push_23 : decode cM_push 23 = .ok (.aload_n 0, 1) := by decide +kernel
theorem dM_push_24 : decode cM_push 24 = .ok (.getfield 26, 3) := by decide +kernel
theorem dM_push_27 : decode cM_push 27 = .ok (.iload_n 2, 1) := by decide +kernel
theorem dM_push_28 : decode cM_push 28 = .ok (.iaload, 1) := by decide +kernel
theorem dM_push_29 : decode cM_push 29 = .ok (.iload_n 1, 1) := by decide +kernel
theorem dM_push_30 : decode cM_push 30 = .ok (.invokevirtual 80, 3) := by decide +kernel
theorem dM_push_33 : decode cM_push 33 = .ok (.return_, 1) := by decide +kernel
theorem dM_pop_0 : decode cM_pop 0 = .ok (.aload_n 0, 1) := by decide +kernel
theorem dM_pop_1 : decode cM_pop 1 = .ok (.getfield 58, 3) := by decide +kernel
theorem dM_pop_4 : decode cM_pop 4 = .ok (.ifCond .eq 5, 3) := by decide +kernel
theorem dM_pop_7 : decode cM_pop 7 = .ok (.iconst 0, 1) := by decide +kernel
theorem dM_pop_8 : decode cM_pop 8 = .ok (.ireturn, 1) := by decide +kernel
theorem dM_pop_9 : decode cM_pop 9 = .ok (.aload_n 0, 1) := by decide +kernel
theorem dM_pop_10 : decode cM_pop 10 = .ok (.invokevirtual 76, 3) := by decide +kernel
theorem dM_pop_13 : decode cM_pop 13 = .ok (.istore_n 1, 1) := by decide +kernel
theorem dM_pop_14 : decode cM_pop 14 = .ok (.aload_n 0, 1) := by decide +kernel
theorem dM_pop_15 : decode cM_pop 15 = .ok (.aload_n 0, 1) := by decide +kernel
theorem dM_pop_16 : decode cM_pop 16 = .ok (.getfield 26, 3) := by decide +kernel
theorem dM_pop_19 : decode cM_pop 19 = .ok (.iload_n 1, 1) := by decide +kernel
theorem dM_pop_20 : decode cM_pop 20 = .ok (.iaload, 1) := by decide +kernel
theorem dM_pop_21 : decode cM_pop 21 = .ok (.invokevirtual 84, 3) := by decide +kernel
theorem dM_pop_24 : decode cM_pop 24 = .ok (.istore_n 2, 1) := by decide +kernel
theorem dM_pop_25 : decode cM_pop 25 = .ok (.aload_n 0, 1) := by decide +kernel
theorem dM_pop_26 : decode cM_pop 26 = .ok (.getfield 26, 3) := by decide +kernel
theorem dM_pop_29 : decode cM_pop 29 = .ok (.iload_n 1, 1) := by decide +kernel
theorem dM_pop_30 : decode cM_pop 30 = .ok (.aload_n 0, 1) := by decide +kernel
theorem dM_pop_31 : decode cM_pop 31 = .ok (.getfield 26, 3) := by decide +kernel
theorem dM_pop_34 : decode cM_pop 34 = .ok (.iload_n 1, 1) := by decide +kernel
theorem dM_pop_35 : decode cM_pop 35 = .ok (.iaload, 1) := by decide +kernel
theorem dM_pop_36 : decode cM_pop 36 = .ok (.iconst 1, 1) := by decide +kernel
theorem dM_pop_37 : decode cM_pop 37 = .ok (.iadd, 1) := by decide +kernel
theorem dM_pop_38 : decode cM_pop 38 = .ok (.ldc 32, 2) := by decide +kernel
theorem dM_pop_40 : decode cM_pop 40 = .ok (.iand, 1) := by decide +kernel
theorem dM_pop_41 : decode cM_pop 41 = .ok (.iastore, 1) := by decide +kernel
theorem dM_pop_42 : decode cM_pop 42 = .ok (.iload_n 2, 1) := by decide +kernel
theorem dM_pop_43 : decode cM_pop 43 = .ok (.ireturn, 1) := by decide +kernel
theorem dM_keep_0 : decode cM_keep 0 = .ok (.iconst 0, 1) := by decide +kernel
theorem dM_keep_1 : decode cM_keep 1 = .ok (.istore_n 1, 1) := by decide +kernel
theorem dM_keep_2 : decode cM_keep 2 = .ok (.iload_n 1, 1) := by decide +kernel
theorem dM_keep_3 : decode cM_keep 3 = .ok (.bipush 12, 2) := by decide +kernel
theorem dM_keep_5 : decode cM_keep 5 = .ok (.if_icmp .ge 21, 3) := by decide +kernel
theorem dM_keep_8 : decode cM_keep 8 = .ok (.aload_n 0, 1) := by decide +kernel
theorem dM_keep_9 : decode cM_keep 9 = .ok (.getfield 29, 3) := by decide +kernel
theorem dM_keep_12 : decode cM_keep 12 = .ok (.iload_n 1, 1) := by decide +kernel
theorem dM_keep_13 : decode cM_keep 13 = .ok (.aload_n 0, 1) := by decide +kernel
theorem dM_keep_14 : decode cM_keep 14 = .ok (.getfield 26, 3) := by decide +kernel
theorem dM_keep_17 : decode cM_keep 17 = .ok (.iload_n 1, 1) := by decide +kernel
theorem dM_keep_18 : decode cM_keep 18 = .ok (.iaload, 1) := by decide +kernel
theorem dM_keep_19 : decode cM_keep 19 = .ok (.iastore, 1) := by decide +kernel
theorem dM_keep_20 : decode cM_keep 20 = .ok (.iinc 1 1, 3) := by decide +kernel
theorem dM_keep_23 : decode cM_keep 23 = .ok (.goto (-21), 3) := by decide +kernel
theorem dM_keep_26 : decode cM_keep 26 = .ok (.aload_n 0, 1) := by decide +kernel
theorem dM_keep_27 : decode cM_keep 27 = .ok (.iconst 0, 1) := by decide +kernel
theorem dM_keep_28 : decode cM_keep 28 = .ok (.putfield 58, 3) := by decide +kernel
theorem dM_keep_31 : decode cM_keep 31 = .ok (.return_, 1) := by decide +kernel
theorem dM_takeBack_0 : decode cM_takeBack 0 = .ok (.iconst 0, 1) := by decide +kernel
theorem dM_takeBack_1 : decode cM_takeBack 1 = .ok (.istore_n 1, 1) := by decide +kernel
theorem dM_takeBack_2 : decode cM_takeBack 2 = .ok (.iload_n 1, 1) := by decide +kernel
theorem dM_takeBack_3 : decode cM_takeBack 3 = .ok (.bipush 12, 2) := by decide +kernel
theorem dM_takeBack_5 : decode cM_takeBack 5 = .ok (.if_icmp .ge 21, 3) := by decide +kernel
theorem dM_takeBack_8 : decode cM_takeBack 8 = .ok (.aload_n 0, 1) := by decide +kernel
theorem dM_takeBack_9 : decode cM_takeBack 9 = .ok (.getfield 26, 3) := by decide +kernel
theorem dM_takeBack_12 : decode cM_takeBack 12 = .ok (.iload_n 1, 1) := by decide +kernel
theorem dM_takeBack_13 : decode cM_takeBack 13 = .ok (.aload_n 0, 1) := by decide +kernel
theorem dM_takeBack_14 : decode cM_takeBack 14 = .ok (.getfield 29, 3) := by decide +kernel
theorem dM_takeBack_17 : decode cM_takeBack 17 = .ok (.iload_n 1, 1) := by decide +kernel
theorem dM_takeBack_18 : decode cM_takeBack 18 = .ok (.iaload, 1) := by decide +kernel
theorem dM_takeBack_19 : decode cM_takeBack 19 = .ok (.iastore, 1) := by decide +kernel
theorem dM_takeBack_20 : decode cM_takeBack 20 = .ok (.iinc 1 1, 3) := by decide +kernel
theorem dM_takeBack_23 : decode cM_takeBack 23 = .ok (.goto (-21), 3) := by decide +kernel
theorem dM_takeBack_26 : decode cM_takeBack 26 = .ok (.return_, 1) := by decide +kernel
theorem dM_isClosedOne_0 : decode cM_isClosedOne 0 = .ok (.iload_n 1, 1) := by decide +kernel
theorem dM_isClosedOne_1 : decode cM_isClosedOne 1 = .ok (.iconst 3, 1) := by decide +kernel
theorem dM_isClosedOne_2 : decode cM_isClosedOne 2 = .ok (.if_icmp .lt 17, 3) := by decide +kernel
theorem dM_isClosedOne_5 : decode cM_isClosedOne 5 = .ok (.aload_n 0, 1) := by decide +kernel
theorem dM_isClosedOne_6 : decode cM_isClosedOne 6 = .ok (.getfield 39, 3) := by decide +kernel
theorem dM_isClosedOne_9 : decode cM_isClosedOne 9 = .ok (.iload_n 1, 1) := by decide +kernel
theorem dM_isClosedOne_10 : decode cM_isClosedOne 10 = .ok (.iconst 3, 1) := by decide +kernel
theorem dM_isClosedOne_11 : decode cM_isClosedOne 11 = .ok (.isub, 1) := by decide +kernel
theorem dM_isClosedOne_12 : decode cM_isClosedOne 12 = .ok (.ishr, 1) := by decide +kernel
theorem dM_isClosedOne_13 : decode cM_isClosedOne 13 = .ok (.iconst 1, 1) := by decide +kernel
theorem dM_isClosedOne_14 : decode cM_isClosedOne 14 = .ok (.iand, 1) := by decide +kernel
theorem dM_isClosedOne_15 : decode cM_isClosedOne 15 = .ok (.iconst 1, 1) := by decide +kernel
theorem dM_isClosedOne_16 : decode cM_isClosedOne 16 = .ok (.if_icmp .ne 7, 3) := by decide +kernel
theorem dM_isClosedOne_19 : decode cM_isClosedOne 19 = .ok (.iconst 1, 1) := by decide +kernel
theorem dM_isClosedOne_20 : decode cM_isClosedOne 20 = .ok (.goto 4, 3) := by decide +kernel
theorem dM_isClosedOne_23 : decode cM_isClosedOne 23 = .ok (.iconst 0, 1) := by decide +kernel
theorem dM_isClosedOne_24 : decode cM_isClosedOne 24 = .ok (.ireturn, 1) := by decide +kernel
theorem dM_take_0 : decode cM_take 0 = .ok (.aload_n 0, 1) := by decide +kernel
theorem dM_take_1 : decode cM_take 1 = .ok (.invokevirtual 87, 3) := by decide +kernel
theorem dM_take_4 : decode cM_take 4 = .ok (.aload_n 0, 1) := by decide +kernel
theorem dM_take_5 : decode cM_take 5 = .ok (.iload_n 2, 1) := by decide +kernel
theorem dM_take_6 : decode cM_take 6 = .ok (.invokevirtual 90, 3) := by decide +kernel
theorem dM_take_9 : decode cM_take 9 = .ok (.aload_n 0, 1) := by decide +kernel
theorem dM_take_10 : decode cM_take 10 = .ok (.aload_n 0, 1) := by decide +kernel
theorem dM_take_11 : decode cM_take 11 = .ok (.getfield 26, 3) := by decide +kernel
theorem dM_take_14 : decode cM_take 14 = .ok (.bipush 10, 2) := by decide +kernel
theorem dM_take_16 : decode cM_take 16 = .ok (.iaload, 1) := by decide +kernel
theorem dM_take_17 : decode cM_take 17 = .ok (.invokevirtual 90, 3) := by decide +kernel
theorem dM_take_20 : decode cM_take 20 = .ok (.aload_n 0, 1) := by decide +kernel
theorem dM_take_21 : decode cM_take 21 = .ok (.aload_n 0, 1) := by decide +kernel
theorem dM_take_22 : decode cM_take 22 = .ok (.getfield 26, 3) := by decide +kernel
theorem dM_take_25 : decode cM_take 25 = .ok (.bipush 6, 2) := by decide +kernel
theorem dM_take_27 : decode cM_take 27 = .ok (.iaload, 1) := by decide +kernel
theorem dM_take_28 : decode cM_take 28 = .ok (.invokevirtual 90, 3) := by decide +kernel
theorem dM_take_31 : decode cM_take 31 = .ok (.iconst 0, 1) := by decide +kernel
theorem dM_take_32 : decode cM_take 32 = .ok (.istore_n 3, 1) := by decide +kernel
theorem dM_take_33 : decode cM_take 33 = .ok (.iload_n 3, 1) := by decide +kernel
theorem dM_take_34 : decode cM_take 34 = .ok (.bipush 6, 2) := by decide +kernel
theorem dM_take_36 : decode cM_take 36 = .ok (.if_icmp .ge 19, 3) := by decide +kernel
theorem dM_take_39 : decode cM_take 39 = .ok (.aload_n 0, 1) := by decide +kernel
theorem dM_take_40 : decode cM_take 40 = .ok (.aload_n 0, 1) := by decide +kernel
theorem dM_take_41 : decode cM_take 41 = .ok (.getfield 26, 3) := by decide +kernel
theorem dM_take_44 : decode cM_take 44 = .ok (.iload_n 3, 1) := by decide +kernel
theorem dM_take_45 : decode cM_take 45 = .ok (.iaload, 1) := by decide +kernel
theorem dM_take_46 : decode cM_take 46 = .ok (.invokevirtual 90, 3) := by decide +kernel
theorem dM_take_49 : decode cM_take 49 = .ok (.iinc 3 1, 3) := by decide +kernel
theorem dM_take_52 : decode cM_take 52 = .ok (.goto (-19), 3) := by decide +kernel
theorem dM_take_55 : decode cM_take 55 = .ok (.aload_n 0, 1) := by decide +kernel
theorem dM_take_56 : decode cM_take 56 = .ok (.sipush 1000, 3) := by decide +kernel
theorem dM_take_59 : decode cM_take 59 = .ok (.aload_n 0, 1) := by decide +kernel
theorem dM_take_60 : decode cM_take 60 = .ok (.getfield 52, 3) := by decide +kernel
theorem dM_take_63 : decode cM_take 63 = .ok (.iadd, 1) := by decide +kernel
theorem dM_take_64 : decode cM_take 64 = .ok (.invokevirtual 90, 3) := by decide +kernel
theorem dM_take_67 : decode cM_take 67 = .ok (.aload_n 0, 1) := by decide +kernel
theorem dM_take_68 : decode cM_take 68 = .ok (.getfield 58, 3) := by decide +kernel
theorem dM_take_71 : decode cM_take 71 = .ok (.ifCond .eq 13, 3) := by decide +kernel
theorem dM_take_74 : decode cM_take 74 = .ok (.aload_n 0, 1) := by decide +kernel
theorem dM_take_75 : decode cM_take 75 = .ok (.invokevirtual 93, 3) := by decide +kernel
theorem dM_take_78 : decode cM_take 78 = .ok (.aload_n 0, 1) := by decide +kernel
theorem dM_take_79 : decode cM_take 79 = .ok (.iconst 2, 1) := by decide +kernel
theorem dM_take_80 : decode cM_take 80 = .ok (.putfield 49, 3) := by decide +kernel
theorem dM_take_83 : decode cM_take 83 = .ok (.return_, 1) := by decide +kernel
theorem dM_take_84 : decode cM_take 84 = .ok (.aload_n 0, 1) := by decide +kernel
theorem dM_take_85 : decode cM_take 85 = .ok (.invokevirtual 61, 3) := by decide +kernel
theorem dM_take_88 : decode cM_take 88 = .ok (.ifCond .ne 7, 3) := by decide +kernel
theorem dM_take_91 : decode cM_take 91 = .ok (.iconst 1, 1) := by decide +kernel
theorem dM_take_92 : decode cM_take 92 = .ok (.goto 4, 3) := by decide +kernel
theorem dM_take_95 : decode cM_take 95 = .ok (.iconst 0, 1) := by decide +kernel
theorem dM_take_96 : decode cM_take 96 = .ok (.istore_n 3, 1) := by decide +kernel
theorem dM_take_97 : decode cM_take 97 = .ok (.aload_n 0, 1) := by decide +kernel
theorem dM_take_98 : decode cM_take 98 = .ok (.iload_n 1, 1) := by decide +kernel
theorem dM_take_99 : decode cM_take 99 = .ok (.invokevirtual 96, 3) := by decide +kernel
theorem dM_take_102 : decode cM_take 102 = .ok (.istore 4, 2) := by decide +kernel
theorem dM_take_104 : decode cM_take 104 = .ok (.aload_n 0, 1) := by decide +kernel
theorem dM_take_105 : decode cM_take 105 = .ok (.getfield 26, 3) := by decide +kernel
theorem dM_take_108 : decode cM_take 108 = .ok (.bipush 6, 2) := by decide +kernel
theorem dM_take_110 : decode cM_take 110 = .ok (.ldc 99, 2) := by decide +kernel
theorem dM_take_112 : decode cM_take 112 = .ok (.bipush 16, 2) := by decide +kernel
theorem dM_take_114 : decode cM_take 114 = .ok (.aload_n 0, 1) := by decide +kernel
theorem dM_take_115 : decode cM_take 115 = .ok (.getfield 52, 3) := by decide +kernel
theorem dM_take_118 : decode cM_take 118 = .ok (.imul, 1) := by decide +kernel
theorem dM_take_119 : decode cM_take 119 = .ok (.iadd, 1) := by decide +kernel
theorem dM_take_120 : decode cM_take 120 = .ok (.iload_n 3, 1) := by decide +kernel
theorem dM_take_121 : decode cM_take 121 = .ok (.ifCond .eq 7, 3) := by decide +kernel
theorem dM_take_124 : decode cM_take 124 = .ok (.iconst 1, 1) := by decide +kernel
theorem dM_take_125 : decode cM_take 125 = .ok (.goto 4, 3) := by decide +kernel
theorem dM_take_128 : decode cM_take 128 = .ok (.iconst 0, 1) := by decide +kernel
theorem dM_take_129 : decode cM_take 129 = .ok (.iadd, 1) := by decide +kernel
theorem dM_take_130 : decode cM_take 130 = .ok (.iastore, 1) := by decide +kernel
theorem dM_take_131 : decode cM_take 131 = .ok (.iconst 0, 1) := by decide +kernel
theorem dM_take_132 : decode cM_take 132 = .ok (.istore 5, 2) := by decide +kernel
theorem dM_take_134 : decode cM_take 134 = .ok (.iload 5, 2) := by decide +kernel
theorem dM_take_136 : decode cM_take 136 = .ok (.bipush 6, 2) := by decide +kernel
theorem dM_take_138 : decode cM_take 138 = .ok (.if_icmp .ge 26, 3) := by decide +kernel
theorem dM_take_141 : decode cM_take 141 = .ok (.iload_n 3, 1) := by decide +kernel
theorem dM_take_142 : decode cM_take 142 = .ok (.ifCond .eq 22, 3) := by decide +kernel
theorem dM_take_145 : decode cM_take 145 = .ok (.iload 4, 2) := by decide +kernel
theorem dM_take_147 : decode cM_take 147 = .ok (.ifCond .ne 17, 3) := by decide +kernel
theorem dM_take_150 : decode cM_take 150 = .ok (.aload_n 0, 1) := by decide +kernel
theorem dM_take_151 : decode cM_take 151 = .ok (.getfield 26, 3) := by decide +kernel
theorem dM_take_154 : decode cM_take 154 = .ok (.iload 5, 2) := by decide +kernel
theorem dM_take_156 : decode cM_take 156 = .ok (.iconst 0, 1) := by decide +kernel
theorem dM_take_157 : decode cM_take 157 = .ok (.iastore, 1) := by decide +kernel
theorem dM_take_158 : decode cM_take 158 = .ok (.iinc 5 1, 3) := by decide +kernel
theorem dM_take_161 : decode cM_take 161 = .ok (.goto (-27), 3) := by decide +kernel
theorem dM_take_164 : decode cM_take 164 = .ok (.iload_n 3, 1) := by decide +kernel
theorem dM_take_165 : decode cM_take 165 = .ok (.ifCond .eq 16, 3) := by decide +kernel
theorem dM_take_168 : decode cM_take 168 = .ok (.iload 4, 2) := by decide +kernel
theorem dM_take_170 : decode cM_take 170 = .ok (.ifCond .ne 11, 3) := by decide +kernel
theorem dM_take_173 : decode cM_take 173 = .ok (.aload_n 0, 1) := by decide +kernel
theorem dM_take_174 : decode cM_take 174 = .ok (.getfield 26, 3) := by decide +kernel
theorem dM_take_177 : decode cM_take 177 = .ok (.bipush 10, 2) := by decide +kernel
theorem dM_take_179 : decode cM_take 179 = .ok (.iconst 0, 1) := by decide +kernel
theorem dM_take_180 : decode cM_take 180 = .ok (.iastore, 1) := by decide +kernel
theorem dM_take_181 : decode cM_take 181 = .ok (.aload_n 0, 1) := by decide +kernel
theorem dM_take_182 : decode cM_take 182 = .ok (.getfield 26, 3) := by decide +kernel
theorem dM_take_185 : decode cM_take 185 = .ok (.bipush 11, 2) := by decide +kernel
theorem dM_take_187 : decode cM_take 187 = .ok (.iload 4, 2) := by decide +kernel
theorem dM_take_189 : decode cM_take 189 = .ok (.ifCond .eq 7, 3) := by decide +kernel
theorem dM_take_192 : decode cM_take 192 = .ok (.iconst 0, 1) := by decide +kernel
theorem dM_take_193 : decode cM_take 193 = .ok (.goto 4, 3) := by decide +kernel
theorem dM_take_196 : decode cM_take 196 = .ok (.iconst 1, 1) := by decide +kernel
theorem dM_take_197 : decode cM_take 197 = .ok (.iastore, 1) := by decide +kernel
theorem dM_take_198 : decode cM_take 198 = .ok (.aload_n 0, 1) := by decide +kernel
theorem dM_take_199 : decode cM_take 199 = .ok (.getfield 26, 3) := by decide +kernel
theorem dM_take_202 : decode cM_take 202 = .ok (.bipush 7, 2) := by decide +kernel
theorem dM_take_204 : decode cM_take 204 = .ok (.aload_n 0, 1) := by decide +kernel
theorem dM_take_205 : decode cM_take 205 = .ok (.getfield 7, 3) := by decide +kernel
theorem dM_take_208 : decode cM_take 208 = .ok (.bipush 8, 2) := by decide +kernel
theorem dM_take_210 : decode cM_take 210 = .ok (.iload 4, 2) := by decide +kernel
theorem dM_take_212 : decode cM_take 212 = .ok (.ifCond .eq 10, 3) := by decide +kernel
theorem dM_take_215 : decode cM_take 215 = .ok (.aload_n 0, 1) := by decide +kernel
theorem dM_take_216 : decode cM_take 216 = .ok (.getfield 43, 3) := by decide +kernel
theorem dM_take_219 : decode cM_take 219 = .ok (.goto 7, 3) := by decide +kernel
theorem dM_take_222 : decode cM_take 222 = .ok (.aload_n 0, 1) := by decide +kernel
theorem dM_take_223 : decode cM_take 223 = .ok (.getfield 46, 3) := by decide +kernel
theorem dM_take_226 : decode cM_take 226 = .ok (.imul, 1) := by decide +kernel
theorem dM_take_227 : decode cM_take 227 = .ok (.iload_n 1, 1) := by decide +kernel
theorem dM_take_228 : decode cM_take 228 = .ok (.iadd, 1) := by decide +kernel
theorem dM_take_229 : decode cM_take 229 = .ok (.sipush 255, 3) := by decide +kernel
theorem dM_take_232 : decode cM_take 232 = .ok (.iand, 1) := by decide +kernel
theorem dM_take_233 : decode cM_take 233 = .ok (.iaload, 1) := by decide +kernel
theorem dM_take_234 : decode cM_take 234 = .ok (.sipush 255, 3) := by decide +kernel
theorem dM_take_237 : decode cM_take 237 = .ok (.iand, 1) := by decide +kernel
theorem dM_take_238 : decode cM_take 238 = .ok (.iastore, 1) := by decide +kernel
theorem dM_take_239 : decode cM_take 239 = .ok (.aload_n 0, 1) := by decide +kernel
theorem dM_take_240 : decode cM_take 240 = .ok (.iload_n 1, 1) := by decide +kernel
theorem dM_take_241 : decode cM_take 241 = .ok (.putfield 52, 3) := by decide +kernel
theorem dM_take_244 : decode cM_take 244 = .ok (.aload_n 0, 1) := by decide +kernel
theorem dM_take_245 : decode cM_take 245 = .ok (.iload_n 1, 1) := by decide +kernel
theorem dM_take_246 : decode cM_take 246 = .ok (.putfield 100, 3) := by decide +kernel
theorem dM_take_249 : decode cM_take 249 = .ok (.return_, 1) := by decide +kernel
theorem dM_fault_0 : decode cM_fault 0 = .ok (.aload_n 0, 1) := by decide +kernel
theorem dM_fault_1 : decode cM_fault 1 = .ok (.getfield 58, 3) := by decide +kernel
theorem dM_fault_4 : decode cM_fault 4 = .ok (.iconst 2, 1) := by decide +kernel
theorem dM_fault_5 : decode cM_fault 5 = .ok (.if_icmp .ne 14, 3) := by decide +kernel
theorem dM_fault_8 : decode cM_fault 8 = .ok (.aload_n 0, 1) := by decide +kernel
theorem dM_fault_9 : decode cM_fault 9 = .ok (.getfield 22, 3) := by decide +kernel
theorem dM_fault_12 : decode cM_fault 12 = .ok (.ifCond .ne 7, 3) := by decide +kernel
theorem dM_fault_15 : decode cM_fault 15 = .ok (.iconst 1, 1) := by decide +kernel
theorem dM_fault_16 : decode cM_fault 16 = .ok (.goto 7, 3) := by decide +kernel
theorem dM_fault_19 : decode cM_fault 19 = .ok (.aload_n 0, 1) := by decide +kernel
theorem dM_fault_20 : decode cM_fault 20 = .ok (.getfield 58, 3) := by decide +kernel
theorem dM_fault_23 : decode cM_fault 23 = .ok (.istore_n 1, 1) := by decide +kernel
theorem dM_fault_24 : decode cM_fault 24 = .ok (.aload_n 0, 1) := by decide +kernel
theorem dM_fault_25 : decode cM_fault 25 = .ok (.invokevirtual 93, 3) := by decide +kernel
theorem dM_fault_28 : decode cM_fault 28 = .ok (.aload_n 0, 1) := by decide +kernel
theorem dM_fault_29 : decode cM_fault 29 = .ok (.getfield 52, 3) := by decide +kernel
theorem dM_fault_32 : decode cM_fault 32 = .ok (.iconst 1, 1) := by decide +kernel
theorem dM_fault_33 : decode cM_fault 33 = .ok (.if_icmp .eq 16, 3) := by decide +kernel
theorem dM_fault_36 : decode cM_fault 36 = .ok (.aload_n 0, 1) := by decide +kernel
theorem dM_fault_37 : decode cM_fault 37 = .ok (.getfield 52, 3) := by decide +kernel
theorem dM_fault_40 : decode cM_fault 40 = .ok (.iconst 2, 1) := by decide +kernel
theorem dM_fault_41 : decode cM_fault 41 = .ok (.if_icmp .ne 16, 3) := by decide +kernel
theorem dM_fault_44 : decode cM_fault 44 = .ok (.iload_n 1, 1) := by decide +kernel
theorem dM_fault_45 : decode cM_fault 45 = .ok (.iconst 1, 1) := by decide +kernel
theorem dM_fault_46 : decode cM_fault 46 = .ok (.if_icmp .eq 11, 3) := by decide +kernel
theorem dM_fault_49 : decode cM_fault 49 = .ok (.aload_n 0, 1) := by decide +kernel
theorem dM_fault_50 : decode cM_fault 50 = .ok (.iconst 2, 1) := by decide +kernel
theorem dM_fault_51 : decode cM_fault 51 = .ok (.putfield 49, 3) := by decide +kernel
theorem dM_fault_54 : decode cM_fault 54 = .ok (.goto 15, 3) := by decide +kernel
theorem dM_fault_57 : decode cM_fault 57 = .ok (.aload_n 0, 1) := by decide +kernel
theorem dM_fault_58 : decode cM_fault 58 = .ok (.iload_n 1, 1) := by decide +kernel
theorem dM_fault_59 : decode cM_fault 59 = .ok (.aload_n 0, 1) := by decide +kernel
theorem dM_fault_60 : decode cM_fault 60 = .ok (.getfield 26, 3) := by decide +kernel
theorem dM_fault_63 : decode cM_fault 63 = .ok (.bipush 7, 2) := by decide +kernel
theorem dM_fault_65 : decode cM_fault 65 = .ok (.iaload, 1) := by decide +kernel
theorem dM_fault_66 : decode cM_fault 66 = .ok (.invokevirtual 103, 3) := by decide +kernel
theorem dM_fault_69 : decode cM_fault 69 = .ok (.return_, 1) := by decide +kernel
theorem dM_endException_0 : decode cM_endException 0 = .ok (.aload_n 0, 1) := by decide +kernel
theorem dM_endException_1 : decode cM_endException 1 = .ok (.getfield 26, 3) := by decide +kernel
theorem dM_endException_4 : decode cM_endException 4 = .ok (.bipush 6, 2) := by decide +kernel
theorem dM_endException_6 : decode cM_endException 6 = .ok (.iaload, 1) := by decide +kernel
theorem dM_endException_7 : decode cM_endException 7 = .ok (.ldc 99, 2) := by decide +kernel
theorem dM_endException_9 : decode cM_endException 9 = .ok (.isub, 1) := by decide +kernel
theorem dM_endException_10 : decode cM_endException 10 = .ok (.istore_n 1, 1) := by decide +kernel
theorem dM_endException_11 : decode cM_endException 11 = .ok (.iload_n 1, 1) := by decide +kernel
theorem dM_endException_12 : decode cM_endException 12 = .ok (.bipush 16, 2) := by decide +kernel
theorem dM_endException_14 : decode cM_endException 14 = .ok (.idiv, 1) := by decide +kernel
theorem dM_endException_15 : decode cM_endException 15 = .ok (.istore_n 2, 1) := by decide +kernel
theorem dM_endException_16 : decode cM_endException 16 = .ok (.aload_n 0, 1) := by decide +kernel
theorem dM_endException_17 : decode cM_endException 17 = .ok (.getfield 26, 3) := by decide +kernel
theorem dM_endException_20 : decode cM_endException 20 = .ok (.bipush 11, 2) := by decide +kernel
theorem dM_endException_22 : decode cM_endException 22 = .ok (.iload_n 1, 1) := by decide +kernel
theorem dM_endException_23 : decode cM_endException 23 = .ok (.iconst 1, 1) := by decide +kernel
theorem dM_endException_24 : decode cM_endException 24 = .ok (.iand, 1) := by decide +kernel
theorem dM_endException_25 : decode cM_endException 25 = .ok (.iconst 1, 1) := by decide +kernel
theorem dM_endException_26 : decode cM_endException 26 = .ok (.if_icmp .ne 7, 3) := by decide +kernel
theorem dM_endException_29 : decode cM_endException 29 = .ok (.iconst 0, 1) := by decide +kernel
theorem dM_endException_30 : decode cM_endException 30 = .ok (.goto 4, 3) := by decide +kernel
theorem dM_endException_33 : decode cM_endException 33 = .ok (.iconst 1, 1) := by decide +kernel
theorem dM_endException_34 : decode cM_endException 34 = .ok (.iastore, 1) := by decide +kernel
theorem dM_endException_35 : decode cM_endException 35 = .ok (.aload_n 0, 1) := by decide +kernel
theorem dM_endException_36 : decode cM_endException 36 = .ok (.invokevirtual 106, 3) := by decide +kernel
theorem dM_endException_39 : decode cM_endException 39 = .ok (.istore_n 3, 1) := by decide +kernel
theorem dM_endException_40 : decode cM_endException 40 = .ok (.iload_n 3, 1) := by decide +kernel
theorem dM_endException_41 : decode cM_endException 41 = .ok (.sipush 1000, 3) := by decide +kernel
theorem dM_endException_44 : decode cM_endException 44 = .ok (.iload_n 2, 1) := by decide +kernel
theorem dM_endException_45 : decode cM_endException 45 = .ok (.iadd, 1) := by decide +kernel
theorem dM_endException_46 : decode cM_endException 46 = .ok (.if_icmp .eq 8, 3) := by decide +kernel
theorem dM_endException_49 : decode cM_endException 49 = .ok (.aload_n 0, 1) := by decide +kernel
theorem dM_endException_50 : decode cM_endException 50 = .ok (.iconst 2, 1) := by decide +kernel
theorem dM_endException_51 : decode cM_endException 51 = .ok (.invokevirtual 72, 3) := by decide +kernel
theorem dM_endException_54 : decode cM_endException 54 = .ok (.iconst 5, 1) := by decide +kernel
theorem dM_endException_55 : decode cM_endException 55 = .ok (.istore 4, 2) := by decide +kernel
theorem dM_endException_57 : decode cM_endException 57 = .ok (.iload 4, 2) := by decide +kernel
theorem dM_endException_59 : decode cM_endException 59 = .ok (.ifCond .lt 20, 3) := by decide +kernel
theorem dM_endException_62 : decode cM_endException 62 = .ok (.aload_n 0, 1) := by decide +kernel
theorem dM_endException_63 : decode cM_endException 63 = .ok (.getfield 26, 3) := by decide +kernel
theorem dM_endException_66 : decode cM_endException 66 = .ok (.iload 4, 2) := by decide +kernel
theorem dM_endException_68 : decode cM_endException 68 = .ok (.aload_n 0, 1) := by decide +kernel
theorem dM_endException_69 : decode cM_endException 69 = .ok (.invokevirtual 106, 3) := by decide +kernel
theorem dM_endException_72 : decode cM_endException 72 = .ok (.iastore, 1) := by decide +kernel
theorem dM_endException_73 : decode cM_endException 73 = .ok (.iinc 4 (-1), 3) := by decide +kernel
theorem dM_endException_76 : decode cM_endException 76 = .ok (.goto (-19), 3) := by decide +kernel
theorem dM_endException_79 : decode cM_endException 79 = .ok (.aload_n 0, 1) := by decide +kernel
theorem dM_endException_80 : decode cM_endException 80 = .ok (.getfield 26, 3) := by decide +kernel
theorem dM_endException_83 : decode cM_endException 83 = .ok (.bipush 6, 2) := by decide +kernel
theorem dM_endException_85 : decode cM_endException 85 = .ok (.aload_n 0, 1) := by decide +kernel
theorem dM_endException_86 : decode cM_endException 86 = .ok (.invokevirtual 106, 3) := by decide +kernel
theorem dM_endException_89 : decode cM_endException 89 = .ok (.iastore, 1) := by decide +kernel
theorem dM_endException_90 : decode cM_endException 90 = .ok (.aload_n 0, 1) := by decide +kernel
theorem dM_endException_91 : decode cM_endException 91 = .ok (.getfield 26, 3) := by decide +kernel
theorem dM_endException_94 : decode cM_endException 94 = .ok (.bipush 10, 2) := by decide +kernel
theorem dM_endException_96 : decode cM_endException 96 = .ok (.aload_n 0, 1) := by decide +kernel
theorem dM_endException_97 : decode cM_endException 97 = .ok (.invokevirtual 106, 3) := by decide +kernel
theorem dM_endException_100 : decode cM_endException 100 = .ok (.ifCond .eq 7, 3) := by decide +kernel
theorem dM_endException_103 : decode cM_endException 103 = .ok (.iconst 1, 1) := by decide +kernel
theorem dM_endException_104 : decode cM_endException 104 = .ok (.goto 4, 3) := by decide +kernel
theorem dM_endException_107 : decode cM_endException 107 = .ok (.iconst 0, 1) := by decide +kernel
theorem dM_endException_108 : decode cM_endException 108 = .ok (.iastore, 1) := by decide +kernel
theorem dM_endException_109 : decode cM_endException 109 = .ok (.aload_n 0, 1) := by decide +kernel
theorem dM_endException_110 : decode cM_endException 110 = .ok (.getfield 26, 3) := by decide +kernel
theorem dM_endException_113 : decode cM_endException 113 = .ok (.bipush 7, 2) := by decide +kernel
theorem dM_endException_115 : decode cM_endException 115 = .ok (.aload_n 0, 1) := by decide +kernel
theorem dM_endException_116 : decode cM_endException 116 = .ok (.invokevirtual 106, 3) := by decide +kernel
theorem dM_endException_119 : decode cM_endException 119 = .ok (.sipush 255, 3) := by decide +kernel
theorem dM_endException_122 : decode cM_endException 122 = .ok (.iand, 1) := by decide +kernel
theorem dM_endException_123 : decode cM_endException 123 = .ok (.iastore, 1) := by decide +kernel
theorem dM_endException_124 : decode cM_endException 124 = .ok (.aload_n 0, 1) := by decide +kernel
theorem dM_endException_125 : decode cM_endException 125 = .ok (.getfield 58, 3) := by decide +kernel
theorem dM_endException_128 : decode cM_endException 128 = .ok (.ifCond .ne 8, 3) := by decide +kernel
theorem dM_endException_131 : decode cM_endException 131 = .ok (.aload_n 0, 1) := by decide +kernel
theorem dM_endException_132 : decode cM_endException 132 = .ok (.iload_n 2, 1) := by decide +kernel
theorem dM_endException_133 : decode cM_endException 133 = .ok (.putfield 52, 3) := by decide +kernel
theorem dM_endException_136 : decode cM_endException 136 = .ok (.return_, 1) := by decide +kernel
theorem dM_returns_0 : decode cM_returns 0 = .ok (.aload_n 0, 1) := by decide +kernel
theorem dM_returns_1 : decode cM_returns 1 = .ok (.getfield 26, 3) := by decide +kernel
theorem dM_returns_4 : decode cM_returns 4 = .ok (.bipush 6, 2) := by decide +kernel
theorem dM_returns_6 : decode cM_returns 6 = .ok (.iaload, 1) := by decide +kernel
theorem dM_returns_7 : decode cM_returns 7 = .ok (.istore_n 1, 1) := by decide +kernel
theorem dM_returns_8 : decode cM_returns 8 = .ok (.iload_n 1, 1) := by decide +kernel
theorem dM_returns_9 : decode cM_returns 9 = .ok (.ldc 109, 2) := by decide +kernel
theorem dM_returns_11 : decode cM_returns 11 = .ok (.if_icmp .ge 18, 3) := by decide +kernel
theorem dM_returns_14 : decode cM_returns 14 = .ok (.aload_n 0, 1) := by decide +kernel
theorem dM_returns_15 : decode cM_returns 15 = .ok (.getfield 26, 3) := by decide +kernel
theorem dM_returns_18 : decode cM_returns 18 = .ok (.bipush 7, 2) := by decide +kernel
theorem dM_returns_20 : decode cM_returns 20 = .ok (.iload_n 1, 1) := by decide +kernel
theorem dM_returns_21 : decode cM_returns 21 = .ok (.sipush 255, 3) := by decide +kernel
theorem dM_returns_24 : decode cM_returns 24 = .ok (.iand, 1) := by decide +kernel
theorem dM_returns_25 : decode cM_returns 25 = .ok (.iastore, 1) := by decide +kernel
theorem dM_returns_26 : decode cM_returns 26 = .ok (.goto 126, 3) := by decide +kernel
theorem dM_returns_29 : decode cM_returns 29 = .ok (.iload_n 1, 1) := by decide +kernel
theorem dM_returns_30 : decode cM_returns 30 = .ok (.ldc 99, 2) := by decide +kernel
theorem dM_returns_32 : decode cM_returns 32 = .ok (.if_icmp .ge 33, 3) := by decide +kernel
theorem dM_returns_35 : decode cM_returns 35 = .ok (.aload_n 0, 1) := by decide +kernel
theorem dM_returns_36 : decode cM_returns 36 = .ok (.invokevirtual 61, 3) := by decide +kernel
theorem dM_returns_39 : decode cM_returns 39 = .ok (.ifCond .ne 26, 3) := by decide +kernel
theorem dM_returns_42 : decode cM_returns 42 = .ok (.aload_n 0, 1) := by decide +kernel
theorem dM_returns_43 : decode cM_returns 43 = .ok (.getfield 26, 3) := by decide +kernel
theorem dM_returns_46 : decode cM_returns 46 = .ok (.bipush 11, 2) := by decide +kernel
theorem dM_returns_48 : decode cM_returns 48 = .ok (.iconst 1, 1) := by decide +kernel
theorem dM_returns_49 : decode cM_returns 49 = .ok (.iastore, 1) := by decide +kernel
theorem dM_returns_50 : decode cM_returns 50 = .ok (.aload_n 0, 1) := by decide +kernel
theorem dM_returns_51 : decode cM_returns 51 = .ok (.getfield 26, 3) := by decide +kernel
theorem dM_returns_54 : decode cM_returns 54 = .ok (.bipush 7, 2) := by decide +kernel
theorem dM_returns_56 : decode cM_returns 56 = .ok (.iload_n 1, 1) := by decide +kernel
theorem dM_returns_57 : decode cM_returns 57 = .ok (.sipush 255, 3) := by decide +kernel
theorem dM_returns_60 : decode cM_returns 60 = .ok (.iand, 1) := by decide +kernel
theorem dM_returns_61 : decode cM_returns 61 = .ok (.iastore, 1) := by decide +kernel
theorem dM_returns_62 : decode cM_returns 62 = .ok (.goto 90, 3) := by decide +kernel
theorem dM_returns_65 : decode cM_returns 65 = .ok (.iload_n 1, 1) := by decide +kernel
theorem dM_returns_66 : decode cM_returns 66 = .ok (.ldc 110, 2) := by decide +kernel
theorem dM_returns_68 : decode cM_returns 68 = .ok (.if_icmp .ne 53, 3) := by decide +kernel
theorem dM_returns_71 : decode cM_returns 71 = .ok (.aload_n 0, 1) := by decide +kernel
theorem dM_returns_72 : decode cM_returns 72 = .ok (.invokevirtual 61, 3) := by decide +kernel
theorem dM_returns_75 : decode cM_returns 75 = .ok (.ifCond .eq 46, 3) := by decide +kernel
theorem dM_returns_78 : decode cM_returns 78 = .ok (.aload_n 0, 1) := by decide +kernel
theorem dM_returns_79 : decode cM_returns 79 = .ok (.getfield 26, 3) := by decide +kernel
theorem dM_returns_82 : decode cM_returns 82 = .ok (.bipush 11, 2) := by decide +kernel
theorem dM_returns_84 : decode cM_returns 84 = .ok (.iconst 0, 1) := by decide +kernel
theorem dM_returns_85 : decode cM_returns 85 = .ok (.iastore, 1) := by decide +kernel
theorem dM_returns_86 : decode cM_returns 86 = .ok (.aload_n 0, 1) := by decide +kernel
theorem dM_returns_87 : decode cM_returns 87 = .ok (.invokevirtual 106, 3) := by decide +kernel
theorem dM_returns_90 : decode cM_returns 90 = .ok (.istore_n 2, 1) := by decide +kernel
theorem dM_returns_91 : decode cM_returns 91 = .ok (.iload_n 2, 1) := by decide +kernel
theorem dM_returns_92 : decode cM_returns 92 = .ok (.sipush 4096, 3) := by decide +kernel
theorem dM_returns_95 : decode cM_returns 95 = .ok (.if_icmp .eq 8, 3) := by decide +kernel
theorem dM_returns_98 : decode cM_returns 98 = .ok (.aload_n 0, 1) := by decide +kernel
theorem dM_returns_99 : decode cM_returns 99 = .ok (.iconst 2, 1) := by decide +kernel
theorem dM_returns_100 : decode cM_returns 100 = .ok (.invokevirtual 72, 3) := by decide +kernel
theorem dM_returns_103 : decode cM_returns 103 = .ok (.aload_n 0, 1) := by decide +kernel
theorem dM_returns_104 : decode cM_returns 104 = .ok (.getfield 26, 3) := by decide +kernel
theorem dM_returns_107 : decode cM_returns 107 = .ok (.bipush 7, 2) := by decide +kernel
theorem dM_returns_109 : decode cM_returns 109 = .ok (.aload_n 0, 1) := by decide +kernel
theorem dM_returns_110 : decode cM_returns 110 = .ok (.invokevirtual 106, 3) := by decide +kernel
theorem dM_returns_113 : decode cM_returns 113 = .ok (.sipush 255, 3) := by decide +kernel
theorem dM_returns_116 : decode cM_returns 116 = .ok (.iand, 1) := by decide +kernel
theorem dM_returns_117 : decode cM_returns 117 = .ok (.iastore, 1) := by decide +kernel
theorem dM_returns_118 : decode cM_returns 118 = .ok (.goto 34, 3) := by decide +kernel
theorem dM_returns_121 : decode cM_returns 121 = .ok (.iload_n 1, 1) := by decide +kernel
theorem dM_returns_122 : decode cM_returns 122 = .ok (.ldc 99, 2) := by decide +kernel
theorem dM_returns_124 : decode cM_returns 124 = .ok (.if_icmp .lt 23, 3) := by decide +kernel
theorem dM_returns_127 : decode cM_returns 127 = .ok (.iload_n 1, 1) := by decide +kernel
theorem dM_returns_128 : decode cM_returns 128 = .ok (.ldc 110, 2) := by decide +kernel
theorem dM_returns_130 : decode cM_returns 130 = .ok (.if_icmp .ge 17, 3) := by decide +kernel
theorem dM_returns_133 : decode cM_returns 133 = .ok (.aload_n 0, 1) := by decide +kernel
theorem dM_returns_134 : decode cM_returns 134 = .ok (.getfield 52, 3) := by decide +kernel
theorem dM_returns_137 : decode cM_returns 137 = .ok (.ifCond .eq 10, 3) := by decide +kernel
theorem dM_returns_140 : decode cM_returns 140 = .ok (.aload_n 0, 1) := by decide +kernel
theorem dM_returns_141 : decode cM_returns 141 = .ok (.invokevirtual 111, 3) := by decide +kernel
theorem dM_returns_144 : decode cM_returns 144 = .ok (.goto 8, 3) := by decide +kernel
theorem dM_returns_147 : decode cM_returns 147 = .ok (.aload_n 0, 1) := by decide +kernel
theorem dM_returns_148 : decode cM_returns 148 = .ok (.iconst 2, 1) := by decide +kernel
theorem dM_returns_149 : decode cM_returns 149 = .ok (.invokevirtual 72, 3) := by decide +kernel
theorem dM_returns_152 : decode cM_returns 152 = .ok (.return_, 1) := by decide +kernel
theorem dM_namesSeven_0 : decode cM_namesSeven 0 = .ok (.iload_n 0, 1) := by decide +kernel
theorem dM_namesSeven_1 : decode cM_namesSeven 1 = .ok (.bipush 6, 2) := by decide +kernel
theorem dM_namesSeven_3 : decode cM_namesSeven 3 = .ok (.if_icmp .gt 13, 3) := by decide +kernel
theorem dM_namesSeven_6 : decode cM_namesSeven 6 = .ok (.iload_n 1, 1) := by decide +kernel
theorem dM_namesSeven_7 : decode cM_namesSeven 7 = .ok (.bipush 7, 2) := by decide +kernel
theorem dM_namesSeven_9 : decode cM_namesSeven 9 = .ok (.if_icmp .ne 7, 3) := by decide +kernel
theorem dM_namesSeven_12 : decode cM_namesSeven 12 = .ok (.iconst 1, 1) := by decide +kernel
theorem dM_namesSeven_13 : decode cM_namesSeven 13 = .ok (.goto 4, 3) := by decide +kernel
theorem dM_namesSeven_16 : decode cM_namesSeven 16 = .ok (.iconst 0, 1) := by decide +kernel
theorem dM_namesSeven_17 : decode cM_namesSeven 17 = .ok (.istore 4, 2) := by decide +kernel
theorem dM_namesSeven_19 : decode cM_namesSeven 19 = .ok (.iload_n 0, 1) := by decide +kernel
theorem dM_namesSeven_20 : decode cM_namesSeven 20 = .ok (.iconst 1, 1) := by decide +kernel
theorem dM_namesSeven_21 : decode cM_namesSeven 21 = .ok (.if_icmp .lt 8, 3) := by decide +kernel
theorem dM_namesSeven_24 : decode cM_namesSeven 24 = .ok (.iload_n 0, 1) := by decide +kernel
theorem dM_namesSeven_25 : decode cM_namesSeven 25 = .ok (.iconst 4, 1) := by decide +kernel
theorem dM_namesSeven_26 : decode cM_namesSeven 26 = .ok (.if_icmp .le 21, 3) := by decide +kernel
theorem dM_namesSeven_29 : decode cM_namesSeven 29 = .ok (.iload_n 0, 1) := by decide +kernel
theorem dM_namesSeven_30 : decode cM_namesSeven 30 = .ok (.bipush 9, 2) := by decide +kernel
theorem dM_namesSeven_32 : decode cM_namesSeven 32 = .ok (.if_icmp .eq 15, 3) := by decide +kernel
theorem dM_namesSeven_35 : decode cM_namesSeven 35 = .ok (.iload_n 0, 1) := by decide +kernel
theorem dM_namesSeven_36 : decode cM_namesSeven 36 = .ok (.bipush 11, 2) := by decide +kernel
theorem dM_namesSeven_38 : decode cM_namesSeven 38 = .ok (.if_icmp .eq 9, 3) := by decide +kernel
theorem dM_namesSeven_41 : decode cM_namesSeven 41 = .ok (.iload_n 0, 1) := by decide +kernel
theorem dM_namesSeven_42 : decode cM_namesSeven 42 = .ok (.bipush 12, 2) := by decide +kernel
theorem dM_namesSeven_44 : decode cM_namesSeven 44 = .ok (.if_icmp .ne 13, 3) := by decide +kernel
theorem dM_namesSeven_47 : decode cM_namesSeven 47 = .ok (.iload_n 2, 1) := by decide +kernel
theorem dM_namesSeven_48 : decode cM_namesSeven 48 = .ok (.bipush 7, 2) := by decide +kernel
theorem dM_namesSeven_50 : decode cM_namesSeven 50 = .ok (.if_icmp .ne 7, 3) := by decide +kernel
theorem dM_namesSeven_53 : decode cM_namesSeven 53 = .ok (.iconst 1, 1) := by decide +kernel
theorem dM_namesSeven_54 : decode cM_namesSeven 54 = .ok (.goto 4, 3) := by decide +kernel
theorem dM_namesSeven_57 : decode cM_namesSeven 57 = .ok (.iconst 0, 1) := by decide +kernel
theorem dM_namesSeven_58 : decode cM_namesSeven 58 = .ok (.istore 5, 2) := by decide +kernel
theorem dM_namesSeven_60 : decode cM_namesSeven 60 = .ok (.iload 4, 2) := by decide +kernel
theorem dM_namesSeven_62 : decode cM_namesSeven 62 = .ok (.ifCond .ne 24, 3) := by decide +kernel
theorem dM_namesSeven_65 : decode cM_namesSeven 65 = .ok (.iload 5, 2) := by decide +kernel
theorem dM_namesSeven_67 : decode cM_namesSeven 67 = .ok (.ifCond .ne 19, 3) := by decide +kernel
theorem dM_namesSeven_70 : decode cM_namesSeven 70 = .ok (.iload_n 0, 1) := by decide +kernel
theorem dM_namesSeven_71 : decode cM_namesSeven 71 = .ok (.iconst 1, 1) := by decide +kernel
theorem dM_namesSeven_72 : decode cM_namesSeven 72 = .ok (.if_icmp .eq 8, 3) := by decide +kernel
theorem dM_namesSeven_75 : decode cM_namesSeven 75 = .ok (.iload_n 0, 1) := by decide +kernel
theorem dM_namesSeven_76 : decode cM_namesSeven 76 = .ok (.iconst 2, 1) := by decide +kernel
theorem dM_namesSeven_77 : decode cM_namesSeven 77 = .ok (.if_icmp .ne 13, 3) := by decide +kernel
theorem dM_namesSeven_80 : decode cM_namesSeven 80 = .ok (.iload_n 3, 1) := by decide +kernel
theorem dM_namesSeven_81 : decode cM_namesSeven 81 = .ok (.bipush 7, 2) := by decide +kernel
theorem dM_namesSeven_83 : decode cM_namesSeven 83 = .ok (.if_icmp .ne 7, 3) := by decide +kernel
theorem dM_namesSeven_86 : decode cM_namesSeven 86 = .ok (.iconst 1, 1) := by decide +kernel
theorem dM_namesSeven_87 : decode cM_namesSeven 87 = .ok (.goto 4, 3) := by decide +kernel
theorem dM_namesSeven_90 : decode cM_namesSeven 90 = .ok (.iconst 0, 1) := by decide +kernel
theorem dM_namesSeven_91 : decode cM_namesSeven 91 = .ok (.ireturn, 1) := by decide +kernel
theorem dM_outwards_0 : decode cM_outwards 0 = .ok (.aload_n 0, 1) := by decide +kernel
theorem dM_outwards_1 : decode cM_outwards 1 = .ok (.getfield 26, 3) := by decide +kernel
theorem dM_outwards_4 : decode cM_outwards 4 = .ok (.iload_n 1, 1) := by decide +kernel
theorem dM_outwards_5 : decode cM_outwards 5 = .ok (.iaload, 1) := by decide +kernel
theorem dM_outwards_6 : decode cM_outwards 6 = .ok (.sipush 255, 3) := by decide +kernel
theorem dM_outwards_9 : decode cM_outwards 9 = .ok (.iand, 1) := by decide +kernel
theorem dM_outwards_10 : decode cM_outwards 10 = .ok (.istore 4, 2) := by decide +kernel
theorem dM_outwards_12 : decode cM_outwards 12 = .ok (.iload_n 3, 1) := by decide +kernel
theorem dM_outwards_13 : decode cM_outwards 13 = .ok (.ifCond .eq 24, 3) := by decide +kernel
theorem dM_outwards_16 : decode cM_outwards 16 = .ok (.aload_n 0, 1) := by decide +kernel
theorem dM_outwards_17 : decode cM_outwards 17 = .ok (.iload_n 2, 1) := by decide +kernel
theorem dM_outwards_18 : decode cM_outwards 18 = .ok (.invokevirtual 90, 3) := by decide +kernel
theorem dM_outwards_21 : decode cM_outwards 21 = .ok (.aload_n 0, 1) := by decide +kernel
theorem dM_outwards_22 : decode cM_outwards 22 = .ok (.sipush 4096, 3) := by decide +kernel
theorem dM_outwards_25 : decode cM_outwards 25 = .ok (.invokevirtual 90, 3) := by decide +kernel
theorem dM_outwards_28 : decode cM_outwards 28 = .ok (.aload_n 0, 1) := by decide +kernel
theorem dM_outwards_29 : decode cM_outwards 29 = .ok (.getfield 26, 3) := by decide +kernel
theorem dM_outwards_32 : decode cM_outwards 32 = .ok (.bipush 6, 2) := by decide +kernel
theorem dM_outwards_34 : decode cM_outwards 34 = .ok (.ldc 110, 2) := by decide +kernel
theorem dM_outwards_36 : decode cM_outwards 36 = .ok (.iastore, 1) := by decide +kernel
theorem dM_outwards_37 : decode cM_outwards 37 = .ok (.aload_n 0, 1) := by decide +kernel
theorem dM_outwards_38 : decode cM_outwards 38 = .ok (.getfield 26, 3) := by decide +kernel
theorem dM_outwards_41 : decode cM_outwards 41 = .ok (.bipush 11, 2) := by decide +kernel
theorem dM_outwards_43 : decode cM_outwards 43 = .ok (.iconst 1, 1) := by decide +kernel
theorem dM_outwards_44 : decode cM_outwards 44 = .ok (.iastore, 1) := by decide +kernel
theorem dM_outwards_45 : decode cM_outwards 45 = .ok (.aload_n 0, 1) := by decide +kernel
theorem dM_outwards_46 : decode cM_outwards 46 = .ok (.getfield 26, 3) := by decide +kernel
theorem dM_outwards_49 : decode cM_outwards 49 = .ok (.bipush 7, 2) := by decide +kernel
theorem dM_outwards_51 : decode cM_outwards 51 = .ok (.iload 4, 2) := by decide +kernel
theorem dM_outwards_53 : decode cM_outwards 53 = .ok (.iastore, 1) := by decide +kernel
theorem dM_outwards_54 : decode cM_outwards 54 = .ok (.return_, 1) := by decide +kernel
theorem dM_perform_0 : decode cM_perform 0 = .ok (.iload_n 1, 1) := by decide +kernel
theorem dM_perform_1 : decode cM_perform 1 = .ok (.bipush 12, 2) := by decide +kernel
theorem dM_perform_3 : decode cM_perform 3 = .ok (.ishr, 1) := by decide +kernel
theorem dM_perform_4 : decode cM_perform 4 = .ok (.istore_n 2, 1) := by decide +kernel
theorem dM_perform_5 : decode cM_perform 5 = .ok (.iload_n 1, 1) := by decide +kernel
theorem dM_perform_6 : decode cM_perform 6 = .ok (.bipush 9, 2) := by decide +kernel
theorem dM_perform_8 : decode cM_perform 8 = .ok (.ishr, 1) := by decide +kernel
theorem dM_perform_9 : decode cM_perform 9 = .ok (.bipush 7, 2) := by decide +kernel
theorem dM_perform_11 : decode cM_perform 11 = .ok (.iand, 1) := by decide +kernel
theorem dM_perform_12 : decode cM_perform 12 = .ok (.istore_n 3, 1) := by decide +kernel
theorem dM_perform_13 : decode cM_perform 13 = .ok (.iload_n 1, 1) := by decide +kernel
theorem dM_perform_14 : decode cM_perform 14 = .ok (.bipush 6, 2) := by decide +kernel
theorem dM_perform_16 : decode cM_perform 16 = .ok (.ishr, 1) := by decide +kernel
theorem dM_perform_17 : decode cM_perform 17 = .ok (.bipush 7, 2) := by decide +kernel
theorem dM_perform_19 : decode cM_perform 19 = .ok (.iand, 1) := by decide +kernel
theorem dM_perform_20 : decode cM_perform 20 = .ok (.istore 4, 2) := by decide +kernel
theorem dM_perform_22 : decode cM_perform 22 = .ok (.iload_n 1, 1) := by decide +kernel
theorem dM_perform_23 : decode cM_perform 23 = .ok (.iconst 3, 1) := by decide +kernel
theorem dM_perform_24 : decode cM_perform 24 = .ok (.ishr, 1) := by decide +kernel
theorem dM_perform_25 : decode cM_perform 25 = .ok (.bipush 7, 2) := by decide +kernel
theorem dM_perform_27 : decode cM_perform 27 = .ok (.iand, 1) := by decide +kernel
theorem dM_perform_28 : decode cM_perform 28 = .ok (.istore 5, 2) := by decide +kernel
theorem dM_perform_30 : decode cM_perform 30 = .ok (.aload_n 0, 1) := by decide +kernel
theorem dM_perform_31 : decode cM_perform 31 = .ok (.getfield 26, 3) := by decide +kernel
theorem dM_perform_34 : decode cM_perform 34 = .ok (.bipush 7, 2) := by decide +kernel
theorem dM_perform_36 : decode cM_perform 36 = .ok (.iaload, 1) := by decide +kernel
theorem dM_perform_37 : decode cM_perform 37 = .ok (.iconst 1, 1) := by decide +kernel
theorem dM_perform_38 : decode cM_perform 38 = .ok (.iadd, 1) := by decide +kernel
theorem dM_perform_39 : decode cM_perform 39 = .ok (.sipush 255, 3) := by decide +kernel
theorem dM_perform_42 : decode cM_perform 42 = .ok (.iand, 1) := by decide +kernel
theorem dM_perform_43 : decode cM_perform 43 = .ok (.istore 6, 2) := by decide +kernel
theorem dM_perform_45 : decode cM_perform 45 = .ok (.iload_n 2, 1) := by decide +kernel
theorem dM_perform_46 : decode cM_perform 46 = .ok (.bipush 11, 2) := by decide +kernel
theorem dM_perform_48 : decode cM_perform 48 = .ok (.if_icmp .eq 15, 3) := by decide +kernel
theorem dM_perform_51 : decode cM_perform 51 = .ok (.iload_n 2, 1) := by decide +kernel
theorem dM_perform_52 : decode cM_perform 52 = .ok (.bipush 12, 2) := by decide +kernel
theorem dM_perform_54 : decode cM_perform 54 = .ok (.if_icmp .eq 9, 3) := by decide +kernel
theorem dM_perform_57 : decode cM_perform 57 = .ok (.iload_n 2, 1) := by decide +kernel
theorem dM_perform_58 : decode cM_perform 58 = .ok (.bipush 15, 2) := by decide +kernel
theorem dM_perform_60 : decode cM_perform 60 = .ok (.if_icmp .ne 7, 3) := by decide +kernel
theorem dM_perform_63 : decode cM_perform 63 = .ok (.iconst 1, 1) := by decide +kernel
theorem dM_perform_64 : decode cM_perform 64 = .ok (.goto 4, 3) := by decide +kernel
theorem dM_perform_67 : decode cM_perform 67 = .ok (.iconst 0, 1) := by decide +kernel
theorem dM_perform_68 : decode cM_perform 68 = .ok (.istore 7, 2) := by decide +kernel
theorem dM_perform_70 : decode cM_perform 70 = .ok (.iload_n 2, 1) := by decide +kernel
theorem dM_perform_71 : decode cM_perform 71 = .ok (.iload_n 3, 1) := by decide +kernel
theorem dM_perform_72 : decode cM_perform 72 = .ok (.iload 4, 2) := by decide +kernel
theorem dM_perform_74 : decode cM_perform 74 = .ok (.iload 5, 2) := by decide +kernel
theorem dM_perform_76 : decode cM_perform 76 = .ok (.invokestatic 114, 3) := by decide +kernel
theorem dM_perform_79 : decode cM_perform 79 = .ok (.ifCond .ne 15, 3) := by decide +kernel
theorem dM_perform_82 : decode cM_perform 82 = .ok (.iload 7, 2) := by decide +kernel
theorem dM_perform_84 : decode cM_perform 84 = .ok (.ifCond .eq 16, 3) := by decide +kernel
theorem dM_perform_87 : decode cM_perform 87 = .ok (.aload_n 0, 1) := by decide +kernel
theorem dM_perform_88 : decode cM_perform 88 = .ok (.invokevirtual 61, 3) := by decide +kernel
theorem dM_perform_91 : decode cM_perform 91 = .ok (.ifCond .eq 9, 3) := by decide +kernel
theorem dM_perform_94 : decode cM_perform 94 = .ok (.aload_n 0, 1) := by decide +kernel
theorem dM_perform_95 : decode cM_perform 95 = .ok (.iconst 1, 1) := by decide +kernel
theorem dM_perform_96 : decode cM_perform 96 = .ok (.invokevirtual 72, 3) := by decide +kernel
theorem dM_perform_99 : decode cM_perform 99 = .ok (.return_, 1) := by decide +kernel
theorem dM_perform_100 : decode cM_perform 100 = .ok (.aload_n 0, 1) := by decide +kernel
theorem dM_perform_101 : decode cM_perform 101 = .ok (.getfield 26, 3) := by decide +kernel
theorem dM_perform_104 : decode cM_perform 104 = .ok (.bipush 7, 2) := by decide +kernel
theorem dM_perform_106 : decode cM_perform 106 = .ok (.iload 6, 2) := by decide +kernel
theorem dM_perform_108 : decode cM_perform 108 = .ok (.iastore, 1) := by decide +kernel
theorem dM_perform_109 : decode cM_perform 109 = .ok (.iload_n 2, 1) := by decide +kernel
theorem dM_perform_110 : decode cM_perform 110 = .ok (.tableswitch 350 0 14 #[74, 88, 115, 163, 188, 213, 226, 239, 254, 285, 296, 299, 311, 323, 330], 74) := by decide +kernel
theorem dM_perform_184 : decode cM_perform 184 = .ok (.aload_n 0, 1) := by decide +kernel
theorem dM_perform_185 : decode cM_perform 185 = .ok (.getfield 26, 3) := by decide +kernel
theorem dM_perform_188 : decode cM_perform 188 = .ok (.iload_n 3, 1) := by decide +kernel
theorem dM_perform_189 : decode cM_perform 189 = .ok (.iload_n 1, 1) := by decide +kernel
theorem dM_perform_190 : decode cM_perform 190 = .ok (.sipush 511, 3) := by decide +kernel
theorem dM_perform_193 : decode cM_perform 193 = .ok (.iand, 1) := by decide +kernel
theorem dM_perform_194 : decode cM_perform 194 = .ok (.iastore, 1) := by decide +kernel
theorem dM_perform_195 : decode cM_perform 195 = .ok (.goto 270, 3) := by decide +kernel
theorem dM_perform_198 : decode cM_perform 198 = .ok (.aload_n 0, 1) := by decide +kernel
theorem dM_perform_199 : decode cM_perform 199 = .ok (.getfield 26, 3) := by decide +kernel
theorem dM_perform_202 : decode cM_perform 202 = .ok (.iload_n 3, 1) := by decide +kernel
theorem dM_perform_203 : decode cM_perform 203 = .ok (.aload_n 0, 1) := by decide +kernel
theorem dM_perform_204 : decode cM_perform 204 = .ok (.getfield 26, 3) := by decide +kernel
theorem dM_perform_207 : decode cM_perform 207 = .ok (.iload 4, 2) := by decide +kernel
theorem dM_perform_209 : decode cM_perform 209 = .ok (.iaload, 1) := by decide +kernel
theorem dM_perform_210 : decode cM_perform 210 = .ok (.aload_n 0, 1) := by decide +kernel
theorem dM_perform_211 : decode cM_perform 211 = .ok (.getfield 26, 3) := by decide +kernel
theorem dM_perform_214 : decode cM_perform 214 = .ok (.iload 5, 2) := by decide +kernel
theorem dM_perform_216 : decode cM_perform 216 = .ok (.iaload, 1) := by decide +kernel
theorem dM_perform_217 : decode cM_perform 217 = .ok (.iadd, 1) := by decide +kernel
theorem dM_perform_218 : decode cM_perform 218 = .ok (.ldc 32, 2) := by decide +kernel
theorem dM_perform_220 : decode cM_perform 220 = .ok (.iand, 1) := by decide +kernel
theorem dM_perform_221 : decode cM_perform 221 = .ok (.iastore, 1) := by decide +kernel
theorem dM_perform_222 : decode cM_perform 222 = .ok (.goto 243, 3) := by decide +kernel
theorem dM_perform_225 : decode cM_perform 225 = .ok (.aload_n 0, 1) := by decide +kernel
theorem dM_perform_226 : decode cM_perform 226 = .ok (.getfield 26, 3) := by decide +kernel
theorem dM_perform_229 : decode cM_perform 229 = .ok (.iload_n 3, 1) := by decide +kernel
theorem dM_perform_230 : decode cM_perform 230 = .ok (.aload_n 0, 1) := by decide +kernel
theorem dM_perform_231 : decode cM_perform 231 = .ok (.getfield 26, 3) := by decide +kernel
theorem dM_perform_234 : decode cM_perform 234 = .ok (.iload 4, 2) := by decide +kernel
theorem dM_perform_236 : decode cM_perform 236 = .ok (.iaload, 1) := by decide +kernel
theorem dM_perform_237 : decode cM_perform 237 = .ok (.aload_n 0, 1) := by decide +kernel
theorem dM_perform_238 : decode cM_perform 238 = .ok (.getfield 26, 3) := by decide +kernel
theorem dM_perform_241 : decode cM_perform 241 = .ok (.iload 5, 2) := by decide +kernel
theorem dM_perform_243 : decode cM_perform 243 = .ok (.iaload, 1) := by decide +kernel
theorem dM_perform_244 : decode cM_perform 244 = .ok (.isub, 1) := by decide +kernel
theorem dM_perform_245 : decode cM_perform 245 = .ok (.ldc 32, 2) := by decide +kernel
theorem dM_perform_247 : decode cM_perform 247 = .ok (.iand, 1) := by decide +kernel
theorem dM_perform_248 : decode cM_perform 248 = .ok (.iastore, 1) := by decide +kernel
theorem dM_perform_249 : decode cM_perform 249 = .ok (.aload_n 0, 1) := by decide +kernel
theorem dM_perform_250 : decode cM_perform 250 = .ok (.getfield 26, 3) := by decide +kernel
theorem dM_perform_253 : decode cM_perform 253 = .ok (.bipush 10, 2) := by decide +kernel
theorem dM_perform_255 : decode cM_perform 255 = .ok (.aload_n 0, 1) := by decide +kernel
theorem dM_perform_256 : decode cM_perform 256 = .ok (.getfield 26, 3) := by decide +kernel
theorem dM_perform_259 : decode cM_perform 259 = .ok (.iload_n 3, 1) := by decide +kernel
theorem dM_perform_260 : decode cM_perform 260 = .ok (.iaload, 1) := by decide +kernel
theorem dM_perform_261 : decode cM_perform 261 = .ok (.ifCond .ne 7, 3) := by decide +kernel
theorem dM_perform_264 : decode cM_perform 264 = .ok (.iconst 1, 1) := by decide +kernel
theorem dM_perform_265 : decode cM_perform 265 = .ok (.goto 4, 3) := by decide +kernel
theorem dM_perform_268 : decode cM_perform 268 = .ok (.iconst 0, 1) := by decide +kernel
theorem dM_perform_269 : decode cM_perform 269 = .ok (.iastore, 1) := by decide +kernel
theorem dM_perform_270 : decode cM_perform 270 = .ok (.goto 195, 3) := by decide +kernel
theorem dM_perform_273 : decode cM_perform 273 = .ok (.aload_n 0, 1) := by decide +kernel
theorem dM_perform_274 : decode cM_perform 274 = .ok (.getfield 26, 3) := by decide +kernel
theorem dM_perform_277 : decode cM_perform 277 = .ok (.iload_n 3, 1) := by decide +kernel
theorem dM_perform_278 : decode cM_perform 278 = .ok (.aload_n 0, 1) := by decide +kernel
theorem dM_perform_279 : decode cM_perform 279 = .ok (.aload_n 0, 1) := by decide +kernel
theorem dM_perform_280 : decode cM_perform 280 = .ok (.getfield 26, 3) := by decide +kernel
theorem dM_perform_283 : decode cM_perform 283 = .ok (.iload 4, 2) := by decide +kernel
theorem dM_perform_285 : decode cM_perform 285 = .ok (.iaload, 1) := by decide +kernel
theorem dM_perform_286 : decode cM_perform 286 = .ok (.iload_n 1, 1) := by decide +kernel
theorem dM_perform_287 : decode cM_perform 287 = .ok (.bipush 63, 2) := by decide +kernel
theorem dM_perform_289 : decode cM_perform 289 = .ok (.iand, 1) := by decide +kernel
theorem dM_perform_290 : decode cM_perform 290 = .ok (.iadd, 1) := by decide +kernel
theorem dM_perform_291 : decode cM_perform 291 = .ok (.invokevirtual 84, 3) := by decide +kernel
theorem dM_perform_294 : decode cM_perform 294 = .ok (.iastore, 1) := by decide +kernel
theorem dM_perform_295 : decode cM_perform 295 = .ok (.goto 170, 3) := by decide +kernel
theorem dM_perform_298 : decode cM_perform 298 = .ok (.aload_n 0, 1) := by decide +kernel
theorem dM_perform_299 : decode cM_perform 299 = .ok (.aload_n 0, 1) := by decide +kernel
theorem dM_perform_300 : decode cM_perform 300 = .ok (.getfield 26, 3) := by decide +kernel
theorem dM_perform_303 : decode cM_perform 303 = .ok (.iload 4, 2) := by decide +kernel
theorem dM_perform_305 : decode cM_perform 305 = .ok (.iaload, 1) := by decide +kernel
theorem dM_perform_306 : decode cM_perform 306 = .ok (.iload_n 1, 1) := by decide +kernel
theorem dM_perform_307 : decode cM_perform 307 = .ok (.bipush 63, 2) := by decide +kernel
theorem dM_perform_309 : decode cM_perform 309 = .ok (.iand, 1) := by decide +kernel
theorem dM_perform_310 : decode cM_perform 310 = .ok (.iadd, 1) := by decide +kernel
theorem dM_perform_311 : decode cM_perform 311 = .ok (.aload_n 0, 1) := by decide +kernel
theorem dM_perform_312 : decode cM_perform 312 = .ok (.getfield 26, 3) := by decide +kernel
theorem dM_perform_315 : decode cM_perform 315 = .ok (.iload_n 3, 1) := by decide +kernel
theorem dM_perform_316 : decode cM_perform 316 = .ok (.iaload, 1) := by decide +kernel
theorem dM_perform_317 : decode cM_perform 317 = .ok (.invokevirtual 80, 3) := by decide +kernel
theorem dM_perform_320 : decode cM_perform 320 = .ok (.goto 145, 3) := by decide +kernel
theorem dM_perform_323 : decode cM_perform 323 = .ok (.aload_n 0, 1) := by decide +kernel
theorem dM_perform_324 : decode cM_perform 324 = .ok (.aload_n 0, 1) := by decide +kernel
theorem dM_perform_325 : decode cM_perform 325 = .ok (.getfield 26, 3) := by decide +kernel
theorem dM_perform_328 : decode cM_perform 328 = .ok (.iload_n 3, 1) := by decide +kernel
theorem dM_perform_329 : decode cM_perform 329 = .ok (.iaload, 1) := by decide +kernel
theorem dM_perform_330 : decode cM_perform 330 = .ok (.invokevirtual 90, 3) := by decide +kernel
theorem dM_perform_333 : decode cM_perform 333 = .ok (.goto 132, 3) := by decide +kernel
theorem dM_perform_336 : decode cM_perform 336 = .ok (.aload_n 0, 1) := by decide +kernel
theorem dM_perform_337 : decode cM_perform 337 = .ok (.getfield 26, 3) := by decide +kernel
theorem dM_perform_340 : decode cM_perform 340 = .ok (.iload_n 3, 1) := by decide +kernel
theorem dM_perform_341 : decode cM_perform 341 = .ok (.aload_n 0, 1) := by decide +kernel
theorem dM_perform_342 : decode cM_perform 342 = .ok (.invokevirtual 106, 3) := by decide +kernel
theorem dM_perform_345 : decode cM_perform 345 = .ok (.iastore, 1) := by decide +kernel
theorem dM_perform_346 : decode cM_perform 346 = .ok (.goto 119, 3) := by decide +kernel
theorem dM_perform_349 : decode cM_perform 349 = .ok (.aload_n 0, 1) := by decide +kernel
theorem dM_perform_350 : decode cM_perform 350 = .ok (.getfield 26, 3) := by decide +kernel
theorem dM_perform_353 : decode cM_perform 353 = .ok (.bipush 7, 2) := by decide +kernel
theorem dM_perform_355 : decode cM_perform 355 = .ok (.iload_n 1, 1) := by decide +kernel
theorem dM_perform_356 : decode cM_perform 356 = .ok (.sipush 255, 3) := by decide +kernel
theorem dM_perform_359 : decode cM_perform 359 = .ok (.iand, 1) := by decide +kernel
theorem dM_perform_360 : decode cM_perform 360 = .ok (.iastore, 1) := by decide +kernel
theorem dM_perform_361 : decode cM_perform 361 = .ok (.goto 104, 3) := by decide +kernel
theorem dM_perform_364 : decode cM_perform 364 = .ok (.aload_n 0, 1) := by decide +kernel
theorem dM_perform_365 : decode cM_perform 365 = .ok (.getfield 26, 3) := by decide +kernel
theorem dM_perform_368 : decode cM_perform 368 = .ok (.bipush 7, 2) := by decide +kernel
theorem dM_perform_370 : decode cM_perform 370 = .ok (.aload_n 0, 1) := by decide +kernel
theorem dM_perform_371 : decode cM_perform 371 = .ok (.getfield 26, 3) := by decide +kernel
theorem dM_perform_374 : decode cM_perform 374 = .ok (.bipush 10, 2) := by decide +kernel
theorem dM_perform_376 : decode cM_perform 376 = .ok (.iaload, 1) := by decide +kernel
theorem dM_perform_377 : decode cM_perform 377 = .ok (.iconst 1, 1) := by decide +kernel
theorem dM_perform_378 : decode cM_perform 378 = .ok (.if_icmp .ne 11, 3) := by decide +kernel
theorem dM_perform_381 : decode cM_perform 381 = .ok (.iload_n 1, 1) := by decide +kernel
theorem dM_perform_382 : decode cM_perform 382 = .ok (.sipush 255, 3) := by decide +kernel
theorem dM_perform_385 : decode cM_perform 385 = .ok (.iand, 1) := by decide +kernel
theorem dM_perform_386 : decode cM_perform 386 = .ok (.goto 5, 3) := by decide +kernel
theorem dM_perform_389 : decode cM_perform 389 = .ok (.iload 6, 2) := by decide +kernel
theorem dM_perform_391 : decode cM_perform 391 = .ok (.iastore, 1) := by decide +kernel
theorem dM_perform_392 : decode cM_perform 392 = .ok (.goto 73, 3) := by decide +kernel
theorem dM_perform_395 : decode cM_perform 395 = .ok (.aload_n 0, 1) := by decide +kernel
theorem dM_perform_396 : decode cM_perform 396 = .ok (.iload 4, 2) := by decide +kernel
theorem dM_perform_398 : decode cM_perform 398 = .ok (.iload 6, 2) := by decide +kernel
theorem dM_perform_400 : decode cM_perform 400 = .ok (.invokevirtual 118, 3) := by decide +kernel
theorem dM_perform_403 : decode cM_perform 403 = .ok (.goto 62, 3) := by decide +kernel
theorem dM_perform_406 : decode cM_perform 406 = .ok (.goto 59, 3) := by decide +kernel
theorem dM_perform_409 : decode cM_perform 409 = .ok (.aload_n 0, 1) := by decide +kernel
theorem dM_perform_410 : decode cM_perform 410 = .ok (.iload 4, 2) := by decide +kernel
theorem dM_perform_412 : decode cM_perform 412 = .ok (.iload 6, 2) := by decide +kernel
theorem dM_perform_414 : decode cM_perform 414 = .ok (.iconst 0, 1) := by decide +kernel
theorem dM_perform_415 : decode cM_perform 415 = .ok (.invokevirtual 121, 3) := by decide +kernel
theorem dM_perform_418 : decode cM_perform 418 = .ok (.goto 47, 3) := by decide +kernel
theorem dM_perform_421 : decode cM_perform 421 = .ok (.aload_n 0, 1) := by decide +kernel
theorem dM_perform_422 : decode cM_perform 422 = .ok (.iload 4, 2) := by decide +kernel
theorem dM_perform_424 : decode cM_perform 424 = .ok (.iload 6, 2) := by decide +kernel
theorem dM_perform_426 : decode cM_perform 426 = .ok (.iconst 1, 1) := by decide +kernel
theorem dM_perform_427 : decode cM_perform 427 = .ok (.invokevirtual 121, 3) := by decide +kernel
theorem dM_perform_430 : decode cM_perform 430 = .ok (.goto 35, 3) := by decide +kernel
theorem dM_perform_433 : decode cM_perform 433 = .ok (.aload_n 0, 1) := by decide +kernel
theorem dM_perform_434 : decode cM_perform 434 = .ok (.invokevirtual 125, 3) := by decide +kernel
theorem dM_perform_437 : decode cM_perform 437 = .ok (.goto 28, 3) := by decide +kernel
theorem dM_perform_440 : decode cM_perform 440 = .ok (.aload_n 0, 1) := by decide +kernel
theorem dM_perform_441 : decode cM_perform 441 = .ok (.dup, 1) := by decide +kernel
theorem dM_perform_442 : decode cM_perform 442 = .ok (.getfield 55, 3) := by decide +kernel
theorem dM_perform_445 : decode cM_perform 445 = .ok (.iconst 1, 1) := by decide +kernel
theorem dM_perform_446 : decode cM_perform 446 = .ok (.iconst 3, 1) := by decide +kernel
theorem dM_perform_447 : decode cM_perform 447 = .ok (.iload 5, 2) := by decide +kernel
theorem dM_perform_449 : decode cM_perform 449 = .ok (.iconst 4, 1) := by decide +kernel
theorem dM_perform_450 : decode cM_perform 450 = .ok (.irem, 1) := by decide +kernel
theorem dM_perform_451 : decode cM_perform 451 = .ok (.iadd, 1) := by decide +kernel
theorem dM_perform_452 : decode cM_perform 452 = .ok (.ishl, 1) := by decide +kernel
theorem dM_perform_453 : decode cM_perform 453 = .ok (.ior, 1) := by decide +kernel
theorem dM_perform_454 : decode cM_perform 454 = .ok (.putfield 55, 3) := by decide +kernel
theorem dM_perform_457 : decode cM_perform 457 = .ok (.goto 8, 3) := by decide +kernel
theorem dM_perform_460 : decode cM_perform 460 = .ok (.aload_n 0, 1) := by decide +kernel
theorem dM_perform_461 : decode cM_perform 461 = .ok (.iconst 1, 1) := by decide +kernel
theorem dM_perform_462 : decode cM_perform 462 = .ok (.putfield 49, 3) := by decide +kernel
theorem dM_perform_465 : decode cM_perform 465 = .ok (.return_, 1) := by decide +kernel
theorem dM_call_0 : decode cM_call 0 = .ok (.aload_n 0, 1) := by decide +kernel
theorem dM_call_1 : decode cM_call 1 = .ok (.getfield 26, 3) := by decide +kernel
theorem dM_call_4 : decode cM_call 4 = .ok (.iload_n 1, 1) := by decide +kernel
theorem dM_call_5 : decode cM_call 5 = .ok (.iaload, 1) := by decide +kernel
theorem dM_call_6 : decode cM_call 6 = .ok (.sipush 255, 3) := by decide +kernel
theorem dM_call_9 : decode cM_call 9 = .ok (.iand, 1) := by decide +kernel
theorem dM_call_10 : decode cM_call 10 = .ok (.istore_n 3, 1) := by decide +kernel
theorem dM_call_11 : decode cM_call 11 = .ok (.aload_n 0, 1) := by decide +kernel
theorem dM_call_12 : decode cM_call 12 = .ok (.getfield 26, 3) := by decide +kernel
theorem dM_call_15 : decode cM_call 15 = .ok (.bipush 6, 2) := by decide +kernel
theorem dM_call_17 : decode cM_call 17 = .ok (.iload_n 2, 1) := by decide +kernel
theorem dM_call_18 : decode cM_call 18 = .ok (.iastore, 1) := by decide +kernel
theorem dM_call_19 : decode cM_call 19 = .ok (.aload_n 0, 1) := by decide +kernel
theorem dM_call_20 : decode cM_call 20 = .ok (.getfield 26, 3) := by decide +kernel
theorem dM_call_23 : decode cM_call 23 = .ok (.bipush 7, 2) := by decide +kernel
theorem dM_call_25 : decode cM_call 25 = .ok (.iload_n 3, 1) := by decide +kernel
theorem dM_call_26 : decode cM_call 26 = .ok (.iastore, 1) := by decide +kernel
theorem dM_call_27 : decode cM_call 27 = .ok (.return_, 1) := by decide +kernel
theorem dM_instruction_0 : decode cM_instruction 0 = .ok (.aload_n 0, 1) := by decide +kernel
theorem dM_instruction_1 : decode cM_instruction 1 = .ok (.invokevirtual 87, 3) := by decide +kernel
theorem dM_instruction_4 : decode cM_instruction 4 = .ok (.aload_n 0, 1) := by decide +kernel
theorem dM_instruction_5 : decode cM_instruction 5 = .ok (.getfield 7, 3) := by decide +kernel
theorem dM_instruction_8 : decode cM_instruction 8 = .ok (.aload_n 0, 1) := by decide +kernel
theorem dM_instruction_9 : decode cM_instruction 9 = .ok (.getfield 26, 3) := by decide +kernel
theorem dM_instruction_12 : decode cM_instruction 12 = .ok (.bipush 7, 2) := by decide +kernel
theorem dM_instruction_14 : decode cM_instruction 14 = .ok (.iaload, 1) := by decide +kernel
theorem dM_instruction_15 : decode cM_instruction 15 = .ok (.iaload, 1) := by decide +kernel
theorem dM_instruction_16 : decode cM_instruction 16 = .ok (.istore_n 1, 1) := by decide +kernel
theorem dM_instruction_17 : decode cM_instruction 17 = .ok (.aload_n 0, 1) := by decide +kernel
theorem dM_instruction_18 : decode cM_instruction 18 = .ok (.aload_n 0, 1) := by decide +kernel
theorem dM_instruction_19 : decode cM_instruction 19 = .ok (.getfield 26, 3) := by decide +kernel
theorem dM_instruction_22 : decode cM_instruction 22 = .ok (.bipush 7, 2) := by decide +kernel
theorem dM_instruction_24 : decode cM_instruction 24 = .ok (.iaload, 1) := by decide +kernel
theorem dM_instruction_25 : decode cM_instruction 25 = .ok (.invokevirtual 65, 3) := by decide +kernel
theorem dM_instruction_28 : decode cM_instruction 28 = .ok (.istore_n 2, 1) := by decide +kernel
theorem dM_instruction_29 : decode cM_instruction 29 = .ok (.aload_n 0, 1) := by decide +kernel
theorem dM_instruction_30 : decode cM_instruction 30 = .ok (.invokevirtual 61, 3) := by decide +kernel
theorem dM_instruction_33 : decode cM_instruction 33 = .ok (.ifCond .eq 21, 3) := by decide +kernel
theorem dM_instruction_36 : decode cM_instruction 36 = .ok (.iload_n 2, 1) := by decide +kernel
theorem dM_instruction_37 : decode cM_instruction 37 = .ok (.iconst 2, 1) := by decide +kernel
theorem dM_instruction_38 : decode cM_instruction 38 = .ok (.if_icmp .ne 16, 3) := by decide +kernel
theorem dM_instruction_41 : decode cM_instruction 41 = .ok (.iload_n 1, 1) := by decide +kernel
theorem dM_instruction_42 : decode cM_instruction 42 = .ok (.bipush 12, 2) := by decide +kernel
theorem dM_instruction_44 : decode cM_instruction 44 = .ok (.ishr, 1) := by decide +kernel
theorem dM_instruction_45 : decode cM_instruction 45 = .ok (.bipush 10, 2) := by decide +kernel
theorem dM_instruction_47 : decode cM_instruction 47 = .ok (.if_icmp .ne 7, 3) := by decide +kernel
theorem dM_instruction_50 : decode cM_instruction 50 = .ok (.iconst 1, 1) := by decide +kernel
theorem dM_instruction_51 : decode cM_instruction 51 = .ok (.goto 4, 3) := by decide +kernel
theorem dM_instruction_54 : decode cM_instruction 54 = .ok (.iconst 0, 1) := by decide +kernel
theorem dM_instruction_55 : decode cM_instruction 55 = .ok (.istore_n 3, 1) := by decide +kernel
theorem dM_instruction_56 : decode cM_instruction 56 = .ok (.aload_n 0, 1) := by decide +kernel
theorem dM_instruction_57 : decode cM_instruction 57 = .ok (.invokevirtual 61, 3) := by decide +kernel
theorem dM_instruction_60 : decode cM_instruction 60 = .ok (.ifCond .eq 20, 3) := by decide +kernel
theorem dM_instruction_63 : decode cM_instruction 63 = .ok (.iload_n 2, 1) := by decide +kernel
theorem dM_instruction_64 : decode cM_instruction 64 = .ok (.iconst 1, 1) := by decide +kernel
theorem dM_instruction_65 : decode cM_instruction 65 = .ok (.if_icmp .eq 7, 3) := by decide +kernel
theorem dM_instruction_68 : decode cM_instruction 68 = .ok (.iload_n 3, 1) := by decide +kernel
theorem dM_instruction_69 : decode cM_instruction 69 = .ok (.ifCond .eq 7, 3) := by decide +kernel
theorem dM_instruction_72 : decode cM_instruction 72 = .ok (.iconst 1, 1) := by decide +kernel
theorem dM_instruction_73 : decode cM_instruction 73 = .ok (.goto 17, 3) := by decide +kernel
theorem dM_instruction_76 : decode cM_instruction 76 = .ok (.iconst 0, 1) := by decide +kernel
theorem dM_instruction_77 : decode cM_instruction 77 = .ok (.goto 13, 3) := by decide +kernel
theorem dM_instruction_80 : decode cM_instruction 80 = .ok (.iload_n 2, 1) := by decide +kernel
theorem dM_instruction_81 : decode cM_instruction 81 = .ok (.iconst 1, 1) := by decide +kernel
theorem dM_instruction_82 : decode cM_instruction 82 = .ok (.if_icmp .eq 7, 3) := by decide +kernel
theorem dM_instruction_85 : decode cM_instruction 85 = .ok (.iconst 1, 1) := by decide +kernel
theorem dM_instruction_86 : decode cM_instruction 86 = .ok (.goto 4, 3) := by decide +kernel
theorem dM_instruction_89 : decode cM_instruction 89 = .ok (.iconst 0, 1) := by decide +kernel
theorem dM_instruction_90 : decode cM_instruction 90 = .ok (.istore 4, 2) := by decide +kernel
theorem dM_instruction_92 : decode cM_instruction 92 = .ok (.iload_n 3, 1) := by decide +kernel
theorem dM_instruction_93 : decode cM_instruction 93 = .ok (.ifCond .eq 23, 3) := by decide +kernel
theorem dM_instruction_96 : decode cM_instruction 96 = .ok (.aload_n 0, 1) := by decide +kernel
theorem dM_instruction_97 : decode cM_instruction 97 = .ok (.getfield 26, 3) := by decide +kernel
theorem dM_instruction_100 : decode cM_instruction 100 = .ok (.bipush 11, 2) := by decide +kernel
theorem dM_instruction_102 : decode cM_instruction 102 = .ok (.iconst 0, 1) := by decide +kernel
theorem dM_instruction_103 : decode cM_instruction 103 = .ok (.iastore, 1) := by decide +kernel
theorem dM_instruction_104 : decode cM_instruction 104 = .ok (.aload_n 0, 1) := by decide +kernel
theorem dM_instruction_105 : decode cM_instruction 105 = .ok (.getfield 26, 3) := by decide +kernel
theorem dM_instruction_108 : decode cM_instruction 108 = .ok (.bipush 6, 2) := by decide +kernel
theorem dM_instruction_110 : decode cM_instruction 110 = .ok (.dup2, 1) := by decide +kernel
theorem dM_instruction_111 : decode cM_instruction 111 = .ok (.iaload, 1) := by decide +kernel
theorem dM_instruction_112 : decode cM_instruction 112 = .ok (.ldc 109, 2) := by decide +kernel
theorem dM_instruction_114 : decode cM_instruction 114 = .ok (.ior, 1) := by decide +kernel
theorem dM_instruction_115 : decode cM_instruction 115 = .ok (.iastore, 1) := by decide +kernel
theorem dM_instruction_116 : decode cM_instruction 116 = .ok (.iload 4, 2) := by decide +kernel
theorem dM_instruction_118 : decode cM_instruction 118 = .ok (.ifCond .eq 11, 3) := by decide +kernel
theorem dM_instruction_121 : decode cM_instruction 121 = .ok (.aload_n 0, 1) := by decide +kernel
theorem dM_instruction_122 : decode cM_instruction 122 = .ok (.iload_n 1, 1) := by decide +kernel
theorem dM_instruction_123 : decode cM_instruction 123 = .ok (.invokevirtual 128, 3) := by decide +kernel
theorem dM_instruction_126 : decode cM_instruction 126 = .ok (.goto 8, 3) := by decide +kernel
theorem dM_instruction_129 : decode cM_instruction 129 = .ok (.aload_n 0, 1) := by decide +kernel
theorem dM_instruction_130 : decode cM_instruction 130 = .ok (.iconst 2, 1) := by decide +kernel
theorem dM_instruction_131 : decode cM_instruction 131 = .ok (.invokevirtual 72, 3) := by decide +kernel
theorem dM_instruction_134 : decode cM_instruction 134 = .ok (.aload_n 0, 1) := by decide +kernel
theorem dM_instruction_135 : decode cM_instruction 135 = .ok (.getfield 58, 3) := by decide +kernel
theorem dM_instruction_138 : decode cM_instruction 138 = .ok (.ifCond .eq 7, 3) := by decide +kernel
theorem dM_instruction_141 : decode cM_instruction 141 = .ok (.aload_n 0, 1) := by decide +kernel
theorem dM_instruction_142 : decode cM_instruction 142 = .ok (.invokevirtual 131, 3) := by decide +kernel
theorem dM_instruction_145 : decode cM_instruction 145 = .ok (.return_, 1) := by decide +kernel
theorem dM_step_0 : decode cM_step 0 = .ok (.iconst 0, 1) := by decide +kernel
theorem dM_step_1 : decode cM_step 1 = .ok (.istore_n 1, 1) := by decide +kernel
theorem dM_step_2 : decode cM_step 2 = .ok (.bipush 6, 2) := by decide +kernel
theorem dM_step_4 : decode cM_step 4 = .ok (.istore_n 2, 1) := by decide +kernel
theorem dM_step_5 : decode cM_step 5 = .ok (.iload_n 2, 1) := by decide +kernel
theorem dM_step_6 : decode cM_step 6 = .ok (.iconst 3, 1) := by decide +kernel
theorem dM_step_7 : decode cM_step 7 = .ok (.if_icmp .lt 42, 3) := by decide +kernel
theorem dM_step_10 : decode cM_step 10 = .ok (.aload_n 0, 1) := by decide +kernel
theorem dM_step_11 : decode cM_step 11 = .ok (.getfield 55, 3) := by decide +kernel
theorem dM_step_14 : decode cM_step 14 = .ok (.iload_n 2, 1) := by decide +kernel
theorem dM_step_15 : decode cM_step 15 = .ok (.ishr, 1) := by decide +kernel
theorem dM_step_16 : decode cM_step 16 = .ok (.iconst 1, 1) := by decide +kernel
theorem dM_step_17 : decode cM_step 17 = .ok (.iand, 1) := by decide +kernel
theorem dM_step_18 : decode cM_step 18 = .ok (.iconst 1, 1) := by decide +kernel
theorem dM_step_19 : decode cM_step 19 = .ok (.if_icmp .ne 22, 3) := by decide +kernel
theorem dM_step_22 : decode cM_step 22 = .ok (.aload_n 0, 1) := by decide +kernel
theorem dM_step_23 : decode cM_step 23 = .ok (.getfield 52, 3) := by decide +kernel
theorem dM_step_26 : decode cM_step 26 = .ok (.ifCond .eq 11, 3) := by decide +kernel
theorem dM_step_29 : decode cM_step 29 = .ok (.iload_n 2, 1) := by decide +kernel
theorem dM_step_30 : decode cM_step 30 = .ok (.aload_n 0, 1) := by decide +kernel
theorem dM_step_31 : decode cM_step 31 = .ok (.getfield 52, 3) := by decide +kernel
theorem dM_step_34 : decode cM_step 34 = .ok (.if_icmp .ge 7, 3) := by decide +kernel
theorem dM_step_37 : decode cM_step 37 = .ok (.iload_n 2, 1) := by decide +kernel
theorem dM_step_38 : decode cM_step 38 = .ok (.goto 4, 3) := by decide +kernel
theorem dM_step_41 : decode cM_step 41 = .ok (.iload_n 1, 1) := by decide +kernel
theorem dM_step_42 : decode cM_step 42 = .ok (.istore_n 1, 1) := by decide +kernel
theorem dM_step_43 : decode cM_step 43 = .ok (.iinc 2 (-1), 3) := by decide +kernel
theorem dM_step_46 : decode cM_step 46 = .ok (.goto (-41), 3) := by decide +kernel
theorem dM_step_49 : decode cM_step 49 = .ok (.iload_n 1, 1) := by decide +kernel
theorem dM_step_50 : decode cM_step 50 = .ok (.ifCond .le 29, 3) := by decide +kernel
theorem dM_step_53 : decode cM_step 53 = .ok (.aload_n 0, 1) := by decide +kernel
theorem dM_step_54 : decode cM_step 54 = .ok (.dup, 1) := by decide +kernel
theorem dM_step_55 : decode cM_step 55 = .ok (.getfield 55, 3) := by decide +kernel
theorem dM_step_58 : decode cM_step 58 = .ok (.iconst 1, 1) := by decide +kernel
theorem dM_step_59 : decode cM_step 59 = .ok (.iload_n 1, 1) := by decide +kernel
theorem dM_step_60 : decode cM_step 60 = .ok (.ishl, 1) := by decide +kernel
theorem dM_step_61 : decode cM_step 61 = .ok (.iconst (-1), 1) := by decide +kernel
theorem dM_step_62 : decode cM_step 62 = .ok (.ixor, 1) := by decide +kernel
theorem dM_step_63 : decode cM_step 63 = .ok (.iand, 1) := by decide +kernel
theorem dM_step_64 : decode cM_step 64 = .ok (.putfield 55, 3) := by decide +kernel
theorem dM_step_67 : decode cM_step 67 = .ok (.aload_n 0, 1) := by decide +kernel
theorem dM_step_68 : decode cM_step 68 = .ok (.iload_n 1, 1) := by decide +kernel
theorem dM_step_69 : decode cM_step 69 = .ok (.aload_n 0, 1) := by decide +kernel
theorem dM_step_70 : decode cM_step 70 = .ok (.getfield 26, 3) := by decide +kernel
theorem dM_step_73 : decode cM_step 73 = .ok (.bipush 7, 2) := by decide +kernel
theorem dM_step_75 : decode cM_step 75 = .ok (.iaload, 1) := by decide +kernel
theorem dM_step_76 : decode cM_step 76 = .ok (.invokevirtual 103, 3) := by decide +kernel
theorem dM_step_79 : decode cM_step 79 = .ok (.aload_n 0, 1) := by decide +kernel
theorem dM_step_80 : decode cM_step 80 = .ok (.getfield 49, 3) := by decide +kernel
theorem dM_step_83 : decode cM_step 83 = .ok (.ifCond .ne 7, 3) := by decide +kernel
theorem dM_step_86 : decode cM_step 86 = .ok (.aload_n 0, 1) := by decide +kernel
theorem dM_step_87 : decode cM_step 87 = .ok (.invokevirtual 134, 3) := by decide +kernel
theorem dM_step_90 : decode cM_step 90 = .ok (.return_, 1) := by decide +kernel
theorem dM_run_0 : decode cM_run 0 = .ok (.iload_n 1, 1) := by decide +kernel
theorem dM_run_1 : decode cM_run 1 = .ok (.ifCond .lt 10, 3) := by decide +kernel
theorem dM_run_4 : decode cM_run 4 = .ok (.iload_n 1, 1) := by decide +kernel
theorem dM_run_5 : decode cM_run 5 = .ok (.sipush 200, 3) := by decide +kernel
theorem dM_run_8 : decode cM_run 8 = .ok (.if_icmp .le 5, 3) := by decide +kernel
theorem dM_run_11 : decode cM_run 11 = .ok (.iconst (-1), 1) := by decide +kernel
theorem dM_run_12 : decode cM_run 12 = .ok (.ireturn, 1) := by decide +kernel
theorem dM_run_13 : decode cM_run 13 = .ok (.iconst 0, 1) := by decide +kernel
theorem dM_run_14 : decode cM_run 14 = .ok (.istore_n 2, 1) := by decide +kernel
theorem dM_run_15 : decode cM_run 15 = .ok (.iload_n 2, 1) := by decide +kernel
theorem dM_run_16 : decode cM_run 16 = .ok (.iload_n 1, 1) := by decide +kernel
theorem dM_run_17 : decode cM_run 17 = .ok (.if_icmp .ge 20, 3) := by decide +kernel
theorem dM_run_20 : decode cM_run 20 = .ok (.aload_n 0, 1) := by decide +kernel
theorem dM_run_21 : decode cM_run 21 = .ok (.getfield 49, 3) := by decide +kernel
theorem dM_run_24 : decode cM_run 24 = .ok (.ifCond .ne 13, 3) := by decide +kernel
theorem dM_run_27 : decode cM_run 27 = .ok (.aload_n 0, 1) := by decide +kernel
theorem dM_run_28 : decode cM_run 28 = .ok (.invokevirtual 137, 3) := by decide +kernel
theorem dM_run_31 : decode cM_run 31 = .ok (.iinc 2 1, 3) := by decide +kernel
theorem dM_run_34 : decode cM_run 34 = .ok (.goto (-19), 3) := by decide +kernel
theorem dM_run_37 : decode cM_run 37 = .ok (.iload_n 2, 1) := by decide +kernel
theorem dM_run_38 : decode cM_run 38 = .ok (.ireturn, 1) := by decide +kernel
theorem dM_word_0 : decode cM_word 0 = .ok (.aload_n 0, 1) := by decide +kernel
theorem dM_word_1 : decode cM_word 1 = .ok (.getfield 7, 3) := by decide +kernel
theorem dM_word_4 : decode cM_word 4 = .ok (.iload_n 1, 1) := by decide +kernel
theorem dM_word_5 : decode cM_word 5 = .ok (.sipush 255, 3) := by decide +kernel
theorem dM_word_8 : decode cM_word 8 = .ok (.iand, 1) := by decide +kernel
theorem dM_word_9 : decode cM_word 9 = .ok (.iaload, 1) := by decide +kernel
theorem dM_word_10 : decode cM_word 10 = .ok (.ireturn, 1) := by decide +kernel
theorem dM_register_0 : decode cM_register 0 = .ok (.iload_n 1, 1) := by decide +kernel
theorem dM_register_1 : decode cM_register 1 = .ok (.ifCond .lt 9, 3) := by decide +kernel
theorem dM_register_4 : decode cM_register 4 = .ok (.iload_n 1, 1) := by decide +kernel
theorem dM_register_5 : decode cM_register 5 = .ok (.bipush 15, 2) := by decide +kernel
theorem dM_register_7 : decode cM_register 7 = .ok (.if_icmp .le 5, 3) := by decide +kernel
theorem dM_register_10 : decode cM_register 10 = .ok (.iconst (-1), 1) := by decide +kernel
theorem dM_register_11 : decode cM_register 11 = .ok (.ireturn, 1) := by decide +kernel
theorem dM_register_12 : decode cM_register 12 = .ok (.iload_n 1, 1) := by decide +kernel
theorem dM_register_13 : decode cM_register 13 = .ok (.bipush 12, 2) := by decide +kernel
theorem dM_register_15 : decode cM_register 15 = .ok (.if_icmp .ge 10, 3) := by decide +kernel
theorem dM_register_18 : decode cM_register 18 = .ok (.aload_n 0, 1) := by decide +kernel
theorem dM_register_19 : decode cM_register 19 = .ok (.getfield 26, 3) := by decide +kernel
theorem dM_register_22 : decode cM_register 22 = .ok (.iload_n 1, 1) := by decide +kernel
theorem dM_register_23 : decode cM_register 23 = .ok (.iaload, 1) := by decide +kernel
theorem dM_register_24 : decode cM_register 24 = .ok (.ireturn, 1) := by decide +kernel
theorem dM_register_25 : decode cM_register 25 = .ok (.iload_n 1, 1) := by decide +kernel
theorem dM_register_26 : decode cM_register 26 = .ok (.bipush 12, 2) := by decide +kernel
theorem dM_register_28 : decode cM_register 28 = .ok (.if_icmp .ne 10, 3) := by decide +kernel
theorem dM_register_31 : decode cM_register 31 = .ok (.aload_n 0, 1) := by decide +kernel
theorem dM_register_32 : decode cM_register 32 = .ok (.getfield 52, 3) := by decide +kernel
theorem dM_register_35 : decode cM_register 35 = .ok (.goto 33, 3) := by decide +kernel
theorem dM_register_38 : decode cM_register 38 = .ok (.iload_n 1, 1) := by decide +kernel
theorem dM_register_39 : decode cM_register 39 = .ok (.bipush 13, 2) := by decide +kernel
theorem dM_register_41 : decode cM_register 41 = .ok (.if_icmp .ne 10, 3) := by decide +kernel
theorem dM_register_44 : decode cM_register 44 = .ok (.aload_n 0, 1) := by decide +kernel
theorem dM_register_45 : decode cM_register 45 = .ok (.getfield 49, 3) := by decide +kernel
theorem dM_register_48 : decode cM_register 48 = .ok (.goto 20, 3) := by decide +kernel
theorem dM_register_51 : decode cM_register 51 = .ok (.iload_n 1, 1) := by decide +kernel
theorem dM_register_52 : decode cM_register 52 = .ok (.bipush 14, 2) := by decide +kernel
theorem dM_register_54 : decode cM_register 54 = .ok (.if_icmp .ne 10, 3) := by decide +kernel
theorem dM_register_57 : decode cM_register 57 = .ok (.aload_n 0, 1) := by decide +kernel
theorem dM_register_58 : decode cM_register 58 = .ok (.getfield 55, 3) := by decide +kernel
theorem dM_register_61 : decode cM_register 61 = .ok (.goto 7, 3) := by decide +kernel
theorem dM_register_64 : decode cM_register 64 = .ok (.aload_n 0, 1) := by decide +kernel
theorem dM_register_65 : decode cM_register 65 = .ok (.getfield 100, 3) := by decide +kernel
theorem dM_register_68 : decode cM_register 68 = .ok (.ireturn, 1) := by decide +kernel
theorem dM_kind_0 : decode cM_kind 0 = .ok (.aload_n 0, 1) := by decide +kernel
theorem dM_kind_1 : decode cM_kind 1 = .ok (.iload_n 1, 1) := by decide +kernel
theorem dM_kind_2 : decode cM_kind 2 = .ok (.invokevirtual 65, 3) := by decide +kernel
theorem dM_kind_5 : decode cM_kind 5 = .ok (.ireturn, 1) := by decide +kernel
