theorem dK_init_0 : decode cK_init 0 = .ok (.aload_n 0, 1) := by decide +kernel
theorem dK_init_1 : decode cK_init 1 = .ok (.invokespecial 1, 3) := by decide +kernel
theorem dK_init_4 : decode cK_init 4 = .ok (.aload_n 0, 1) := by decide +kernel
theorem dK_init_5 : decode cK_init 5 = .ok (.sipush 256, 3) := by decide +kernel
theorem dK_init_8 : decode cK_init 8 = .ok (.newarray .int, 2) := by decide +kernel
theorem dK_init_10 : decode cK_init 10 = .ok (.putfield 9, 3) := by decide +kernel
theorem dK_init_13 : decode cK_init 13 = .ok (.aload_n 0, 1) := by decide +kernel
theorem dK_init_14 : decode cK_init 14 = .ok (.sipush 256, 3) := by decide +kernel
theorem dK_init_17 : decode cK_init 17 = .ok (.newarray .int, 2) := by decide +kernel
theorem dK_init_19 : decode cK_init 19 = .ok (.putfield 13, 3) := by decide +kernel
theorem dK_init_22 : decode cK_init 22 = .ok (.aload_n 0, 1) := by decide +kernel
theorem dK_init_23 : decode cK_init 23 = .ok (.iconst 4, 1) := by decide +kernel
theorem dK_init_24 : decode cK_init 24 = .ok (.newarray .int, 2) := by decide +kernel
theorem dK_init_26 : decode cK_init 26 = .ok (.putfield 16, 3) := by decide +kernel
theorem dK_init_29 : decode cK_init 29 = .ok (.aload_n 0, 1) := by decide +kernel
theorem dK_init_30 : decode cK_init 30 = .ok (.iconst 4, 1) := by decide +kernel
theorem dK_init_31 : decode cK_init 31 = .ok (.newarray .int, 2) := by decide +kernel
theorem dK_init_33 : decode cK_init 33 = .ok (.putfield 19, 3) := by decide +kernel
theorem dK_init_36 : decode cK_init 36 = .ok (.aload_n 0, 1) := by decide +kernel
theorem dK_init_37 : decode cK_init 37 = .ok (.iconst 4, 1) := by decide +kernel
theorem dK_init_38 : decode cK_init 38 = .ok (.newarray .int, 2) := by decide +kernel
theorem dK_init_40 : decode cK_init 40 = .ok (.putfield 22, 3) := by decide +kernel
theorem dK_init_43 : decode cK_init 43 = .ok (.aload_n 0, 1) := by decide +kernel
theorem dK_init_44 : decode cK_init 44 = .ok (.new 25, 3) := by decide +kernel
theorem dK_init_47 : decode cK_init 47 = .ok (.dup, 1) := by decide +kernel
theorem dK_init_48 : decode cK_init 48 = .ok (.invokespecial 27, 3) := by decide +kernel
theorem dK_init_51 : decode cK_init 51 = .ok (.putfield 28, 3) := by decide +kernel
theorem dK_init_54 : decode cK_init 54 = .ok (.aload_n 0, 1) := by decide +kernel
theorem dK_init_55 : decode cK_init 55 = .ok (.new 25, 3) := by decide +kernel
theorem dK_init_58 : decode cK_init 58 = .ok (.dup, 1) := by decide +kernel
theorem dK_init_59 : decode cK_init 59 = .ok (.invokespecial 27, 3) := by decide +kernel
theorem dK_init_62 : decode cK_init 62 = .ok (.putfield 32, 3) := by decide +kernel
theorem dK_init_65 : decode cK_init 65 = .ok (.aload_n 0, 1) := by decide +kernel
theorem dK_init_66 : decode cK_init 66 = .ok (.iconst 1, 1) := by decide +kernel
theorem dK_init_67 : decode cK_init 67 = .ok (.putfield 35, 3) := by decide +kernel
theorem dK_init_70 : decode cK_init 70 = .ok (.return_, 1) := by decide +kernel
theorem dK_poke_0 : decode cK_poke 0 = .ok (.iload_n 1, 1) := by decide +kernel
theorem dK_poke_1 : decode cK_poke 1 = .ok (.sipush 255, 3) := by decide +kernel
theorem dK_poke_4 : decode cK_poke 4 = .ok (.iand, 1) := by decide +kernel
theorem dK_poke_5 : decode cK_poke 5 = .ok (.istore_n 3, 1) := by decide +kernel
theorem dK_poke_6 : decode cK_poke 6 = .ok (.aload_n 0, 1) := by decide +kernel
theorem dK_poke_7 : decode cK_poke 7 = .ok (.getfield 9, 3) := by decide +kernel
theorem dK_poke_10 : decode cK_poke 10 = .ok (.iload_n 3, 1) := by decide +kernel
theorem dK_poke_11 : decode cK_poke 11 = .ok (.iaload, 1) := by decide +kernel
theorem dK_poke_12 : decode cK_poke 12 = .ok (.istore 4, 2) := by decide +kernel
theorem dK_poke_14 : decode cK_poke 14 = .ok (.aload_n 0, 1) := by decide +kernel
theorem dK_poke_15 : decode cK_poke 15 = .ok (.getfield 9, 3) := by decide +kernel
theorem dK_poke_18 : decode cK_poke 18 = .ok (.iload_n 3, 1) := by decide +kernel
theorem dK_poke_19 : decode cK_poke 19 = .ok (.iload_n 2, 1) := by decide +kernel
theorem dK_poke_20 : decode cK_poke 20 = .ok (.ldc 39, 2) := by decide +kernel
theorem dK_poke_22 : decode cK_poke 22 = .ok (.iand, 1) := by decide +kernel
theorem dK_poke_23 : decode cK_poke 23 = .ok (.iastore, 1) := by decide +kernel
theorem dK_poke_24 : decode cK_poke 24 = .ok (.iload 4, 2) := by decide +kernel
theorem dK_poke_26 : decode cK_poke 26 = .ok (.ireturn, 1) := by decide +kernel
theorem dK_fill_0 : decode cK_fill 0 = .ok (.iload_n 1, 1) := by decide +kernel
theorem dK_fill_1 : decode cK_fill 1 = .ok (.ifCond .lt 10, 3) := by decide +kernel
theorem dK_fill_4 : decode cK_fill 4 = .ok (.iload_n 1, 1) := by decide +kernel
theorem dK_fill_5 : decode cK_fill 5 = .ok (.sipush 252, 3) := by decide +kernel
theorem dK_fill_8 : decode cK_fill 8 = .ok (.if_icmp .le 5, 3) := by decide +kernel
theorem dK_fill_11 : decode cK_fill 11 = .ok (.iconst 0, 1) := by decide +kernel
theorem dK_fill_12 : decode cK_fill 12 = .ok (.ireturn, 1) := by decide +kernel
theorem dK_fill_13 : decode cK_fill 13 = .ok (.iconst 0, 1) := by decide +kernel
theorem dK_fill_14 : decode cK_fill 14 = .ok (.istore 4, 2) := by decide +kernel
theorem dK_fill_16 : decode cK_fill 16 = .ok (.iload 4, 2) := by decide +kernel
theorem dK_fill_18 : decode cK_fill 18 = .ok (.iconst 4, 1) := by decide +kernel
theorem dK_fill_19 : decode cK_fill 19 = .ok (.if_icmp .ge 29, 3) := by decide +kernel
theorem dK_fill_22 : decode cK_fill 22 = .ok (.aload_n 0, 1) := by decide +kernel
theorem dK_fill_23 : decode cK_fill 23 = .ok (.getfield 9, 3) := by decide +kernel
theorem dK_fill_26 : decode cK_fill 26 = .ok (.iload_n 1, 1) := by decide +kernel
theorem dK_fill_27 : decode cK_fill 27 = .ok (.iload 4, 2) := by decide +kernel
theorem dK_fill_29 : decode cK_fill 29 = .ok (.iadd, 1) := by decide +kernel
theorem dK_fill_30 : decode cK_fill 30 = .ok (.lload_n 2, 1) := by decide +kernel
theorem dK_fill_31 : decode cK_fill 31 = .ok (.bipush 16, 2) := by decide +kernel
theorem dK_fill_33 : decode cK_fill 33 = .ok (.iload 4, 2) := by decide +kernel
theorem dK_fill_35 : decode cK_fill 35 = .ok (.imul, 1) := by decide +kernel
theorem dK_fill_36 : decode cK_fill 36 = .ok (.lushr, 1) := by decide +kernel
theorem dK_fill_37 : decode cK_fill 37 = .ok (.l2i, 1) := by decide +kernel
theorem dK_fill_38 : decode cK_fill 38 = .ok (.ldc 39, 2) := by decide +kernel
theorem dK_fill_40 : decode cK_fill 40 = .ok (.iand, 1) := by decide +kernel
theorem dK_fill_41 : decode cK_fill 41 = .ok (.iastore, 1) := by decide +kernel
theorem dK_fill_42 : decode cK_fill 42 = .ok (.iinc 4 1, 3) := by decide +kernel
theorem dK_fill_45 : decode cK_fill 45 = .ok (.goto (-29), 3) := by decide +kernel
theorem dK_fill_48 : decode cK_fill 48 = .ok (.iconst 1, 1) := by decide +kernel
theorem dK_fill_49 : decode cK_fill 49 = .ok (.ireturn, 1) := by decide +kernel
theorem dK_region_0 : decode cK_region 0 = .ok (.iload_n 1, 1) := by decide +kernel
theorem dK_region_1 : decode cK_region 1 = .ok (.ifCond .lt 19, 3) := by decide +kernel
theorem dK_region_4 : decode cK_region 4 = .ok (.iload_n 1, 1) := by decide +kernel
theorem dK_region_5 : decode cK_region 5 = .ok (.iconst 4, 1) := by decide +kernel
theorem dK_region_6 : decode cK_region 6 = .ok (.if_icmp .ge 14, 3) := by decide +kernel
theorem dK_region_9 : decode cK_region 9 = .ok (.iload 4, 2) := by decide +kernel
theorem dK_region_11 : decode cK_region 11 = .ok (.ifCond .lt 9, 3) := by decide +kernel
theorem dK_region_14 : decode cK_region 14 = .ok (.iload 4, 2) := by decide +kernel
theorem dK_region_16 : decode cK_region 16 = .ok (.iconst 2, 1) := by decide +kernel
theorem dK_region_17 : decode cK_region 17 = .ok (.if_icmp .le 5, 3) := by decide +kernel
theorem dK_region_20 : decode cK_region 20 = .ok (.iconst 0, 1) := by decide +kernel
theorem dK_region_21 : decode cK_region 21 = .ok (.ireturn, 1) := by decide +kernel
theorem dK_region_22 : decode cK_region 22 = .ok (.iload_n 2, 1) := by decide +kernel
theorem dK_region_23 : decode cK_region 23 = .ok (.invokestatic 40, 3) := by decide +kernel
theorem dK_region_26 : decode cK_region 26 = .ok (.ifCond .eq 10, 3) := by decide +kernel
theorem dK_region_29 : decode cK_region 29 = .ok (.iload_n 3, 1) := by decide +kernel
theorem dK_region_30 : decode cK_region 30 = .ok (.invokestatic 40, 3) := by decide +kernel
theorem dK_region_33 : decode cK_region 33 = .ok (.ifCond .ne 5, 3) := by decide +kernel
theorem dK_region_36 : decode cK_region 36 = .ok (.iconst 0, 1) := by decide +kernel
theorem dK_region_37 : decode cK_region 37 = .ok (.ireturn, 1) := by decide +kernel
theorem dK_region_38 : decode cK_region 38 = .ok (.aload_n 0, 1) := by decide +kernel
theorem dK_region_39 : decode cK_region 39 = .ok (.getfield 16, 3) := by decide +kernel
theorem dK_region_42 : decode cK_region 42 = .ok (.iload_n 1, 1) := by decide +kernel
theorem dK_region_43 : decode cK_region 43 = .ok (.iload_n 2, 1) := by decide +kernel
theorem dK_region_44 : decode cK_region 44 = .ok (.iastore, 1) := by decide +kernel
theorem dK_region_45 : decode cK_region 45 = .ok (.aload_n 0, 1) := by decide +kernel
theorem dK_region_46 : decode cK_region 46 = .ok (.getfield 19, 3) := by decide +kernel
theorem dK_region_49 : decode cK_region 49 = .ok (.iload_n 1, 1) := by decide +kernel
theorem dK_region_50 : decode cK_region 50 = .ok (.iload_n 3, 1) := by decide +kernel
theorem dK_region_51 : decode cK_region 51 = .ok (.iastore, 1) := by decide +kernel
theorem dK_region_52 : decode cK_region 52 = .ok (.aload_n 0, 1) := by decide +kernel
theorem dK_region_53 : decode cK_region 53 = .ok (.getfield 22, 3) := by decide +kernel
theorem dK_region_56 : decode cK_region 56 = .ok (.iload_n 1, 1) := by decide +kernel
theorem dK_region_57 : decode cK_region 57 = .ok (.iload 4, 2) := by decide +kernel
theorem dK_region_59 : decode cK_region 59 = .ok (.iastore, 1) := by decide +kernel
theorem dK_region_60 : decode cK_region 60 = .ok (.iconst 0, 1) := by decide +kernel
theorem dK_region_61 : decode cK_region 61 = .ok (.istore 5, 2) := by decide +kernel
theorem dK_region_63 : decode cK_region 63 = .ok (.iload 5, 2) := by decide +kernel
theorem dK_region_65 : decode cK_region 65 = .ok (.sipush 256, 3) := by decide +kernel
theorem dK_region_68 : decode cK_region 68 = .ok (.if_icmp .ge 22, 3) := by decide +kernel
theorem dK_region_71 : decode cK_region 71 = .ok (.aload_n 0, 1) := by decide +kernel
theorem dK_region_72 : decode cK_region 72 = .ok (.getfield 13, 3) := by decide +kernel
theorem dK_region_75 : decode cK_region 75 = .ok (.iload 5, 2) := by decide +kernel
theorem dK_region_77 : decode cK_region 77 = .ok (.aload_n 0, 1) := by decide +kernel
theorem dK_region_78 : decode cK_region 78 = .ok (.iload 5, 2) := by decide +kernel
theorem dK_region_80 : decode cK_region 80 = .ok (.invokevirtual 44, 3) := by decide +kernel
theorem dK_region_83 : decode cK_region 83 = .ok (.iastore, 1) := by decide +kernel
theorem dK_region_84 : decode cK_region 84 = .ok (.iinc 5 1, 3) := by decide +kernel
theorem dK_region_87 : decode cK_region 87 = .ok (.goto (-24), 3) := by decide +kernel
theorem dK_region_90 : decode cK_region 90 = .ok (.iconst 1, 1) := by decide +kernel
theorem dK_region_91 : decode cK_region 91 = .ok (.ireturn, 1) := by decide +kernel
theorem dK_settings_0 : decode cK_settings 0 = .ok (.iload_n 2, 1) := by decide +kernel
theorem dK_settings_1 : decode cK_settings 1 = .ok (.ifCond .lt 24, 3) := by decide +kernel
theorem dK_settings_4 : decode cK_settings 4 = .ok (.iload_n 2, 1) := by decide +kernel
theorem dK_settings_5 : decode cK_settings 5 = .ok (.bipush 15, 2) := by decide +kernel
theorem dK_settings_7 : decode cK_settings 7 = .ok (.if_icmp .gt 18, 3) := by decide +kernel
theorem dK_settings_10 : decode cK_settings 10 = .ok (.iload_n 3, 1) := by decide +kernel
theorem dK_settings_11 : decode cK_settings 11 = .ok (.invokestatic 48, 3) := by decide +kernel
theorem dK_settings_14 : decode cK_settings 14 = .ok (.ifCond .eq 11, 3) := by decide +kernel
theorem dK_settings_17 : decode cK_settings 17 = .ok (.iload 4, 2) := by decide +kernel
theorem dK_settings_19 : decode cK_settings 19 = .ok (.invokestatic 48, 3) := by decide +kernel
theorem dK_settings_22 : decode cK_settings 22 = .ok (.ifCond .ne 5, 3) := by decide +kernel
theorem dK_settings_25 : decode cK_settings 25 = .ok (.iconst 0, 1) := by decide +kernel
theorem dK_settings_26 : decode cK_settings 26 = .ok (.ireturn, 1) := by decide +kernel
theorem dK_settings_27 : decode cK_settings 27 = .ok (.aload_n 0, 1) := by decide +kernel
theorem dK_settings_28 : decode cK_settings 28 = .ok (.iload_n 1, 1) := by decide +kernel
theorem dK_settings_29 : decode cK_settings 29 = .ok (.putfield 35, 3) := by decide +kernel
theorem dK_settings_32 : decode cK_settings 32 = .ok (.aload_n 0, 1) := by decide +kernel
theorem dK_settings_33 : decode cK_settings 33 = .ok (.iload_n 2, 1) := by decide +kernel
theorem dK_settings_34 : decode cK_settings 34 = .ok (.putfield 51, 3) := by decide +kernel
theorem dK_settings_37 : decode cK_settings 37 = .ok (.aload_n 0, 1) := by decide +kernel
theorem dK_settings_38 : decode cK_settings 38 = .ok (.iload_n 3, 1) := by decide +kernel
theorem dK_settings_39 : decode cK_settings 39 = .ok (.putfield 55, 3) := by decide +kernel
theorem dK_settings_42 : decode cK_settings 42 = .ok (.aload_n 0, 1) := by decide +kernel
theorem dK_settings_43 : decode cK_settings 43 = .ok (.iload 4, 2) := by decide +kernel
theorem dK_settings_45 : decode cK_settings 45 = .ok (.putfield 58, 3) := by decide +kernel
theorem dK_settings_48 : decode cK_settings 48 = .ok (.iconst 1, 1) := by decide +kernel
theorem dK_settings_49 : decode cK_settings 49 = .ok (.ireturn, 1) := by decide +kernel
theorem dK_begin_0 : decode cK_begin 0 = .ok (.iload_n 1, 1) := by decide +kernel
theorem dK_begin_1 : decode cK_begin 1 = .ok (.invokestatic 40, 3) := by decide +kernel
theorem dK_begin_4 : decode cK_begin 4 = .ok (.ifCond .ne 5, 3) := by decide +kernel
theorem dK_begin_7 : decode cK_begin 7 = .ok (.iconst 0, 1) := by decide +kernel
theorem dK_begin_8 : decode cK_begin 8 = .ok (.ireturn, 1) := by decide +kernel
theorem dK_begin_9 : decode cK_begin 9 = .ok (.aload_n 0, 1) := by decide +kernel
theorem dK_begin_10 : decode cK_begin 10 = .ok (.getfield 28, 3) := by decide +kernel
theorem dK_begin_13 : decode cK_begin 13 = .ok (.iload_n 1, 1) := by decide +kernel
theorem dK_begin_14 : decode cK_begin 14 = .ok (.putfield 61, 3) := by decide +kernel
theorem dK_begin_17 : decode cK_begin 17 = .ok (.aload_n 0, 1) := by decide +kernel
theorem dK_begin_18 : decode cK_begin 18 = .ok (.getfield 28, 3) := by decide +kernel
theorem dK_begin_21 : decode cK_begin 21 = .ok (.iload_n 2, 1) := by decide +kernel
theorem dK_begin_22 : decode cK_begin 22 = .ok (.putfield 64, 3) := by decide +kernel
theorem dK_begin_25 : decode cK_begin 25 = .ok (.aload_n 0, 1) := by decide +kernel
theorem dK_begin_26 : decode cK_begin 26 = .ok (.getfield 28, 3) := by decide +kernel
theorem dK_begin_29 : decode cK_begin 29 = .ok (.iload_n 3, 1) := by decide +kernel
theorem dK_begin_30 : decode cK_begin 30 = .ok (.ldc 39, 2) := by decide +kernel
theorem dK_begin_32 : decode cK_begin 32 = .ok (.iand, 1) := by decide +kernel
theorem dK_begin_33 : decode cK_begin 33 = .ok (.putfield 67, 3) := by decide +kernel
theorem dK_begin_36 : decode cK_begin 36 = .ok (.aload_n 0, 1) := by decide +kernel
theorem dK_begin_37 : decode cK_begin 37 = .ok (.getfield 28, 3) := by decide +kernel
theorem dK_begin_40 : decode cK_begin 40 = .ok (.iload 4, 2) := by decide +kernel
theorem dK_begin_42 : decode cK_begin 42 = .ok (.ldc 39, 2) := by decide +kernel
theorem dK_begin_44 : decode cK_begin 44 = .ok (.iand, 1) := by decide +kernel
theorem dK_begin_45 : decode cK_begin 45 = .ok (.putfield 70, 3) := by decide +kernel
theorem dK_begin_48 : decode cK_begin 48 = .ok (.aload_n 0, 1) := by decide +kernel
theorem dK_begin_49 : decode cK_begin 49 = .ok (.getfield 28, 3) := by decide +kernel
theorem dK_begin_52 : decode cK_begin 52 = .ok (.iconst 0, 1) := by decide +kernel
theorem dK_begin_53 : decode cK_begin 53 = .ok (.putfield 73, 3) := by decide +kernel
theorem dK_begin_56 : decode cK_begin 56 = .ok (.aload_n 0, 1) := by decide +kernel
theorem dK_begin_57 : decode cK_begin 57 = .ok (.iconst 0, 1) := by decide +kernel
theorem dK_begin_58 : decode cK_begin 58 = .ok (.putfield 76, 3) := by decide +kernel
theorem dK_begin_61 : decode cK_begin 61 = .ok (.aload_n 0, 1) := by decide +kernel
theorem dK_begin_62 : decode cK_begin 62 = .ok (.iconst 0, 1) := by decide +kernel
theorem dK_begin_63 : decode cK_begin 63 = .ok (.putfield 79, 3) := by decide +kernel
theorem dK_begin_66 : decode cK_begin 66 = .ok (.iconst 1, 1) := by decide +kernel
theorem dK_begin_67 : decode cK_begin 67 = .ok (.ireturn, 1) := by decide +kernel
theorem dK_set_0 : decode cK_set 0 = .ok (.iload_n 1, 1) := by decide +kernel
theorem dK_set_1 : decode cK_set 1 = .ok (.ifCond .lt 9, 3) := by decide +kernel
theorem dK_set_4 : decode cK_set 4 = .ok (.iload_n 1, 1) := by decide +kernel
theorem dK_set_5 : decode cK_set 5 = .ok (.bipush 6, 2) := by decide +kernel
theorem dK_set_7 : decode cK_set 7 = .ok (.if_icmp .le 5, 3) := by decide +kernel
theorem dK_set_10 : decode cK_set 10 = .ok (.iconst 0, 1) := by decide +kernel
theorem dK_set_11 : decode cK_set 11 = .ok (.ireturn, 1) := by decide +kernel
theorem dK_set_12 : decode cK_set 12 = .ok (.aload_n 0, 1) := by decide +kernel
theorem dK_set_13 : decode cK_set 13 = .ok (.getfield 28, 3) := by decide +kernel
theorem dK_set_16 : decode cK_set 16 = .ok (.getfield 82, 3) := by decide +kernel
theorem dK_set_19 : decode cK_set 19 = .ok (.iload_n 1, 1) := by decide +kernel
theorem dK_set_20 : decode cK_set 20 = .ok (.iload_n 2, 1) := by decide +kernel
theorem dK_set_21 : decode cK_set 21 = .ok (.ldc 39, 2) := by decide +kernel
theorem dK_set_23 : decode cK_set 23 = .ok (.iand, 1) := by decide +kernel
theorem dK_set_24 : decode cK_set 24 = .ok (.iastore, 1) := by decide +kernel
theorem dK_set_25 : decode cK_set 25 = .ok (.iconst 1, 1) := by decide +kernel
theorem dK_set_26 : decode cK_set 26 = .ok (.ireturn, 1) := by decide +kernel
theorem dK_interrupt_0 : decode cK_interrupt 0 = .ok (.iload_n 1, 1) := by decide +kernel
theorem dK_interrupt_1 : decode cK_interrupt 1 = .ok (.iconst 3, 1) := by decide +kernel
theorem dK_interrupt_2 : decode cK_interrupt 2 = .ok (.if_icmp .lt 9, 3) := by decide +kernel
theorem dK_interrupt_5 : decode cK_interrupt 5 = .ok (.iload_n 1, 1) := by decide +kernel
theorem dK_interrupt_6 : decode cK_interrupt 6 = .ok (.bipush 6, 2) := by decide +kernel
theorem dK_interrupt_8 : decode cK_interrupt 8 = .ok (.if_icmp .le 5, 3) := by decide +kernel
theorem dK_interrupt_11 : decode cK_interrupt 11 = .ok (.iconst 0, 1) := by decide +kernel
theorem dK_interrupt_12 : decode cK_interrupt 12 = .ok (.ireturn, 1) := by decide +kernel
theorem dK_interrupt_13 : decode cK_interrupt 13 = .ok (.aload_n 0, 1) := by decide +kernel
theorem dK_interrupt_14 : decode cK_interrupt 14 = .ok (.dup, 1) := by decide +kernel
theorem dK_interrupt_15 : decode cK_interrupt 15 = .ok (.getfield 79, 3) := by decide +kernel
theorem dK_interrupt_18 : decode cK_interrupt 18 = .ok (.iconst 1, 1) := by decide +kernel
theorem dK_interrupt_19 : decode cK_interrupt 19 = .ok (.iload_n 1, 1) := by decide +kernel
theorem dK_interrupt_20 : decode cK_interrupt 20 = .ok (.ishl, 1) := by decide +kernel
theorem dK_interrupt_21 : decode cK_interrupt 21 = .ok (.ior, 1) := by decide +kernel
theorem dK_interrupt_22 : decode cK_interrupt 22 = .ok (.putfield 79, 3) := by decide +kernel
theorem dK_interrupt_25 : decode cK_interrupt 25 = .ok (.iconst 1, 1) := by decide +kernel
theorem dK_interrupt_26 : decode cK_interrupt 26 = .ok (.ireturn, 1) := by decide +kernel
theorem dK_run_0 : decode cK_run 0 = .ok (.iload_n 1, 1) := by decide +kernel
theorem dK_run_1 : decode cK_run 1 = .ok (.ifCond .lt 10, 3) := by decide +kernel
theorem dK_run_4 : decode cK_run 4 = .ok (.iload_n 1, 1) := by decide +kernel
theorem dK_run_5 : decode cK_run 5 = .ok (.sipush 200, 3) := by decide +kernel
theorem dK_run_8 : decode cK_run 8 = .ok (.if_icmp .le 5, 3) := by decide +kernel
theorem dK_run_11 : decode cK_run 11 = .ok (.iconst (-1), 1) := by decide +kernel
theorem dK_run_12 : decode cK_run 12 = .ok (.ireturn, 1) := by decide +kernel
theorem dK_run_13 : decode cK_run 13 = .ok (.iconst 0, 1) := by decide +kernel
theorem dK_run_14 : decode cK_run 14 = .ok (.istore_n 2, 1) := by decide +kernel
theorem dK_run_15 : decode cK_run 15 = .ok (.iload_n 2, 1) := by decide +kernel
theorem dK_run_16 : decode cK_run 16 = .ok (.iload_n 1, 1) := by decide +kernel
theorem dK_run_17 : decode cK_run 17 = .ok (.if_icmp .ge 20, 3) := by decide +kernel
theorem dK_run_20 : decode cK_run 20 = .ok (.aload_n 0, 1) := by decide +kernel
theorem dK_run_21 : decode cK_run 21 = .ok (.getfield 76, 3) := by decide +kernel
theorem dK_run_24 : decode cK_run 24 = .ok (.ifCond .ne 13, 3) := by decide +kernel
theorem dK_run_27 : decode cK_run 27 = .ok (.aload_n 0, 1) := by decide +kernel
theorem dK_run_28 : decode cK_run 28 = .ok (.invokevirtual 85, 3) := by decide +kernel
theorem dK_run_31 : decode cK_run 31 = .ok (.iinc 2 1, 3) := by decide +kernel
theorem dK_run_34 : decode cK_run 34 = .ok (.goto (-19), 3) := by decide +kernel
theorem dK_run_37 : decode cK_run 37 = .ok (.iload_n 2, 1) := by decide +kernel
theorem dK_run_38 : decode cK_run 38 = .ok (.ireturn, 1) := by decide +kernel
theorem dK_word_0 : decode cK_word 0 = .ok (.aload_n 0, 1) := by decide +kernel
theorem dK_word_1 : decode cK_word 1 = .ok (.getfield 9, 3) := by decide +kernel
theorem dK_word_4 : decode cK_word 4 = .ok (.iload_n 1, 1) := by decide +kernel
theorem dK_word_5 : decode cK_word 5 = .ok (.sipush 255, 3) := by decide +kernel
theorem dK_word_8 : decode cK_word 8 = .ok (.iand, 1) := by decide +kernel
theorem dK_word_9 : decode cK_word 9 = .ok (.iaload, 1) := by decide +kernel
theorem dK_word_10 : decode cK_word 10 = .ok (.ireturn, 1) := by decide +kernel
theorem dK_register_0 : decode cK_register 0 = .ok (.iload_n 1, 1) := by decide +kernel
theorem dK_register_1 : decode cK_register 1 = .ok (.ifCond .lt 19, 3) := by decide +kernel
theorem dK_register_4 : decode cK_register 4 = .ok (.iload_n 1, 1) := by decide +kernel
theorem dK_register_5 : decode cK_register 5 = .ok (.bipush 6, 2) := by decide +kernel
theorem dK_register_7 : decode cK_register 7 = .ok (.if_icmp .gt 13, 3) := by decide +kernel
theorem dK_register_10 : decode cK_register 10 = .ok (.aload_n 0, 1) := by decide +kernel
theorem dK_register_11 : decode cK_register 11 = .ok (.getfield 28, 3) := by decide +kernel
theorem dK_register_14 : decode cK_register 14 = .ok (.getfield 82, 3) := by decide +kernel
theorem dK_register_17 : decode cK_register 17 = .ok (.iload_n 1, 1) := by decide +kernel
theorem dK_register_18 : decode cK_register 18 = .ok (.iaload, 1) := by decide +kernel
theorem dK_register_19 : decode cK_register 19 = .ok (.ireturn, 1) := by decide +kernel
theorem dK_register_20 : decode cK_register 20 = .ok (.iload_n 1, 1) := by decide +kernel
theorem dK_register_21 : decode cK_register 21 = .ok (.tableswitch 130 7 15 #[51, 59, 67, 75, 91, 107, 115, 120, 125], 51) := by decide +kernel
theorem dK_register_72 : decode cK_register 72 = .ok (.aload_n 0, 1) := by decide +kernel
theorem dK_register_73 : decode cK_register 73 = .ok (.getfield 28, 3) := by decide +kernel
theorem dK_register_76 : decode cK_register 76 = .ok (.getfield 61, 3) := by decide +kernel
theorem dK_register_79 : decode cK_register 79 = .ok (.ireturn, 1) := by decide +kernel
theorem dK_register_80 : decode cK_register 80 = .ok (.aload_n 0, 1) := by decide +kernel
theorem dK_register_81 : decode cK_register 81 = .ok (.getfield 28, 3) := by decide +kernel
theorem dK_register_84 : decode cK_register 84 = .ok (.getfield 67, 3) := by decide +kernel
theorem dK_register_87 : decode cK_register 87 = .ok (.ireturn, 1) := by decide +kernel
theorem dK_register_88 : decode cK_register 88 = .ok (.aload_n 0, 1) := by decide +kernel
theorem dK_register_89 : decode cK_register 89 = .ok (.getfield 28, 3) := by decide +kernel
theorem dK_register_92 : decode cK_register 92 = .ok (.getfield 70, 3) := by decide +kernel
theorem dK_register_95 : decode cK_register 95 = .ok (.ireturn, 1) := by decide +kernel
theorem dK_register_96 : decode cK_register 96 = .ok (.aload_n 0, 1) := by decide +kernel
theorem dK_register_97 : decode cK_register 97 = .ok (.getfield 28, 3) := by decide +kernel
theorem dK_register_100 : decode cK_register 100 = .ok (.getfield 88, 3) := by decide +kernel
theorem dK_register_103 : decode cK_register 103 = .ok (.ifCond .eq 7, 3) := by decide +kernel
theorem dK_register_106 : decode cK_register 106 = .ok (.iconst 1, 1) := by decide +kernel
theorem dK_register_107 : decode cK_register 107 = .ok (.goto 4, 3) := by decide +kernel
theorem dK_register_110 : decode cK_register 110 = .ok (.iconst 0, 1) := by decide +kernel
theorem dK_register_111 : decode cK_register 111 = .ok (.ireturn, 1) := by decide +kernel
theorem dK_register_112 : decode cK_register 112 = .ok (.aload_n 0, 1) := by decide +kernel
theorem dK_register_113 : decode cK_register 113 = .ok (.getfield 28, 3) := by decide +kernel
theorem dK_register_116 : decode cK_register 116 = .ok (.getfield 64, 3) := by decide +kernel
theorem dK_register_119 : decode cK_register 119 = .ok (.ifCond .eq 7, 3) := by decide +kernel
theorem dK_register_122 : decode cK_register 122 = .ok (.iconst 1, 1) := by decide +kernel
theorem dK_register_123 : decode cK_register 123 = .ok (.goto 4, 3) := by decide +kernel
theorem dK_register_126 : decode cK_register 126 = .ok (.iconst 0, 1) := by decide +kernel
theorem dK_register_127 : decode cK_register 127 = .ok (.ireturn, 1) := by decide +kernel
theorem dK_register_128 : decode cK_register 128 = .ok (.aload_n 0, 1) := by decide +kernel
theorem dK_register_129 : decode cK_register 129 = .ok (.getfield 28, 3) := by decide +kernel
theorem dK_register_132 : decode cK_register 132 = .ok (.getfield 73, 3) := by decide +kernel
theorem dK_register_135 : decode cK_register 135 = .ok (.ireturn, 1) := by decide +kernel
theorem dK_register_136 : decode cK_register 136 = .ok (.aload_n 0, 1) := by decide +kernel
theorem dK_register_137 : decode cK_register 137 = .ok (.getfield 76, 3) := by decide +kernel
theorem dK_register_140 : decode cK_register 140 = .ok (.ireturn, 1) := by decide +kernel
theorem dK_register_141 : decode cK_register 141 = .ok (.aload_n 0, 1) := by decide +kernel
theorem dK_register_142 : decode cK_register 142 = .ok (.getfield 79, 3) := by decide +kernel
theorem dK_register_145 : decode cK_register 145 = .ok (.ireturn, 1) := by decide +kernel
theorem dK_register_146 : decode cK_register 146 = .ok (.aload_n 0, 1) := by decide +kernel
theorem dK_register_147 : decode cK_register 147 = .ok (.getfield 91, 3) := by decide +kernel
theorem dK_register_150 : decode cK_register 150 = .ok (.ireturn, 1) := by decide +kernel
theorem dK_register_151 : decode cK_register 151 = .ok (.iconst (-1), 1) := by decide +kernel
theorem dK_register_152 : decode cK_register 152 = .ok (.ireturn, 1) := by decide +kernel
theorem dK_kind_0 : decode cK_kind 0 = .ok (.aload_n 0, 1) := by decide +kernel
theorem dK_kind_1 : decode cK_kind 1 = .ok (.getfield 13, 3) := by decide +kernel
theorem dK_kind_4 : decode cK_kind 4 = .ok (.iload_n 1, 1) := by decide +kernel
theorem dK_kind_5 : decode cK_kind 5 = .ok (.sipush 255, 3) := by decide +kernel
theorem dK_kind_8 : decode cK_kind 8 = .ok (.iand, 1) := by decide +kernel
theorem dK_kind_9 : decode cK_kind 9 = .ok (.iaload, 1) := by decide +kernel
theorem dK_kind_10 : decode cK_kind 10 = .ok (.ireturn, 1) := by decide +kernel
theorem dK_isAddress_0 : decode cK_isAddress 0 = .ok (.iload_n 0, 1) := by decide +kernel
theorem dK_isAddress_1 : decode cK_isAddress 1 = .ok (.ifCond .lt 14, 3) := by decide +kernel
theorem dK_isAddress_4 : decode cK_isAddress 4 = .ok (.iload_n 0, 1) := by decide +kernel
theorem dK_isAddress_5 : decode cK_isAddress 5 = .ok (.sipush 256, 3) := by decide +kernel
theorem dK_isAddress_8 : decode cK_isAddress 8 = .ok (.if_icmp .ge 7, 3) := by decide +kernel
theorem dK_isAddress_11 : decode cK_isAddress 11 = .ok (.iconst 1, 1) := by decide +kernel
theorem dK_isAddress_12 : decode cK_isAddress 12 = .ok (.goto 4, 3) := by decide +kernel
theorem dK_isAddress_15 : decode cK_isAddress 15 = .ok (.iconst 0, 1) := by decide +kernel
theorem dK_isAddress_16 : decode cK_isAddress 16 = .ok (.ireturn, 1) := by decide +kernel
theorem dK_isBase_0 : decode cK_isBase 0 = .ok (.iload_n 0, 1) := by decide +kernel
theorem dK_isBase_1 : decode cK_isBase 1 = .ok (.ifCond .lt 13, 3) := by decide +kernel
theorem dK_isBase_4 : decode cK_isBase 4 = .ok (.iload_n 0, 1) := by decide +kernel
theorem dK_isBase_5 : decode cK_isBase 5 = .ok (.bipush 31, 2) := by decide +kernel
theorem dK_isBase_7 : decode cK_isBase 7 = .ok (.if_icmp .gt 7, 3) := by decide +kernel
theorem dK_isBase_10 : decode cK_isBase 10 = .ok (.iconst 1, 1) := by decide +kernel
theorem dK_isBase_11 : decode cK_isBase 11 = .ok (.goto 4, 3) := by decide +kernel
theorem dK_isBase_14 : decode cK_isBase 14 = .ok (.iconst 0, 1) := by decide +kernel
theorem dK_isBase_15 : decode cK_isBase 15 = .ok (.ireturn, 1) := by decide +kernel
theorem dK_kindByRegions_0 : decode cK_kindByRegions 0 = .ok (.iconst 0, 1) := by decide +kernel
theorem dK_kindByRegions_1 : decode cK_kindByRegions 1 = .ok (.istore_n 2, 1) := by decide +kernel
theorem dK_kindByRegions_2 : decode cK_kindByRegions 2 = .ok (.iconst 0, 1) := by decide +kernel
theorem dK_kindByRegions_3 : decode cK_kindByRegions 3 = .ok (.istore_n 3, 1) := by decide +kernel
theorem dK_kindByRegions_4 : decode cK_kindByRegions 4 = .ok (.iconst 0, 1) := by decide +kernel
theorem dK_kindByRegions_5 : decode cK_kindByRegions 5 = .ok (.istore 4, 2) := by decide +kernel
theorem dK_kindByRegions_7 : decode cK_kindByRegions 7 = .ok (.iload 4, 2) := by decide +kernel
theorem dK_kindByRegions_9 : decode cK_kindByRegions 9 = .ok (.iconst 4, 1) := by decide +kernel
theorem dK_kindByRegions_10 : decode cK_kindByRegions 10 = .ok (.if_icmp .ge 52, 3) := by decide +kernel
theorem dK_kindByRegions_13 : decode cK_kindByRegions 13 = .ok (.aload_n 0, 1) := by decide +kernel
theorem dK_kindByRegions_14 : decode cK_kindByRegions 14 = .ok (.getfield 22, 3) := by decide +kernel
theorem dK_kindByRegions_17 : decode cK_kindByRegions 17 = .ok (.iload 4, 2) := by decide +kernel
theorem dK_kindByRegions_19 : decode cK_kindByRegions 19 = .ok (.iaload, 1) := by decide +kernel
theorem dK_kindByRegions_20 : decode cK_kindByRegions 20 = .ok (.ifCond .eq 36, 3) := by decide +kernel
theorem dK_kindByRegions_23 : decode cK_kindByRegions 23 = .ok (.aload_n 0, 1) := by decide +kernel
theorem dK_kindByRegions_24 : decode cK_kindByRegions 24 = .ok (.getfield 16, 3) := by decide +kernel
theorem dK_kindByRegions_27 : decode cK_kindByRegions 27 = .ok (.iload 4, 2) := by decide +kernel
theorem dK_kindByRegions_29 : decode cK_kindByRegions 29 = .ok (.iaload, 1) := by decide +kernel
theorem dK_kindByRegions_30 : decode cK_kindByRegions 30 = .ok (.iload_n 1, 1) := by decide +kernel
theorem dK_kindByRegions_31 : decode cK_kindByRegions 31 = .ok (.if_icmp .gt 25, 3) := by decide +kernel
theorem dK_kindByRegions_34 : decode cK_kindByRegions 34 = .ok (.iload_n 1, 1) := by decide +kernel
theorem dK_kindByRegions_35 : decode cK_kindByRegions 35 = .ok (.aload_n 0, 1) := by decide +kernel
theorem dK_kindByRegions_36 : decode cK_kindByRegions 36 = .ok (.getfield 19, 3) := by decide +kernel
theorem dK_kindByRegions_39 : decode cK_kindByRegions 39 = .ok (.iload 4, 2) := by decide +kernel
theorem dK_kindByRegions_41 : decode cK_kindByRegions 41 = .ok (.iaload, 1) := by decide +kernel
theorem dK_kindByRegions_42 : decode cK_kindByRegions 42 = .ok (.if_icmp .gt 14, 3) := by decide +kernel
theorem dK_kindByRegions_45 : decode cK_kindByRegions 45 = .ok (.aload_n 0, 1) := by decide +kernel
theorem dK_kindByRegions_46 : decode cK_kindByRegions 46 = .ok (.getfield 22, 3) := by decide +kernel
theorem dK_kindByRegions_49 : decode cK_kindByRegions 49 = .ok (.iload 4, 2) := by decide +kernel
theorem dK_kindByRegions_51 : decode cK_kindByRegions 51 = .ok (.iaload, 1) := by decide +kernel
theorem dK_kindByRegions_52 : decode cK_kindByRegions 52 = .ok (.istore_n 2, 1) := by decide +kernel
theorem dK_kindByRegions_53 : decode cK_kindByRegions 53 = .ok (.iinc 3 1, 3) := by decide +kernel
theorem dK_kindByRegions_56 : decode cK_kindByRegions 56 = .ok (.iinc 4 1, 3) := by decide +kernel
theorem dK_kindByRegions_59 : decode cK_kindByRegions 59 = .ok (.goto (-52), 3) := by decide +kernel
theorem dK_kindByRegions_62 : decode cK_kindByRegions 62 = .ok (.iload_n 3, 1) := by decide +kernel
theorem dK_kindByRegions_63 : decode cK_kindByRegions 63 = .ok (.iconst 1, 1) := by decide +kernel
theorem dK_kindByRegions_64 : decode cK_kindByRegions 64 = .ok (.if_icmp .ne 7, 3) := by decide +kernel
theorem dK_kindByRegions_67 : decode cK_kindByRegions 67 = .ok (.iload_n 2, 1) := by decide +kernel
theorem dK_kindByRegions_68 : decode cK_kindByRegions 68 = .ok (.goto 4, 3) := by decide +kernel
theorem dK_kindByRegions_71 : decode cK_kindByRegions 71 = .ok (.iconst 0, 1) := by decide +kernel
theorem dK_kindByRegions_72 : decode cK_kindByRegions 72 = .ok (.ireturn, 1) := by decide +kernel
theorem dK_step_0 : decode cK_step 0 = .ok (.aload_n 0, 1) := by decide +kernel
theorem dK_step_1 : decode cK_step 1 = .ok (.invokevirtual 94, 3) := by decide +kernel
theorem dK_step_4 : decode cK_step 4 = .ok (.aload_n 0, 1) := by decide +kernel
theorem dK_step_5 : decode cK_step 5 = .ok (.getfield 76, 3) := by decide +kernel
theorem dK_step_8 : decode cK_step 8 = .ok (.ifCond .eq 4, 3) := by decide +kernel
theorem dK_step_11 : decode cK_step 11 = .ok (.return_, 1) := by decide +kernel
theorem dK_step_12 : decode cK_step 12 = .ok (.aload_n 0, 1) := by decide +kernel
theorem dK_step_13 : decode cK_step 13 = .ok (.getfield 32, 3) := by decide +kernel
theorem dK_step_16 : decode cK_step 16 = .ok (.aload_n 0, 1) := by decide +kernel
theorem dK_step_17 : decode cK_step 17 = .ok (.getfield 28, 3) := by decide +kernel
theorem dK_step_20 : decode cK_step 20 = .ok (.invokevirtual 97, 3) := by decide +kernel
theorem dK_step_23 : decode cK_step 23 = .ok (.aload_n 0, 1) := by decide +kernel
theorem dK_step_24 : decode cK_step 24 = .ok (.iconst 0, 1) := by decide +kernel
theorem dK_step_25 : decode cK_step 25 = .ok (.putfield 101, 3) := by decide +kernel
theorem dK_step_28 : decode cK_step 28 = .ok (.aload_n 0, 1) := by decide +kernel
theorem dK_step_29 : decode cK_step 29 = .ok (.invokevirtual 104, 3) := by decide +kernel
theorem dK_step_32 : decode cK_step 32 = .ok (.istore_n 1, 1) := by decide +kernel
theorem dK_step_33 : decode cK_step 33 = .ok (.aload_n 0, 1) := by decide +kernel
theorem dK_step_34 : decode cK_step 34 = .ok (.getfield 101, 3) := by decide +kernel
theorem dK_step_37 : decode cK_step 37 = .ok (.ifCond .ne 16, 3) := by decide +kernel
theorem dK_step_40 : decode cK_step 40 = .ok (.aload_n 0, 1) := by decide +kernel
theorem dK_step_41 : decode cK_step 41 = .ok (.iload_n 1, 1) := by decide +kernel
theorem dK_step_42 : decode cK_step 42 = .ok (.invokevirtual 108, 3) := by decide +kernel
theorem dK_step_45 : decode cK_step 45 = .ok (.ifCond .eq 8, 3) := by decide +kernel
theorem dK_step_48 : decode cK_step 48 = .ok (.aload_n 0, 1) := by decide +kernel
theorem dK_step_49 : decode cK_step 49 = .ok (.iconst 1, 1) := by decide +kernel
theorem dK_step_50 : decode cK_step 50 = .ok (.putfield 101, 3) := by decide +kernel
theorem dK_step_53 : decode cK_step 53 = .ok (.aload_n 0, 1) := by decide +kernel
theorem dK_step_54 : decode cK_step 54 = .ok (.getfield 101, 3) := by decide +kernel
theorem dK_step_57 : decode cK_step 57 = .ok (.ifCond .ne 38, 3) := by decide +kernel
theorem dK_step_60 : decode cK_step 60 = .ok (.aload_n 0, 1) := by decide +kernel
theorem dK_step_61 : decode cK_step 61 = .ok (.aload_n 0, 1) := by decide +kernel
theorem dK_step_62 : decode cK_step 62 = .ok (.getfield 28, 3) := by decide +kernel
theorem dK_step_65 : decode cK_step 65 = .ok (.getfield 61, 3) := by decide +kernel
theorem dK_step_68 : decode cK_step 68 = .ok (.iconst 1, 1) := by decide +kernel
theorem dK_step_69 : decode cK_step 69 = .ok (.iadd, 1) := by decide +kernel
theorem dK_step_70 : decode cK_step 70 = .ok (.invokevirtual 111, 3) := by decide +kernel
theorem dK_step_73 : decode cK_step 73 = .ok (.iload_n 1, 1) := by decide +kernel
theorem dK_step_74 : decode cK_step 74 = .ok (.bipush 12, 2) := by decide +kernel
theorem dK_step_76 : decode cK_step 76 = .ok (.ishr, 1) := by decide +kernel
theorem dK_step_77 : decode cK_step 77 = .ok (.bipush 6, 2) := by decide +kernel
theorem dK_step_79 : decode cK_step 79 = .ok (.if_icmp .gt 11, 3) := by decide +kernel
theorem dK_step_82 : decode cK_step 82 = .ok (.aload_n 0, 1) := by decide +kernel
theorem dK_step_83 : decode cK_step 83 = .ok (.iload_n 1, 1) := by decide +kernel
theorem dK_step_84 : decode cK_step 84 = .ok (.invokevirtual 115, 3) := by decide +kernel
theorem dK_step_87 : decode cK_step 87 = .ok (.goto 8, 3) := by decide +kernel
theorem dK_step_90 : decode cK_step 90 = .ok (.aload_n 0, 1) := by decide +kernel
theorem dK_step_91 : decode cK_step 91 = .ok (.iload_n 1, 1) := by decide +kernel
theorem dK_step_92 : decode cK_step 92 = .ok (.invokevirtual 118, 3) := by decide +kernel
theorem dK_step_95 : decode cK_step 95 = .ok (.aload_n 0, 1) := by decide +kernel
theorem dK_step_96 : decode cK_step 96 = .ok (.getfield 101, 3) := by decide +kernel
theorem dK_step_99 : decode cK_step 99 = .ok (.ifCond .eq 7, 3) := by decide +kernel
theorem dK_step_102 : decode cK_step 102 = .ok (.aload_n 0, 1) := by decide +kernel
theorem dK_step_103 : decode cK_step 103 = .ok (.invokevirtual 121, 3) := by decide +kernel
theorem dK_step_106 : decode cK_step 106 = .ok (.return_, 1) := by decide +kernel
theorem dK_takePending_0 : decode cK_takePending 0 = .ok (.aload_n 0, 1) := by decide +kernel
theorem dK_takePending_1 : decode cK_takePending 1 = .ok (.getfield 28, 3) := by decide +kernel
theorem dK_takePending_4 : decode cK_takePending 4 = .ok (.getfield 73, 3) := by decide +kernel
theorem dK_takePending_7 : decode cK_takePending 7 = .ok (.ifCond .ne 8, 3) := by decide +kernel
theorem dK_takePending_10 : decode cK_takePending 10 = .ok (.bipush 7, 2) := by decide +kernel
theorem dK_takePending_12 : decode cK_takePending 12 = .ok (.goto 10, 3) := by decide +kernel
theorem dK_takePending_15 : decode cK_takePending 15 = .ok (.aload_n 0, 1) := by decide +kernel
theorem dK_takePending_16 : decode cK_takePending 16 = .ok (.getfield 28, 3) := by decide +kernel
theorem dK_takePending_19 : decode cK_takePending 19 = .ok (.getfield 73, 3) := by decide +kernel
theorem dK_takePending_22 : decode cK_takePending 22 = .ok (.istore_n 1, 1) := by decide +kernel
theorem dK_takePending_23 : decode cK_takePending 23 = .ok (.iconst 3, 1) := by decide +kernel
theorem dK_takePending_24 : decode cK_takePending 24 = .ok (.istore_n 2, 1) := by decide +kernel
theorem dK_takePending_25 : decode cK_takePending 25 = .ok (.iload_n 2, 1) := by decide +kernel
theorem dK_takePending_26 : decode cK_takePending 26 = .ok (.iload_n 1, 1) := by decide +kernel
theorem dK_takePending_27 : decode cK_takePending 27 = .ok (.if_icmp .ge 40, 3) := by decide +kernel
theorem dK_takePending_30 : decode cK_takePending 30 = .ok (.aload_n 0, 1) := by decide +kernel
theorem dK_takePending_31 : decode cK_takePending 31 = .ok (.getfield 79, 3) := by decide +kernel
theorem dK_takePending_34 : decode cK_takePending 34 = .ok (.iload_n 2, 1) := by decide +kernel
theorem dK_takePending_35 : decode cK_takePending 35 = .ok (.ishr, 1) := by decide +kernel
theorem dK_takePending_36 : decode cK_takePending 36 = .ok (.iconst 1, 1) := by decide +kernel
theorem dK_takePending_37 : decode cK_takePending 37 = .ok (.iand, 1) := by decide +kernel
theorem dK_takePending_38 : decode cK_takePending 38 = .ok (.ifCond .eq 23, 3) := by decide +kernel
theorem dK_takePending_41 : decode cK_takePending 41 = .ok (.aload_n 0, 1) := by decide +kernel
theorem dK_takePending_42 : decode cK_takePending 42 = .ok (.dup, 1) := by decide +kernel
theorem dK_takePending_43 : decode cK_takePending 43 = .ok (.getfield 79, 3) := by decide +kernel
theorem dK_takePending_46 : decode cK_takePending 46 = .ok (.iconst 1, 1) := by decide +kernel
theorem dK_takePending_47 : decode cK_takePending 47 = .ok (.iload_n 2, 1) := by decide +kernel
theorem dK_takePending_48 : decode cK_takePending 48 = .ok (.ishl, 1) := by decide +kernel
theorem dK_takePending_49 : decode cK_takePending 49 = .ok (.iconst (-1), 1) := by decide +kernel
theorem dK_takePending_50 : decode cK_takePending 50 = .ok (.ixor, 1) := by decide +kernel
theorem dK_takePending_51 : decode cK_takePending 51 = .ok (.iand, 1) := by decide +kernel
theorem dK_takePending_52 : decode cK_takePending 52 = .ok (.putfield 79, 3) := by decide +kernel
theorem dK_takePending_55 : decode cK_takePending 55 = .ok (.aload_n 0, 1) := by decide +kernel
theorem dK_takePending_56 : decode cK_takePending 56 = .ok (.iload_n 2, 1) := by decide +kernel
theorem dK_takePending_57 : decode cK_takePending 57 = .ok (.invokevirtual 124, 3) := by decide +kernel
theorem dK_takePending_60 : decode cK_takePending 60 = .ok (.return_, 1) := by decide +kernel
theorem dK_takePending_61 : decode cK_takePending 61 = .ok (.iinc 2 1, 3) := by decide +kernel
theorem dK_takePending_64 : decode cK_takePending 64 = .ok (.goto (-39), 3) := by decide +kernel
theorem dK_takePending_67 : decode cK_takePending 67 = .ok (.return_, 1) := by decide +kernel
theorem dK_fetch_0 : decode cK_fetch 0 = .ok (.aload_n 0, 1) := by decide +kernel
theorem dK_fetch_1 : decode cK_fetch 1 = .ok (.getfield 9, 3) := by decide +kernel
theorem dK_fetch_4 : decode cK_fetch 4 = .ok (.aload_n 0, 1) := by decide +kernel
theorem dK_fetch_5 : decode cK_fetch 5 = .ok (.getfield 28, 3) := by decide +kernel
theorem dK_fetch_8 : decode cK_fetch 8 = .ok (.getfield 61, 3) := by decide +kernel
theorem dK_fetch_11 : decode cK_fetch 11 = .ok (.sipush 255, 3) := by decide +kernel
theorem dK_fetch_14 : decode cK_fetch 14 = .ok (.iand, 1) := by decide +kernel
theorem dK_fetch_15 : decode cK_fetch 15 = .ok (.iaload, 1) := by decide +kernel
theorem dK_fetch_16 : decode cK_fetch 16 = .ok (.istore_n 1, 1) := by decide +kernel
theorem dK_fetch_17 : decode cK_fetch 17 = .ok (.aload_n 0, 1) := by decide +kernel
theorem dK_fetch_18 : decode cK_fetch 18 = .ok (.getfield 13, 3) := by decide +kernel
theorem dK_fetch_21 : decode cK_fetch 21 = .ok (.aload_n 0, 1) := by decide +kernel
theorem dK_fetch_22 : decode cK_fetch 22 = .ok (.getfield 28, 3) := by decide +kernel
theorem dK_fetch_25 : decode cK_fetch 25 = .ok (.getfield 61, 3) := by decide +kernel
theorem dK_fetch_28 : decode cK_fetch 28 = .ok (.sipush 255, 3) := by decide +kernel
theorem dK_fetch_31 : decode cK_fetch 31 = .ok (.iand, 1) := by decide +kernel
theorem dK_fetch_32 : decode cK_fetch 32 = .ok (.iaload, 1) := by decide +kernel
theorem dK_fetch_33 : decode cK_fetch 33 = .ok (.istore_n 2, 1) := by decide +kernel
theorem dK_fetch_34 : decode cK_fetch 34 = .ok (.aload_n 0, 1) := by decide +kernel
theorem dK_fetch_35 : decode cK_fetch 35 = .ok (.getfield 28, 3) := by decide +kernel
theorem dK_fetch_38 : decode cK_fetch 38 = .ok (.getfield 64, 3) := by decide +kernel
theorem dK_fetch_41 : decode cK_fetch 41 = .ok (.ifCond .ne 16, 3) := by decide +kernel
theorem dK_fetch_44 : decode cK_fetch 44 = .ok (.iload_n 2, 1) := by decide +kernel
theorem dK_fetch_45 : decode cK_fetch 45 = .ok (.iconst 1, 1) := by decide +kernel
theorem dK_fetch_46 : decode cK_fetch 46 = .ok (.if_icmp .ne 61, 3) := by decide +kernel
theorem dK_fetch_49 : decode cK_fetch 49 = .ok (.aload_n 0, 1) := by decide +kernel
theorem dK_fetch_50 : decode cK_fetch 50 = .ok (.iconst 2, 1) := by decide +kernel
theorem dK_fetch_51 : decode cK_fetch 51 = .ok (.putfield 101, 3) := by decide +kernel
theorem dK_fetch_54 : decode cK_fetch 54 = .ok (.goto 53, 3) := by decide +kernel
theorem dK_fetch_57 : decode cK_fetch 57 = .ok (.iload_n 2, 1) := by decide +kernel
theorem dK_fetch_58 : decode cK_fetch 58 = .ok (.iconst 2, 1) := by decide +kernel
theorem dK_fetch_59 : decode cK_fetch 59 = .ok (.if_icmp .ne 38, 3) := by decide +kernel
theorem dK_fetch_62 : decode cK_fetch 62 = .ok (.iload_n 1, 1) := by decide +kernel
theorem dK_fetch_63 : decode cK_fetch 63 = .ok (.bipush 12, 2) := by decide +kernel
theorem dK_fetch_65 : decode cK_fetch 65 = .ok (.ishr, 1) := by decide +kernel
theorem dK_fetch_66 : decode cK_fetch 66 = .ok (.bipush 10, 2) := by decide +kernel
theorem dK_fetch_68 : decode cK_fetch 68 = .ok (.if_icmp .ne 29, 3) := by decide +kernel
theorem dK_fetch_71 : decode cK_fetch 71 = .ok (.aload_n 0, 1) := by decide +kernel
theorem dK_fetch_72 : decode cK_fetch 72 = .ok (.getfield 28, 3) := by decide +kernel
theorem dK_fetch_75 : decode cK_fetch 75 = .ok (.iconst 0, 1) := by decide +kernel
theorem dK_fetch_76 : decode cK_fetch 76 = .ok (.putfield 64, 3) := by decide +kernel
theorem dK_fetch_79 : decode cK_fetch 79 = .ok (.aload_n 0, 1) := by decide +kernel
theorem dK_fetch_80 : decode cK_fetch 80 = .ok (.getfield 28, 3) := by decide +kernel
theorem dK_fetch_83 : decode cK_fetch 83 = .ok (.getfield 82, 3) := by decide +kernel
theorem dK_fetch_86 : decode cK_fetch 86 = .ok (.bipush 6, 2) := by decide +kernel
theorem dK_fetch_88 : decode cK_fetch 88 = .ok (.dup2, 1) := by decide +kernel
theorem dK_fetch_89 : decode cK_fetch 89 = .ok (.iaload, 1) := by decide +kernel
theorem dK_fetch_90 : decode cK_fetch 90 = .ok (.ldc 127, 2) := by decide +kernel
theorem dK_fetch_92 : decode cK_fetch 92 = .ok (.ior, 1) := by decide +kernel
theorem dK_fetch_93 : decode cK_fetch 93 = .ok (.iastore, 1) := by decide +kernel
theorem dK_fetch_94 : decode cK_fetch 94 = .ok (.goto 13, 3) := by decide +kernel
theorem dK_fetch_97 : decode cK_fetch 97 = .ok (.iload_n 2, 1) := by decide +kernel
theorem dK_fetch_98 : decode cK_fetch 98 = .ok (.iconst 1, 1) := by decide +kernel
theorem dK_fetch_99 : decode cK_fetch 99 = .ok (.if_icmp .eq 8, 3) := by decide +kernel
theorem dK_fetch_102 : decode cK_fetch 102 = .ok (.aload_n 0, 1) := by decide +kernel
theorem dK_fetch_103 : decode cK_fetch 103 = .ok (.iconst 2, 1) := by decide +kernel
theorem dK_fetch_104 : decode cK_fetch 104 = .ok (.putfield 101, 3) := by decide +kernel
theorem dK_fetch_107 : decode cK_fetch 107 = .ok (.iload_n 1, 1) := by decide +kernel
theorem dK_fetch_108 : decode cK_fetch 108 = .ok (.ireturn, 1) := by decide +kernel
theorem dK_isUnknown_0 : decode cK_isUnknown 0 = .ok (.iload_n 1, 1) := by decide +kernel
theorem dK_isUnknown_1 : decode cK_isUnknown 1 = .ok (.bipush 12, 2) := by decide +kernel
theorem dK_isUnknown_3 : decode cK_isUnknown 3 = .ok (.ishr, 1) := by decide +kernel
theorem dK_isUnknown_4 : decode cK_isUnknown 4 = .ok (.bipush 15, 2) := by decide +kernel
theorem dK_isUnknown_6 : decode cK_isUnknown 6 = .ok (.iand, 1) := by decide +kernel
theorem dK_isUnknown_7 : decode cK_isUnknown 7 = .ok (.istore_n 2, 1) := by decide +kernel
theorem dK_isUnknown_8 : decode cK_isUnknown 8 = .ok (.aload_n 0, 1) := by decide +kernel
theorem dK_isUnknown_9 : decode cK_isUnknown 9 = .ok (.getfield 28, 3) := by decide +kernel
theorem dK_isUnknown_12 : decode cK_isUnknown 12 = .ok (.getfield 64, 3) := by decide +kernel
theorem dK_isUnknown_15 : decode cK_isUnknown 15 = .ok (.ifCond .eq 23, 3) := by decide +kernel
theorem dK_isUnknown_18 : decode cK_isUnknown 18 = .ok (.iload_n 2, 1) := by decide +kernel
theorem dK_isUnknown_19 : decode cK_isUnknown 19 = .ok (.bipush 11, 2) := by decide +kernel
theorem dK_isUnknown_21 : decode cK_isUnknown 21 = .ok (.if_icmp .eq 15, 3) := by decide +kernel
theorem dK_isUnknown_24 : decode cK_isUnknown 24 = .ok (.iload_n 2, 1) := by decide +kernel
theorem dK_isUnknown_25 : decode cK_isUnknown 25 = .ok (.bipush 12, 2) := by decide +kernel
theorem dK_isUnknown_27 : decode cK_isUnknown 27 = .ok (.if_icmp .eq 9, 3) := by decide +kernel
theorem dK_isUnknown_30 : decode cK_isUnknown 30 = .ok (.iload_n 2, 1) := by decide +kernel
theorem dK_isUnknown_31 : decode cK_isUnknown 31 = .ok (.bipush 15, 2) := by decide +kernel
theorem dK_isUnknown_33 : decode cK_isUnknown 33 = .ok (.if_icmp .ne 5, 3) := by decide +kernel
theorem dK_isUnknown_36 : decode cK_isUnknown 36 = .ok (.iconst 1, 1) := by decide +kernel
theorem dK_isUnknown_37 : decode cK_isUnknown 37 = .ok (.ireturn, 1) := by decide +kernel
theorem dK_isUnknown_38 : decode cK_isUnknown 38 = .ok (.getstatic 128, 3) := by decide +kernel
theorem dK_isUnknown_41 : decode cK_isUnknown 41 = .ok (.iload_n 2, 1) := by decide +kernel
theorem dK_isUnknown_42 : decode cK_isUnknown 42 = .ok (.iaload, 1) := by decide +kernel
theorem dK_isUnknown_43 : decode cK_isUnknown 43 = .ok (.istore_n 3, 1) := by decide +kernel
theorem dK_isUnknown_44 : decode cK_isUnknown 44 = .ok (.iload_n 3, 1) := by decide +kernel
theorem dK_isUnknown_45 : decode cK_isUnknown 45 = .ok (.iconst 1, 1) := by decide +kernel
theorem dK_isUnknown_46 : decode cK_isUnknown 46 = .ok (.iand, 1) := by decide +kernel
theorem dK_isUnknown_47 : decode cK_isUnknown 47 = .ok (.ifCond .eq 15, 3) := by decide +kernel
theorem dK_isUnknown_50 : decode cK_isUnknown 50 = .ok (.iload_n 1, 1) := by decide +kernel
theorem dK_isUnknown_51 : decode cK_isUnknown 51 = .ok (.bipush 9, 2) := by decide +kernel
theorem dK_isUnknown_53 : decode cK_isUnknown 53 = .ok (.ishr, 1) := by decide +kernel
theorem dK_isUnknown_54 : decode cK_isUnknown 54 = .ok (.bipush 7, 2) := by decide +kernel
theorem dK_isUnknown_56 : decode cK_isUnknown 56 = .ok (.iand, 1) := by decide +kernel
theorem dK_isUnknown_57 : decode cK_isUnknown 57 = .ok (.bipush 7, 2) := by decide +kernel
theorem dK_isUnknown_59 : decode cK_isUnknown 59 = .ok (.if_icmp .eq 38, 3) := by decide +kernel
theorem dK_isUnknown_62 : decode cK_isUnknown 62 = .ok (.iload_n 3, 1) := by decide +kernel
theorem dK_isUnknown_63 : decode cK_isUnknown 63 = .ok (.iconst 2, 1) := by decide +kernel
theorem dK_isUnknown_64 : decode cK_isUnknown 64 = .ok (.iand, 1) := by decide +kernel
theorem dK_isUnknown_65 : decode cK_isUnknown 65 = .ok (.ifCond .eq 15, 3) := by decide +kernel
theorem dK_isUnknown_68 : decode cK_isUnknown 68 = .ok (.iload_n 1, 1) := by decide +kernel
theorem dK_isUnknown_69 : decode cK_isUnknown 69 = .ok (.bipush 6, 2) := by decide +kernel
theorem dK_isUnknown_71 : decode cK_isUnknown 71 = .ok (.ishr, 1) := by decide +kernel
theorem dK_isUnknown_72 : decode cK_isUnknown 72 = .ok (.bipush 7, 2) := by decide +kernel
theorem dK_isUnknown_74 : decode cK_isUnknown 74 = .ok (.iand, 1) := by decide +kernel
theorem dK_isUnknown_75 : decode cK_isUnknown 75 = .ok (.bipush 7, 2) := by decide +kernel
theorem dK_isUnknown_77 : decode cK_isUnknown 77 = .ok (.if_icmp .eq 20, 3) := by decide +kernel
theorem dK_isUnknown_80 : decode cK_isUnknown 80 = .ok (.iload_n 3, 1) := by decide +kernel
theorem dK_isUnknown_81 : decode cK_isUnknown 81 = .ok (.iconst 4, 1) := by decide +kernel
theorem dK_isUnknown_82 : decode cK_isUnknown 82 = .ok (.iand, 1) := by decide +kernel
theorem dK_isUnknown_83 : decode cK_isUnknown 83 = .ok (.ifCond .eq 18, 3) := by decide +kernel
theorem dK_isUnknown_86 : decode cK_isUnknown 86 = .ok (.iload_n 1, 1) := by decide +kernel
theorem dK_isUnknown_87 : decode cK_isUnknown 87 = .ok (.iconst 3, 1) := by decide +kernel
theorem dK_isUnknown_88 : decode cK_isUnknown 88 = .ok (.ishr, 1) := by decide +kernel
theorem dK_isUnknown_89 : decode cK_isUnknown 89 = .ok (.bipush 7, 2) := by decide +kernel
theorem dK_isUnknown_91 : decode cK_isUnknown 91 = .ok (.iand, 1) := by decide +kernel
theorem dK_isUnknown_92 : decode cK_isUnknown 92 = .ok (.bipush 7, 2) := by decide +kernel
theorem dK_isUnknown_94 : decode cK_isUnknown 94 = .ok (.if_icmp .ne 7, 3) := by decide +kernel
theorem dK_isUnknown_97 : decode cK_isUnknown 97 = .ok (.iconst 1, 1) := by decide +kernel
theorem dK_isUnknown_98 : decode cK_isUnknown 98 = .ok (.goto 4, 3) := by decide +kernel
theorem dK_isUnknown_101 : decode cK_isUnknown 101 = .ok (.iconst 0, 1) := by decide +kernel
theorem dK_isUnknown_102 : decode cK_isUnknown 102 = .ok (.ireturn, 1) := by decide +kernel
theorem dK_moveData_0 : decode cK_moveData 0 = .ok (.aload_n 0, 1) := by decide +kernel
theorem dK_moveData_1 : decode cK_moveData 1 = .ok (.getfield 28, 3) := by decide +kernel
theorem dK_moveData_4 : decode cK_moveData 4 = .ok (.getfield 82, 3) := by decide +kernel
theorem dK_moveData_7 : decode cK_moveData 7 = .ok (.astore_n 2, 1) := by decide +kernel
theorem dK_moveData_8 : decode cK_moveData 8 = .ok (.iload_n 1, 1) := by decide +kernel
theorem dK_moveData_9 : decode cK_moveData 9 = .ok (.bipush 9, 2) := by decide +kernel
theorem dK_moveData_11 : decode cK_moveData 11 = .ok (.ishr, 1) := by decide +kernel
theorem dK_moveData_12 : decode cK_moveData 12 = .ok (.bipush 7, 2) := by decide +kernel
theorem dK_moveData_14 : decode cK_moveData 14 = .ok (.iand, 1) := by decide +kernel
theorem dK_moveData_15 : decode cK_moveData 15 = .ok (.istore_n 3, 1) := by decide +kernel
theorem dK_moveData_16 : decode cK_moveData 16 = .ok (.iload_n 1, 1) := by decide +kernel
theorem dK_moveData_17 : decode cK_moveData 17 = .ok (.bipush 6, 2) := by decide +kernel
theorem dK_moveData_19 : decode cK_moveData 19 = .ok (.ishr, 1) := by decide +kernel
theorem dK_moveData_20 : decode cK_moveData 20 = .ok (.bipush 7, 2) := by decide +kernel
theorem dK_moveData_22 : decode cK_moveData 22 = .ok (.iand, 1) := by decide +kernel
theorem dK_moveData_23 : decode cK_moveData 23 = .ok (.istore 4, 2) := by decide +kernel
theorem dK_moveData_25 : decode cK_moveData 25 = .ok (.iload_n 1, 1) := by decide +kernel
theorem dK_moveData_26 : decode cK_moveData 26 = .ok (.iconst 3, 1) := by decide +kernel
theorem dK_moveData_27 : decode cK_moveData 27 = .ok (.ishr, 1) := by decide +kernel
theorem dK_moveData_28 : decode cK_moveData 28 = .ok (.bipush 7, 2) := by decide +kernel
theorem dK_moveData_30 : decode cK_moveData 30 = .ok (.iand, 1) := by decide +kernel
theorem dK_moveData_31 : decode cK_moveData 31 = .ok (.istore 5, 2) := by decide +kernel
theorem dK_moveData_33 : decode cK_moveData 33 = .ok (.iload_n 1, 1) := by decide +kernel
theorem dK_moveData_34 : decode cK_moveData 34 = .ok (.bipush 63, 2) := by decide +kernel
theorem dK_moveData_36 : decode cK_moveData 36 = .ok (.iand, 1) := by decide +kernel
theorem dK_moveData_37 : decode cK_moveData 37 = .ok (.istore 6, 2) := by decide +kernel
theorem dK_moveData_39 : decode cK_moveData 39 = .ok (.iload_n 1, 1) := by decide +kernel
theorem dK_moveData_40 : decode cK_moveData 40 = .ok (.bipush 12, 2) := by decide +kernel
theorem dK_moveData_42 : decode cK_moveData 42 = .ok (.ishr, 1) := by decide +kernel
theorem dK_moveData_43 : decode cK_moveData 43 = .ok (.tableswitch 160 0 6 #[41, 52, 70, 106, 123, 140, 150], 41) := by decide +kernel
theorem dK_moveData_84 : decode cK_moveData 84 = .ok (.aload_n 2, 1) := by decide +kernel
theorem dK_moveData_85 : decode cK_moveData 85 = .ok (.iload_n 3, 1) := by decide +kernel
theorem dK_moveData_86 : decode cK_moveData 86 = .ok (.iload_n 1, 1) := by decide +kernel
theorem dK_moveData_87 : decode cK_moveData 87 = .ok (.sipush 511, 3) := by decide +kernel
theorem dK_moveData_90 : decode cK_moveData 90 = .ok (.iand, 1) := by decide +kernel
theorem dK_moveData_91 : decode cK_moveData 91 = .ok (.iastore, 1) := by decide +kernel
theorem dK_moveData_92 : decode cK_moveData 92 = .ok (.goto 111, 3) := by decide +kernel
theorem dK_moveData_95 : decode cK_moveData 95 = .ok (.aload_n 2, 1) := by decide +kernel
theorem dK_moveData_96 : decode cK_moveData 96 = .ok (.iload_n 3, 1) := by decide +kernel
theorem dK_moveData_97 : decode cK_moveData 97 = .ok (.aload_n 2, 1) := by decide +kernel
theorem dK_moveData_98 : decode cK_moveData 98 = .ok (.iload 4, 2) := by decide +kernel
theorem dK_moveData_100 : decode cK_moveData 100 = .ok (.iaload, 1) := by decide +kernel
theorem dK_moveData_101 : decode cK_moveData 101 = .ok (.aload_n 2, 1) := by decide +kernel
theorem dK_moveData_102 : decode cK_moveData 102 = .ok (.iload 5, 2) := by decide +kernel
theorem dK_moveData_104 : decode cK_moveData 104 = .ok (.iaload, 1) := by decide +kernel
theorem dK_moveData_105 : decode cK_moveData 105 = .ok (.iadd, 1) := by decide +kernel
theorem dK_moveData_106 : decode cK_moveData 106 = .ok (.ldc 39, 2) := by decide +kernel
theorem dK_moveData_108 : decode cK_moveData 108 = .ok (.iand, 1) := by decide +kernel
theorem dK_moveData_109 : decode cK_moveData 109 = .ok (.iastore, 1) := by decide +kernel
theorem dK_moveData_110 : decode cK_moveData 110 = .ok (.goto 93, 3) := by decide +kernel
theorem dK_moveData_113 : decode cK_moveData 113 = .ok (.aload_n 2, 1) := by decide +kernel
theorem dK_moveData_114 : decode cK_moveData 114 = .ok (.iload_n 3, 1) := by decide +kernel
theorem dK_moveData_115 : decode cK_moveData 115 = .ok (.aload_n 2, 1) := by decide +kernel
theorem dK_moveData_116 : decode cK_moveData 116 = .ok (.iload 4, 2) := by decide +kernel
theorem dK_moveData_118 : decode cK_moveData 118 = .ok (.iaload, 1) := by decide +kernel
theorem dK_moveData_119 : decode cK_moveData 119 = .ok (.aload_n 2, 1) := by decide +kernel
theorem dK_moveData_120 : decode cK_moveData 120 = .ok (.iload 5, 2) := by decide +kernel
theorem dK_moveData_122 : decode cK_moveData 122 = .ok (.iaload, 1) := by decide +kernel
theorem dK_moveData_123 : decode cK_moveData 123 = .ok (.isub, 1) := by decide +kernel
theorem dK_moveData_124 : decode cK_moveData 124 = .ok (.ldc 39, 2) := by decide +kernel
theorem dK_moveData_126 : decode cK_moveData 126 = .ok (.iand, 1) := by decide +kernel
theorem dK_moveData_127 : decode cK_moveData 127 = .ok (.iastore, 1) := by decide +kernel
theorem dK_moveData_128 : decode cK_moveData 128 = .ok (.aload_n 0, 1) := by decide +kernel
theorem dK_moveData_129 : decode cK_moveData 129 = .ok (.getfield 28, 3) := by decide +kernel
theorem dK_moveData_132 : decode cK_moveData 132 = .ok (.aload_n 2, 1) := by decide +kernel
theorem dK_moveData_133 : decode cK_moveData 133 = .ok (.iload_n 3, 1) := by decide +kernel
theorem dK_moveData_134 : decode cK_moveData 134 = .ok (.iaload, 1) := by decide +kernel
theorem dK_moveData_135 : decode cK_moveData 135 = .ok (.ifCond .ne 7, 3) := by decide +kernel
theorem dK_moveData_138 : decode cK_moveData 138 = .ok (.iconst 1, 1) := by decide +kernel
theorem dK_moveData_139 : decode cK_moveData 139 = .ok (.goto 4, 3) := by decide +kernel
theorem dK_moveData_142 : decode cK_moveData 142 = .ok (.iconst 0, 1) := by decide +kernel
theorem dK_moveData_143 : decode cK_moveData 143 = .ok (.putfield 88, 3) := by decide +kernel
theorem dK_moveData_146 : decode cK_moveData 146 = .ok (.goto 57, 3) := by decide +kernel
theorem dK_moveData_149 : decode cK_moveData 149 = .ok (.aload_n 2, 1) := by decide +kernel
theorem dK_moveData_150 : decode cK_moveData 150 = .ok (.iload_n 3, 1) := by decide +kernel
theorem dK_moveData_151 : decode cK_moveData 151 = .ok (.aload_n 0, 1) := by decide +kernel
theorem dK_moveData_152 : decode cK_moveData 152 = .ok (.aload_n 2, 1) := by decide +kernel
theorem dK_moveData_153 : decode cK_moveData 153 = .ok (.iload 4, 2) := by decide +kernel
theorem dK_moveData_155 : decode cK_moveData 155 = .ok (.iaload, 1) := by decide +kernel
theorem dK_moveData_156 : decode cK_moveData 156 = .ok (.iload 6, 2) := by decide +kernel
theorem dK_moveData_158 : decode cK_moveData 158 = .ok (.iadd, 1) := by decide +kernel
theorem dK_moveData_159 : decode cK_moveData 159 = .ok (.invokevirtual 131, 3) := by decide +kernel
theorem dK_moveData_162 : decode cK_moveData 162 = .ok (.iastore, 1) := by decide +kernel
theorem dK_moveData_163 : decode cK_moveData 163 = .ok (.goto 40, 3) := by decide +kernel
theorem dK_moveData_166 : decode cK_moveData 166 = .ok (.aload_n 0, 1) := by decide +kernel
theorem dK_moveData_167 : decode cK_moveData 167 = .ok (.aload_n 2, 1) := by decide +kernel
theorem dK_moveData_168 : decode cK_moveData 168 = .ok (.iload 4, 2) := by decide +kernel
theorem dK_moveData_170 : decode cK_moveData 170 = .ok (.iaload, 1) := by decide +kernel
theorem dK_moveData_171 : decode cK_moveData 171 = .ok (.iload 6, 2) := by decide +kernel
theorem dK_moveData_173 : decode cK_moveData 173 = .ok (.iadd, 1) := by decide +kernel
theorem dK_moveData_174 : decode cK_moveData 174 = .ok (.aload_n 2, 1) := by decide +kernel
theorem dK_moveData_175 : decode cK_moveData 175 = .ok (.iload_n 3, 1) := by decide +kernel
theorem dK_moveData_176 : decode cK_moveData 176 = .ok (.iaload, 1) := by decide +kernel
theorem dK_moveData_177 : decode cK_moveData 177 = .ok (.invokevirtual 134, 3) := by decide +kernel
theorem dK_moveData_180 : decode cK_moveData 180 = .ok (.goto 23, 3) := by decide +kernel
theorem dK_moveData_183 : decode cK_moveData 183 = .ok (.aload_n 0, 1) := by decide +kernel
theorem dK_moveData_184 : decode cK_moveData 184 = .ok (.aload_n 2, 1) := by decide +kernel
theorem dK_moveData_185 : decode cK_moveData 185 = .ok (.iload_n 3, 1) := by decide +kernel
theorem dK_moveData_186 : decode cK_moveData 186 = .ok (.iaload, 1) := by decide +kernel
theorem dK_moveData_187 : decode cK_moveData 187 = .ok (.invokevirtual 138, 3) := by decide +kernel
theorem dK_moveData_190 : decode cK_moveData 190 = .ok (.goto 13, 3) := by decide +kernel
theorem dK_moveData_193 : decode cK_moveData 193 = .ok (.aload_n 2, 1) := by decide +kernel
theorem dK_moveData_194 : decode cK_moveData 194 = .ok (.iload_n 3, 1) := by decide +kernel
theorem dK_moveData_195 : decode cK_moveData 195 = .ok (.aload_n 0, 1) := by decide +kernel
theorem dK_moveData_196 : decode cK_moveData 196 = .ok (.invokevirtual 141, 3) := by decide +kernel
theorem dK_moveData_199 : decode cK_moveData 199 = .ok (.iastore, 1) := by decide +kernel
theorem dK_moveData_200 : decode cK_moveData 200 = .ok (.goto 3, 3) := by decide +kernel
theorem dK_moveData_203 : decode cK_moveData 203 = .ok (.return_, 1) := by decide +kernel
theorem dK_changeFlow_0 : decode cK_changeFlow 0 = .ok (.aload_n 0, 1) := by decide +kernel
theorem dK_changeFlow_1 : decode cK_changeFlow 1 = .ok (.getfield 28, 3) := by decide +kernel
theorem dK_changeFlow_4 : decode cK_changeFlow 4 = .ok (.getfield 82, 3) := by decide +kernel
theorem dK_changeFlow_7 : decode cK_changeFlow 7 = .ok (.iload_n 1, 1) := by decide +kernel
theorem dK_changeFlow_8 : decode cK_changeFlow 8 = .ok (.bipush 6, 2) := by decide +kernel
theorem dK_changeFlow_10 : decode cK_changeFlow 10 = .ok (.ishr, 1) := by decide +kernel
theorem dK_changeFlow_11 : decode cK_changeFlow 11 = .ok (.bipush 7, 2) := by decide +kernel
theorem dK_changeFlow_13 : decode cK_changeFlow 13 = .ok (.iand, 1) := by decide +kernel
theorem dK_changeFlow_14 : decode cK_changeFlow 14 = .ok (.iaload, 1) := by decide +kernel
theorem dK_changeFlow_15 : decode cK_changeFlow 15 = .ok (.istore_n 2, 1) := by decide +kernel
theorem dK_changeFlow_16 : decode cK_changeFlow 16 = .ok (.iload_n 1, 1) := by decide +kernel
theorem dK_changeFlow_17 : decode cK_changeFlow 17 = .ok (.bipush 12, 2) := by decide +kernel
theorem dK_changeFlow_19 : decode cK_changeFlow 19 = .ok (.ishr, 1) := by decide +kernel
theorem dK_changeFlow_20 : decode cK_changeFlow 20 = .ok (.tableswitch 138 7 15 #[52, 60, 78, 138, 86, 94, 102, 109, 130], 52) := by decide +kernel
theorem dK_changeFlow_72 : decode cK_changeFlow 72 = .ok (.aload_n 0, 1) := by decide +kernel
theorem dK_changeFlow_73 : decode cK_changeFlow 73 = .ok (.iload_n 1, 1) := by decide +kernel
theorem dK_changeFlow_74 : decode cK_changeFlow 74 = .ok (.invokevirtual 111, 3) := by decide +kernel
theorem dK_changeFlow_77 : decode cK_changeFlow 77 = .ok (.goto 81, 3) := by decide +kernel
theorem dK_changeFlow_80 : decode cK_changeFlow 80 = .ok (.aload_n 0, 1) := by decide +kernel
theorem dK_changeFlow_81 : decode cK_changeFlow 81 = .ok (.getfield 28, 3) := by decide +kernel
theorem dK_changeFlow_84 : decode cK_changeFlow 84 = .ok (.getfield 88, 3) := by decide +kernel
theorem dK_changeFlow_87 : decode cK_changeFlow 87 = .ok (.ifCond .eq 71, 3) := by decide +kernel
theorem dK_changeFlow_90 : decode cK_changeFlow 90 = .ok (.aload_n 0, 1) := by decide +kernel
theorem dK_changeFlow_91 : decode cK_changeFlow 91 = .ok (.iload_n 1, 1) := by decide +kernel
theorem dK_changeFlow_92 : decode cK_changeFlow 92 = .ok (.invokevirtual 111, 3) := by decide +kernel
theorem dK_changeFlow_95 : decode cK_changeFlow 95 = .ok (.goto 63, 3) := by decide +kernel
theorem dK_changeFlow_98 : decode cK_changeFlow 98 = .ok (.aload_n 0, 1) := by decide +kernel
theorem dK_changeFlow_99 : decode cK_changeFlow 99 = .ok (.iload_n 2, 1) := by decide +kernel
theorem dK_changeFlow_100 : decode cK_changeFlow 100 = .ok (.invokevirtual 144, 3) := by decide +kernel
theorem dK_changeFlow_103 : decode cK_changeFlow 103 = .ok (.goto 55, 3) := by decide +kernel
theorem dK_changeFlow_106 : decode cK_changeFlow 106 = .ok (.aload_n 0, 1) := by decide +kernel
theorem dK_changeFlow_107 : decode cK_changeFlow 107 = .ok (.iload_n 2, 1) := by decide +kernel
theorem dK_changeFlow_108 : decode cK_changeFlow 108 = .ok (.invokevirtual 147, 3) := by decide +kernel
theorem dK_changeFlow_111 : decode cK_changeFlow 111 = .ok (.goto 47, 3) := by decide +kernel
theorem dK_changeFlow_114 : decode cK_changeFlow 114 = .ok (.aload_n 0, 1) := by decide +kernel
theorem dK_changeFlow_115 : decode cK_changeFlow 115 = .ok (.iload_n 2, 1) := by decide +kernel
theorem dK_changeFlow_116 : decode cK_changeFlow 116 = .ok (.invokevirtual 150, 3) := by decide +kernel
theorem dK_changeFlow_119 : decode cK_changeFlow 119 = .ok (.goto 39, 3) := by decide +kernel
theorem dK_changeFlow_122 : decode cK_changeFlow 122 = .ok (.aload_n 0, 1) := by decide +kernel
theorem dK_changeFlow_123 : decode cK_changeFlow 123 = .ok (.invokevirtual 153, 3) := by decide +kernel
theorem dK_changeFlow_126 : decode cK_changeFlow 126 = .ok (.goto 32, 3) := by decide +kernel
theorem dK_changeFlow_129 : decode cK_changeFlow 129 = .ok (.aload_n 0, 1) := by decide +kernel
theorem dK_changeFlow_130 : decode cK_changeFlow 130 = .ok (.dup, 1) := by decide +kernel
theorem dK_changeFlow_131 : decode cK_changeFlow 131 = .ok (.getfield 79, 3) := by decide +kernel
theorem dK_changeFlow_134 : decode cK_changeFlow 134 = .ok (.iconst 1, 1) := by decide +kernel
theorem dK_changeFlow_135 : decode cK_changeFlow 135 = .ok (.iconst 3, 1) := by decide +kernel
theorem dK_changeFlow_136 : decode cK_changeFlow 136 = .ok (.iload_n 1, 1) := by decide +kernel
theorem dK_changeFlow_137 : decode cK_changeFlow 137 = .ok (.iconst 3, 1) := by decide +kernel
theorem dK_changeFlow_138 : decode cK_changeFlow 138 = .ok (.ishr, 1) := by decide +kernel
theorem dK_changeFlow_139 : decode cK_changeFlow 139 = .ok (.iconst 3, 1) := by decide +kernel
theorem dK_changeFlow_140 : decode cK_changeFlow 140 = .ok (.iand, 1) := by decide +kernel
theorem dK_changeFlow_141 : decode cK_changeFlow 141 = .ok (.iadd, 1) := by decide +kernel
theorem dK_changeFlow_142 : decode cK_changeFlow 142 = .ok (.ishl, 1) := by decide +kernel
theorem dK_changeFlow_143 : decode cK_changeFlow 143 = .ok (.ior, 1) := by decide +kernel
theorem dK_changeFlow_144 : decode cK_changeFlow 144 = .ok (.putfield 79, 3) := by decide +kernel
theorem dK_changeFlow_147 : decode cK_changeFlow 147 = .ok (.goto 11, 3) := by decide +kernel
theorem dK_changeFlow_150 : decode cK_changeFlow 150 = .ok (.aload_n 0, 1) := by decide +kernel
theorem dK_changeFlow_151 : decode cK_changeFlow 151 = .ok (.iconst 1, 1) := by decide +kernel
theorem dK_changeFlow_152 : decode cK_changeFlow 152 = .ok (.putfield 76, 3) := by decide +kernel
theorem dK_changeFlow_155 : decode cK_changeFlow 155 = .ok (.goto 3, 3) := by decide +kernel
theorem dK_changeFlow_158 : decode cK_changeFlow 158 = .ok (.return_, 1) := by decide +kernel
theorem dK_goTo_0 : decode cK_goTo 0 = .ok (.aload_n 0, 1) := by decide +kernel
theorem dK_goTo_1 : decode cK_goTo 1 = .ok (.getfield 28, 3) := by decide +kernel
theorem dK_goTo_4 : decode cK_goTo 4 = .ok (.iload_n 1, 1) := by decide +kernel
theorem dK_goTo_5 : decode cK_goTo 5 = .ok (.sipush 255, 3) := by decide +kernel
theorem dK_goTo_8 : decode cK_goTo 8 = .ok (.iand, 1) := by decide +kernel
theorem dK_goTo_9 : decode cK_goTo 9 = .ok (.putfield 61, 3) := by decide +kernel
theorem dK_goTo_12 : decode cK_goTo 12 = .ok (.return_, 1) := by decide +kernel
theorem dK_call_0 : decode cK_call 0 = .ok (.aload_n 0, 1) := by decide +kernel
theorem dK_call_1 : decode cK_call 1 = .ok (.getfield 28, 3) := by decide +kernel
theorem dK_call_4 : decode cK_call 4 = .ok (.getfield 82, 3) := by decide +kernel
theorem dK_call_7 : decode cK_call 7 = .ok (.bipush 6, 2) := by decide +kernel
theorem dK_call_9 : decode cK_call 9 = .ok (.aload_n 0, 1) := by decide +kernel
theorem dK_call_10 : decode cK_call 10 = .ok (.getfield 28, 3) := by decide +kernel
theorem dK_call_13 : decode cK_call 13 = .ok (.getfield 61, 3) := by decide +kernel
theorem dK_call_16 : decode cK_call 16 = .ok (.iastore, 1) := by decide +kernel
theorem dK_call_17 : decode cK_call 17 = .ok (.aload_n 0, 1) := by decide +kernel
theorem dK_call_18 : decode cK_call 18 = .ok (.iload_n 1, 1) := by decide +kernel
theorem dK_call_19 : decode cK_call 19 = .ok (.invokevirtual 111, 3) := by decide +kernel
theorem dK_call_22 : decode cK_call 22 = .ok (.return_, 1) := by decide +kernel
theorem dK_goOut_0 : decode cK_goOut 0 = .ok (.aload_n 0, 1) := by decide +kernel
theorem dK_goOut_1 : decode cK_goOut 1 = .ok (.getfield 28, 3) := by decide +kernel
theorem dK_goOut_4 : decode cK_goOut 4 = .ok (.iconst 1, 1) := by decide +kernel
theorem dK_goOut_5 : decode cK_goOut 5 = .ok (.putfield 64, 3) := by decide +kernel
theorem dK_goOut_8 : decode cK_goOut 8 = .ok (.aload_n 0, 1) := by decide +kernel
theorem dK_goOut_9 : decode cK_goOut 9 = .ok (.iload_n 1, 1) := by decide +kernel
theorem dK_goOut_10 : decode cK_goOut 10 = .ok (.invokevirtual 111, 3) := by decide +kernel
theorem dK_goOut_13 : decode cK_goOut 13 = .ok (.return_, 1) := by decide +kernel
theorem dK_callOut_0 : decode cK_callOut 0 = .ok (.aload_n 0, 1) := by decide +kernel
theorem dK_callOut_1 : decode cK_callOut 1 = .ok (.aload_n 0, 1) := by decide +kernel
theorem dK_callOut_2 : decode cK_callOut 2 = .ok (.getfield 28, 3) := by decide +kernel
theorem dK_callOut_5 : decode cK_callOut 5 = .ok (.getfield 61, 3) := by decide +kernel
theorem dK_callOut_8 : decode cK_callOut 8 = .ok (.invokevirtual 138, 3) := by decide +kernel
theorem dK_callOut_11 : decode cK_callOut 11 = .ok (.aload_n 0, 1) := by decide +kernel
theorem dK_callOut_12 : decode cK_callOut 12 = .ok (.sipush 4096, 3) := by decide +kernel
theorem dK_callOut_15 : decode cK_callOut 15 = .ok (.invokevirtual 138, 3) := by decide +kernel
theorem dK_callOut_18 : decode cK_callOut 18 = .ok (.aload_n 0, 1) := by decide +kernel
theorem dK_callOut_19 : decode cK_callOut 19 = .ok (.getfield 28, 3) := by decide +kernel
theorem dK_callOut_22 : decode cK_callOut 22 = .ok (.getfield 82, 3) := by decide +kernel
theorem dK_callOut_25 : decode cK_callOut 25 = .ok (.bipush 6, 2) := by decide +kernel
theorem dK_callOut_27 : decode cK_callOut 27 = .ok (.ldc 156, 2) := by decide +kernel
theorem dK_callOut_29 : decode cK_callOut 29 = .ok (.iastore, 1) := by decide +kernel
theorem dK_callOut_30 : decode cK_callOut 30 = .ok (.aload_n 0, 1) := by decide +kernel
theorem dK_callOut_31 : decode cK_callOut 31 = .ok (.iload_n 1, 1) := by decide +kernel
theorem dK_callOut_32 : decode cK_callOut 32 = .ok (.invokevirtual 147, 3) := by decide +kernel
theorem dK_callOut_35 : decode cK_callOut 35 = .ok (.return_, 1) := by decide +kernel
theorem dK_goBack_0 : decode cK_goBack 0 = .ok (.aload_n 0, 1) := by decide +kernel
theorem dK_goBack_1 : decode cK_goBack 1 = .ok (.getfield 28, 3) := by decide +kernel
theorem dK_goBack_4 : decode cK_goBack 4 = .ok (.getfield 82, 3) := by decide +kernel
theorem dK_goBack_7 : decode cK_goBack 7 = .ok (.bipush 6, 2) := by decide +kernel
theorem dK_goBack_9 : decode cK_goBack 9 = .ok (.iaload, 1) := by decide +kernel
theorem dK_goBack_10 : decode cK_goBack 10 = .ok (.istore_n 1, 1) := by decide +kernel
theorem dK_goBack_11 : decode cK_goBack 11 = .ok (.iload_n 1, 1) := by decide +kernel
theorem dK_goBack_12 : decode cK_goBack 12 = .ok (.ldc 127, 2) := by decide +kernel
theorem dK_goBack_14 : decode cK_goBack 14 = .ok (.if_icmp .ge 11, 3) := by decide +kernel
theorem dK_goBack_17 : decode cK_goBack 17 = .ok (.aload_n 0, 1) := by decide +kernel
theorem dK_goBack_18 : decode cK_goBack 18 = .ok (.iload_n 1, 1) := by decide +kernel
theorem dK_goBack_19 : decode cK_goBack 19 = .ok (.invokevirtual 111, 3) := by decide +kernel
theorem dK_goBack_22 : decode cK_goBack 22 = .ok (.goto 88, 3) := by decide +kernel
theorem dK_goBack_25 : decode cK_goBack 25 = .ok (.iload_n 1, 1) := by decide +kernel
theorem dK_goBack_26 : decode cK_goBack 26 = .ok (.ldc 157, 2) := by decide +kernel
theorem dK_goBack_28 : decode cK_goBack 28 = .ok (.if_icmp .ge 21, 3) := by decide +kernel
theorem dK_goBack_31 : decode cK_goBack 31 = .ok (.aload_n 0, 1) := by decide +kernel
theorem dK_goBack_32 : decode cK_goBack 32 = .ok (.getfield 28, 3) := by decide +kernel
theorem dK_goBack_35 : decode cK_goBack 35 = .ok (.getfield 64, 3) := by decide +kernel
theorem dK_goBack_38 : decode cK_goBack 38 = .ok (.ifCond .ne 11, 3) := by decide +kernel
theorem dK_goBack_41 : decode cK_goBack 41 = .ok (.aload_n 0, 1) := by decide +kernel
theorem dK_goBack_42 : decode cK_goBack 42 = .ok (.iload_n 1, 1) := by decide +kernel
theorem dK_goBack_43 : decode cK_goBack 43 = .ok (.invokevirtual 147, 3) := by decide +kernel
theorem dK_goBack_46 : decode cK_goBack 46 = .ok (.goto 64, 3) := by decide +kernel
theorem dK_goBack_49 : decode cK_goBack 49 = .ok (.iload_n 1, 1) := by decide +kernel
theorem dK_goBack_50 : decode cK_goBack 50 = .ok (.ldc 156, 2) := by decide +kernel
theorem dK_goBack_52 : decode cK_goBack 52 = .ok (.if_icmp .ne 20, 3) := by decide +kernel
theorem dK_goBack_55 : decode cK_goBack 55 = .ok (.aload_n 0, 1) := by decide +kernel
theorem dK_goBack_56 : decode cK_goBack 56 = .ok (.getfield 28, 3) := by decide +kernel
theorem dK_goBack_59 : decode cK_goBack 59 = .ok (.getfield 64, 3) := by decide +kernel
theorem dK_goBack_62 : decode cK_goBack 62 = .ok (.ifCond .eq 10, 3) := by decide +kernel
theorem dK_goBack_65 : decode cK_goBack 65 = .ok (.aload_n 0, 1) := by decide +kernel
theorem dK_goBack_66 : decode cK_goBack 66 = .ok (.invokevirtual 158, 3) := by decide +kernel
theorem dK_goBack_69 : decode cK_goBack 69 = .ok (.goto 41, 3) := by decide +kernel
theorem dK_goBack_72 : decode cK_goBack 72 = .ok (.iload_n 1, 1) := by decide +kernel
theorem dK_goBack_73 : decode cK_goBack 73 = .ok (.ldc 157, 2) := by decide +kernel
theorem dK_goBack_75 : decode cK_goBack 75 = .ok (.if_icmp .lt 30, 3) := by decide +kernel
theorem dK_goBack_78 : decode cK_goBack 78 = .ok (.iload_n 1, 1) := by decide +kernel
theorem dK_goBack_79 : decode cK_goBack 79 = .ok (.ldc 156, 2) := by decide +kernel
theorem dK_goBack_81 : decode cK_goBack 81 = .ok (.if_icmp .ge 24, 3) := by decide +kernel
theorem dK_goBack_84 : decode cK_goBack 84 = .ok (.aload_n 0, 1) := by decide +kernel
theorem dK_goBack_85 : decode cK_goBack 85 = .ok (.getfield 28, 3) := by decide +kernel
theorem dK_goBack_88 : decode cK_goBack 88 = .ok (.getfield 73, 3) := by decide +kernel
theorem dK_goBack_91 : decode cK_goBack 91 = .ok (.ifCond .eq 14, 3) := by decide +kernel
theorem dK_goBack_94 : decode cK_goBack 94 = .ok (.aload_n 0, 1) := by decide +kernel
theorem dK_goBack_95 : decode cK_goBack 95 = .ok (.iload_n 1, 1) := by decide +kernel
theorem dK_goBack_96 : decode cK_goBack 96 = .ok (.ldc 157, 2) := by decide +kernel
theorem dK_goBack_98 : decode cK_goBack 98 = .ok (.isub, 1) := by decide +kernel
theorem dK_goBack_99 : decode cK_goBack 99 = .ok (.invokevirtual 161, 3) := by decide +kernel
theorem dK_goBack_102 : decode cK_goBack 102 = .ok (.goto 8, 3) := by decide +kernel
theorem dK_goBack_105 : decode cK_goBack 105 = .ok (.aload_n 0, 1) := by decide +kernel
theorem dK_goBack_106 : decode cK_goBack 106 = .ok (.iconst 2, 1) := by decide +kernel
theorem dK_goBack_107 : decode cK_goBack 107 = .ok (.putfield 101, 3) := by decide +kernel
theorem dK_goBack_110 : decode cK_goBack 110 = .ok (.return_, 1) := by decide +kernel
theorem dK_endOutCall_0 : decode cK_endOutCall 0 = .ok (.aload_n 0, 1) := by decide +kernel
theorem dK_endOutCall_1 : decode cK_endOutCall 1 = .ok (.getfield 28, 3) := by decide +kernel
theorem dK_endOutCall_4 : decode cK_endOutCall 4 = .ok (.iconst 0, 1) := by decide +kernel
theorem dK_endOutCall_5 : decode cK_endOutCall 5 = .ok (.putfield 64, 3) := by decide +kernel
theorem dK_endOutCall_8 : decode cK_endOutCall 8 = .ok (.aload_n 0, 1) := by decide +kernel
theorem dK_endOutCall_9 : decode cK_endOutCall 9 = .ok (.invokevirtual 141, 3) := by decide +kernel
theorem dK_endOutCall_12 : decode cK_endOutCall 12 = .ok (.sipush 4096, 3) := by decide +kernel
theorem dK_endOutCall_15 : decode cK_endOutCall 15 = .ok (.if_icmp .eq 8, 3) := by decide +kernel
theorem dK_endOutCall_18 : decode cK_endOutCall 18 = .ok (.aload_n 0, 1) := by decide +kernel
theorem dK_endOutCall_19 : decode cK_endOutCall 19 = .ok (.iconst 2, 1) := by decide +kernel
theorem dK_endOutCall_20 : decode cK_endOutCall 20 = .ok (.putfield 101, 3) := by decide +kernel
theorem dK_endOutCall_23 : decode cK_endOutCall 23 = .ok (.aload_n 0, 1) := by decide +kernel
theorem dK_endOutCall_24 : decode cK_endOutCall 24 = .ok (.aload_n 0, 1) := by decide +kernel
theorem dK_endOutCall_25 : decode cK_endOutCall 25 = .ok (.invokevirtual 141, 3) := by decide +kernel
theorem dK_endOutCall_28 : decode cK_endOutCall 28 = .ok (.invokevirtual 111, 3) := by decide +kernel
theorem dK_endOutCall_31 : decode cK_endOutCall 31 = .ok (.return_, 1) := by decide +kernel
theorem dK_endException_0 : decode cK_endException 0 = .ok (.iload_n 1, 1) := by decide +kernel
theorem dK_endException_1 : decode cK_endException 1 = .ok (.iconst 4, 1) := by decide +kernel
theorem dK_endException_2 : decode cK_endException 2 = .ok (.ishr, 1) := by decide +kernel
theorem dK_endException_3 : decode cK_endException 3 = .ok (.bipush 7, 2) := by decide +kernel
theorem dK_endException_5 : decode cK_endException 5 = .ok (.iand, 1) := by decide +kernel
theorem dK_endException_6 : decode cK_endException 6 = .ok (.istore_n 2, 1) := by decide +kernel
theorem dK_endException_7 : decode cK_endException 7 = .ok (.aload_n 0, 1) := by decide +kernel
theorem dK_endException_8 : decode cK_endException 8 = .ok (.getfield 28, 3) := by decide +kernel
theorem dK_endException_11 : decode cK_endException 11 = .ok (.iload_n 1, 1) := by decide +kernel
theorem dK_endException_12 : decode cK_endException 12 = .ok (.iconst 1, 1) := by decide +kernel
theorem dK_endException_13 : decode cK_endException 13 = .ok (.iand, 1) := by decide +kernel
theorem dK_endException_14 : decode cK_endException 14 = .ok (.ifCond .ne 7, 3) := by decide +kernel
theorem dK_endException_17 : decode cK_endException 17 = .ok (.iconst 1, 1) := by decide +kernel
theorem dK_endException_18 : decode cK_endException 18 = .ok (.goto 4, 3) := by decide +kernel
theorem dK_endException_21 : decode cK_endException 21 = .ok (.iconst 0, 1) := by decide +kernel
theorem dK_endException_22 : decode cK_endException 22 = .ok (.putfield 64, 3) := by decide +kernel
theorem dK_endException_25 : decode cK_endException 25 = .ok (.aload_n 0, 1) := by decide +kernel
theorem dK_endException_26 : decode cK_endException 26 = .ok (.invokevirtual 141, 3) := by decide +kernel
theorem dK_endException_29 : decode cK_endException 29 = .ok (.sipush 1000, 3) := by decide +kernel
theorem dK_endException_32 : decode cK_endException 32 = .ok (.iload_n 2, 1) := by decide +kernel
theorem dK_endException_33 : decode cK_endException 33 = .ok (.iadd, 1) := by decide +kernel
theorem dK_endException_34 : decode cK_endException 34 = .ok (.if_icmp .eq 8, 3) := by decide +kernel
theorem dK_endException_37 : decode cK_endException 37 = .ok (.aload_n 0, 1) := by decide +kernel
theorem dK_endException_38 : decode cK_endException 38 = .ok (.iconst 2, 1) := by decide +kernel
theorem dK_endException_39 : decode cK_endException 39 = .ok (.putfield 101, 3) := by decide +kernel
theorem dK_endException_42 : decode cK_endException 42 = .ok (.iconst 5, 1) := by decide +kernel
theorem dK_endException_43 : decode cK_endException 43 = .ok (.istore_n 3, 1) := by decide +kernel
theorem dK_endException_44 : decode cK_endException 44 = .ok (.iload_n 3, 1) := by decide +kernel
theorem dK_endException_45 : decode cK_endException 45 = .ok (.ifCond .lt 22, 3) := by decide +kernel
theorem dK_endException_48 : decode cK_endException 48 = .ok (.aload_n 0, 1) := by decide +kernel
theorem dK_endException_49 : decode cK_endException 49 = .ok (.getfield 28, 3) := by decide +kernel
theorem dK_endException_52 : decode cK_endException 52 = .ok (.getfield 82, 3) := by decide +kernel
theorem dK_endException_55 : decode cK_endException 55 = .ok (.iload_n 3, 1) := by decide +kernel
theorem dK_endException_56 : decode cK_endException 56 = .ok (.aload_n 0, 1) := by decide +kernel
theorem dK_endException_57 : decode cK_endException 57 = .ok (.invokevirtual 141, 3) := by decide +kernel
theorem dK_endException_60 : decode cK_endException 60 = .ok (.iastore, 1) := by decide +kernel
theorem dK_endException_61 : decode cK_endException 61 = .ok (.iinc 3 (-1), 3) := by decide +kernel
theorem dK_endException_64 : decode cK_endException 64 = .ok (.goto (-20), 3) := by decide +kernel
theorem dK_endException_67 : decode cK_endException 67 = .ok (.aload_n 0, 1) := by decide +kernel
theorem dK_endException_68 : decode cK_endException 68 = .ok (.getfield 28, 3) := by decide +kernel
theorem dK_endException_71 : decode cK_endException 71 = .ok (.getfield 82, 3) := by decide +kernel
theorem dK_endException_74 : decode cK_endException 74 = .ok (.bipush 6, 2) := by decide +kernel
theorem dK_endException_76 : decode cK_endException 76 = .ok (.aload_n 0, 1) := by decide +kernel
theorem dK_endException_77 : decode cK_endException 77 = .ok (.invokevirtual 141, 3) := by decide +kernel
theorem dK_endException_80 : decode cK_endException 80 = .ok (.iastore, 1) := by decide +kernel
theorem dK_endException_81 : decode cK_endException 81 = .ok (.aload_n 0, 1) := by decide +kernel
theorem dK_endException_82 : decode cK_endException 82 = .ok (.getfield 28, 3) := by decide +kernel
theorem dK_endException_85 : decode cK_endException 85 = .ok (.aload_n 0, 1) := by decide +kernel
theorem dK_endException_86 : decode cK_endException 86 = .ok (.invokevirtual 141, 3) := by decide +kernel
theorem dK_endException_89 : decode cK_endException 89 = .ok (.ifCond .eq 7, 3) := by decide +kernel
theorem dK_endException_92 : decode cK_endException 92 = .ok (.iconst 1, 1) := by decide +kernel
theorem dK_endException_93 : decode cK_endException 93 = .ok (.goto 4, 3) := by decide +kernel
theorem dK_endException_96 : decode cK_endException 96 = .ok (.iconst 0, 1) := by decide +kernel
theorem dK_endException_97 : decode cK_endException 97 = .ok (.putfield 88, 3) := by decide +kernel
theorem dK_endException_100 : decode cK_endException 100 = .ok (.aload_n 0, 1) := by decide +kernel
theorem dK_endException_101 : decode cK_endException 101 = .ok (.aload_n 0, 1) := by decide +kernel
theorem dK_endException_102 : decode cK_endException 102 = .ok (.invokevirtual 141, 3) := by decide +kernel
theorem dK_endException_105 : decode cK_endException 105 = .ok (.invokevirtual 111, 3) := by decide +kernel
theorem dK_endException_108 : decode cK_endException 108 = .ok (.aload_n 0, 1) := by decide +kernel
theorem dK_endException_109 : decode cK_endException 109 = .ok (.getfield 28, 3) := by decide +kernel
theorem dK_endException_112 : decode cK_endException 112 = .ok (.iload_n 2, 1) := by decide +kernel
theorem dK_endException_113 : decode cK_endException 113 = .ok (.putfield 73, 3) := by decide +kernel
theorem dK_endException_116 : decode cK_endException 116 = .ok (.return_, 1) := by decide +kernel
theorem dK_answerFault_0 : decode cK_answerFault 0 = .ok (.aload_n 0, 1) := by decide +kernel
theorem dK_answerFault_1 : decode cK_answerFault 1 = .ok (.getfield 28, 3) := by decide +kernel
theorem dK_answerFault_4 : decode cK_answerFault 4 = .ok (.aload_n 0, 1) := by decide +kernel
theorem dK_answerFault_5 : decode cK_answerFault 5 = .ok (.getfield 32, 3) := by decide +kernel
theorem dK_answerFault_8 : decode cK_answerFault 8 = .ok (.invokevirtual 97, 3) := by decide +kernel
theorem dK_answerFault_11 : decode cK_answerFault 11 = .ok (.aload_n 0, 1) := by decide +kernel
theorem dK_answerFault_12 : decode cK_answerFault 12 = .ok (.getfield 35, 3) := by decide +kernel
theorem dK_answerFault_15 : decode cK_answerFault 15 = .ok (.ifCond .eq 10, 3) := by decide +kernel
theorem dK_answerFault_18 : decode cK_answerFault 18 = .ok (.aload_n 0, 1) := by decide +kernel
theorem dK_answerFault_19 : decode cK_answerFault 19 = .ok (.getfield 101, 3) := by decide +kernel
theorem dK_answerFault_22 : decode cK_answerFault 22 = .ok (.goto 4, 3) := by decide +kernel
theorem dK_answerFault_25 : decode cK_answerFault 25 = .ok (.iconst 1, 1) := by decide +kernel
theorem dK_answerFault_26 : decode cK_answerFault 26 = .ok (.istore_n 1, 1) := by decide +kernel
theorem dK_answerFault_27 : decode cK_answerFault 27 = .ok (.aload_n 0, 1) := by decide +kernel
theorem dK_answerFault_28 : decode cK_answerFault 28 = .ok (.getfield 28, 3) := by decide +kernel
theorem dK_answerFault_31 : decode cK_answerFault 31 = .ok (.getfield 73, 3) := by decide +kernel
theorem dK_answerFault_34 : decode cK_answerFault 34 = .ok (.iconst 1, 1) := by decide +kernel
theorem dK_answerFault_35 : decode cK_answerFault 35 = .ok (.if_icmp .eq 19, 3) := by decide +kernel
theorem dK_answerFault_38 : decode cK_answerFault 38 = .ok (.aload_n 0, 1) := by decide +kernel
theorem dK_answerFault_39 : decode cK_answerFault 39 = .ok (.getfield 28, 3) := by decide +kernel
theorem dK_answerFault_42 : decode cK_answerFault 42 = .ok (.getfield 73, 3) := by decide +kernel
theorem dK_answerFault_45 : decode cK_answerFault 45 = .ok (.iconst 2, 1) := by decide +kernel
theorem dK_answerFault_46 : decode cK_answerFault 46 = .ok (.if_icmp .ne 16, 3) := by decide +kernel
theorem dK_answerFault_49 : decode cK_answerFault 49 = .ok (.iload_n 1, 1) := by decide +kernel
theorem dK_answerFault_50 : decode cK_answerFault 50 = .ok (.iconst 2, 1) := by decide +kernel
theorem dK_answerFault_51 : decode cK_answerFault 51 = .ok (.if_icmp .ne 11, 3) := by decide +kernel
theorem dK_answerFault_54 : decode cK_answerFault 54 = .ok (.aload_n 0, 1) := by decide +kernel
theorem dK_answerFault_55 : decode cK_answerFault 55 = .ok (.iconst 2, 1) := by decide +kernel
theorem dK_answerFault_56 : decode cK_answerFault 56 = .ok (.putfield 76, 3) := by decide +kernel
theorem dK_answerFault_59 : decode cK_answerFault 59 = .ok (.goto 8, 3) := by decide +kernel
theorem dK_answerFault_62 : decode cK_answerFault 62 = .ok (.aload_n 0, 1) := by decide +kernel
theorem dK_answerFault_63 : decode cK_answerFault 63 = .ok (.iload_n 1, 1) := by decide +kernel
theorem dK_answerFault_64 : decode cK_answerFault 64 = .ok (.invokevirtual 124, 3) := by decide +kernel
theorem dK_answerFault_67 : decode cK_answerFault 67 = .ok (.return_, 1) := by decide +kernel
theorem dK_take_0 : decode cK_take 0 = .ok (.aload_n 0, 1) := by decide +kernel
theorem dK_take_1 : decode cK_take 1 = .ok (.getfield 32, 3) := by decide +kernel
theorem dK_take_4 : decode cK_take 4 = .ok (.aload_n 0, 1) := by decide +kernel
theorem dK_take_5 : decode cK_take 5 = .ok (.getfield 28, 3) := by decide +kernel
theorem dK_take_8 : decode cK_take 8 = .ok (.invokevirtual 97, 3) := by decide +kernel
theorem dK_take_11 : decode cK_take 11 = .ok (.aload_n 0, 1) := by decide +kernel
theorem dK_take_12 : decode cK_take 12 = .ok (.iconst 0, 1) := by decide +kernel
theorem dK_take_13 : decode cK_take 13 = .ok (.putfield 101, 3) := by decide +kernel
theorem dK_take_16 : decode cK_take 16 = .ok (.aload_n 0, 1) := by decide +kernel
theorem dK_take_17 : decode cK_take 17 = .ok (.invokevirtual 164, 3) := by decide +kernel
theorem dK_take_20 : decode cK_take 20 = .ok (.aload_n 0, 1) := by decide +kernel
theorem dK_take_21 : decode cK_take 21 = .ok (.getfield 101, 3) := by decide +kernel
theorem dK_take_24 : decode cK_take 24 = .ok (.ifCond .eq 22, 3) := by decide +kernel
theorem dK_take_27 : decode cK_take 27 = .ok (.aload_n 0, 1) := by decide +kernel
theorem dK_take_28 : decode cK_take 28 = .ok (.getfield 28, 3) := by decide +kernel
theorem dK_take_31 : decode cK_take 31 = .ok (.aload_n 0, 1) := by decide +kernel
theorem dK_take_32 : decode cK_take 32 = .ok (.getfield 32, 3) := by decide +kernel
theorem dK_take_35 : decode cK_take 35 = .ok (.invokevirtual 97, 3) := by decide +kernel
theorem dK_take_38 : decode cK_take 38 = .ok (.aload_n 0, 1) := by decide +kernel
theorem dK_take_39 : decode cK_take 39 = .ok (.iconst 2, 1) := by decide +kernel
theorem dK_take_40 : decode cK_take 40 = .ok (.putfield 76, 3) := by decide +kernel
theorem dK_take_43 : decode cK_take 43 = .ok (.goto 8, 3) := by decide +kernel
theorem dK_take_46 : decode cK_take 46 = .ok (.aload_n 0, 1) := by decide +kernel
theorem dK_take_47 : decode cK_take 47 = .ok (.iload_n 1, 1) := by decide +kernel
theorem dK_take_48 : decode cK_take 48 = .ok (.invokevirtual 167, 3) := by decide +kernel
theorem dK_take_51 : decode cK_take 51 = .ok (.return_, 1) := by decide +kernel
theorem dK_pushFrame_0 : decode cK_pushFrame 0 = .ok (.aload_n 0, 1) := by decide +kernel
theorem dK_pushFrame_1 : decode cK_pushFrame 1 = .ok (.aload_n 0, 1) := by decide +kernel
theorem dK_pushFrame_2 : decode cK_pushFrame 2 = .ok (.getfield 28, 3) := by decide +kernel
theorem dK_pushFrame_5 : decode cK_pushFrame 5 = .ok (.getfield 61, 3) := by decide +kernel
theorem dK_pushFrame_8 : decode cK_pushFrame 8 = .ok (.invokevirtual 138, 3) := by decide +kernel
theorem dK_pushFrame_11 : decode cK_pushFrame 11 = .ok (.aload_n 0, 1) := by decide +kernel
theorem dK_pushFrame_12 : decode cK_pushFrame 12 = .ok (.aload_n 0, 1) := by decide +kernel
theorem dK_pushFrame_13 : decode cK_pushFrame 13 = .ok (.getfield 28, 3) := by decide +kernel
theorem dK_pushFrame_16 : decode cK_pushFrame 16 = .ok (.getfield 88, 3) := by decide +kernel
theorem dK_pushFrame_19 : decode cK_pushFrame 19 = .ok (.ifCond .eq 7, 3) := by decide +kernel
theorem dK_pushFrame_22 : decode cK_pushFrame 22 = .ok (.iconst 1, 1) := by decide +kernel
theorem dK_pushFrame_23 : decode cK_pushFrame 23 = .ok (.goto 4, 3) := by decide +kernel
theorem dK_pushFrame_26 : decode cK_pushFrame 26 = .ok (.iconst 0, 1) := by decide +kernel
theorem dK_pushFrame_27 : decode cK_pushFrame 27 = .ok (.invokevirtual 138, 3) := by decide +kernel
theorem dK_pushFrame_30 : decode cK_pushFrame 30 = .ok (.aload_n 0, 1) := by decide +kernel
theorem dK_pushFrame_31 : decode cK_pushFrame 31 = .ok (.aload_n 0, 1) := by decide +kernel
theorem dK_pushFrame_32 : decode cK_pushFrame 32 = .ok (.getfield 28, 3) := by decide +kernel
theorem dK_pushFrame_35 : decode cK_pushFrame 35 = .ok (.getfield 82, 3) := by decide +kernel
theorem dK_pushFrame_38 : decode cK_pushFrame 38 = .ok (.bipush 6, 2) := by decide +kernel
theorem dK_pushFrame_40 : decode cK_pushFrame 40 = .ok (.iaload, 1) := by decide +kernel
theorem dK_pushFrame_41 : decode cK_pushFrame 41 = .ok (.invokevirtual 138, 3) := by decide +kernel
theorem dK_pushFrame_44 : decode cK_pushFrame 44 = .ok (.iconst 0, 1) := by decide +kernel
theorem dK_pushFrame_45 : decode cK_pushFrame 45 = .ok (.istore_n 1, 1) := by decide +kernel
theorem dK_pushFrame_46 : decode cK_pushFrame 46 = .ok (.iload_n 1, 1) := by decide +kernel
theorem dK_pushFrame_47 : decode cK_pushFrame 47 = .ok (.bipush 6, 2) := by decide +kernel
theorem dK_pushFrame_49 : decode cK_pushFrame 49 = .ok (.if_icmp .ge 22, 3) := by decide +kernel
theorem dK_pushFrame_52 : decode cK_pushFrame 52 = .ok (.aload_n 0, 1) := by decide +kernel
theorem dK_pushFrame_53 : decode cK_pushFrame 53 = .ok (.aload_n 0, 1) := by decide +kernel
theorem dK_pushFrame_54 : decode cK_pushFrame 54 = .ok (.getfield 28, 3) := by decide +kernel
theorem dK_pushFrame_57 : decode cK_pushFrame 57 = .ok (.getfield 82, 3) := by decide +kernel
theorem dK_pushFrame_60 : decode cK_pushFrame 60 = .ok (.iload_n 1, 1) := by decide +kernel
theorem dK_pushFrame_61 : decode cK_pushFrame 61 = .ok (.iaload, 1) := by decide +kernel
theorem dK_pushFrame_62 : decode cK_pushFrame 62 = .ok (.invokevirtual 138, 3) := by decide +kernel
theorem dK_pushFrame_65 : decode cK_pushFrame 65 = .ok (.iinc 1 1, 3) := by decide +kernel
theorem dK_pushFrame_68 : decode cK_pushFrame 68 = .ok (.goto (-22), 3) := by decide +kernel
theorem dK_pushFrame_71 : decode cK_pushFrame 71 = .ok (.aload_n 0, 1) := by decide +kernel
theorem dK_pushFrame_72 : decode cK_pushFrame 72 = .ok (.sipush 1000, 3) := by decide +kernel
theorem dK_pushFrame_75 : decode cK_pushFrame 75 = .ok (.aload_n 0, 1) := by decide +kernel
theorem dK_pushFrame_76 : decode cK_pushFrame 76 = .ok (.getfield 28, 3) := by decide +kernel
theorem dK_pushFrame_79 : decode cK_pushFrame 79 = .ok (.getfield 73, 3) := by decide +kernel
theorem dK_pushFrame_82 : decode cK_pushFrame 82 = .ok (.iadd, 1) := by decide +kernel
theorem dK_pushFrame_83 : decode cK_pushFrame 83 = .ok (.invokevirtual 138, 3) := by decide +kernel
theorem dK_pushFrame_86 : decode cK_pushFrame 86 = .ok (.return_, 1) := by decide +kernel
theorem dK_enter_0 : decode cK_enter 0 = .ok (.aload_n 0, 1) := by decide +kernel
theorem dK_enter_1 : decode cK_enter 1 = .ok (.iload_n 1, 1) := by decide +kernel
theorem dK_enter_2 : decode cK_enter 2 = .ok (.invokevirtual 170, 3) := by decide +kernel
theorem dK_enter_5 : decode cK_enter 5 = .ok (.istore_n 2, 1) := by decide +kernel
theorem dK_enter_6 : decode cK_enter 6 = .ok (.aload_n 0, 1) := by decide +kernel
theorem dK_enter_7 : decode cK_enter 7 = .ok (.getfield 28, 3) := by decide +kernel
theorem dK_enter_10 : decode cK_enter 10 = .ok (.getfield 82, 3) := by decide +kernel
theorem dK_enter_13 : decode cK_enter 13 = .ok (.bipush 6, 2) := by decide +kernel
theorem dK_enter_15 : decode cK_enter 15 = .ok (.ldc 157, 2) := by decide +kernel
theorem dK_enter_17 : decode cK_enter 17 = .ok (.bipush 16, 2) := by decide +kernel
theorem dK_enter_19 : decode cK_enter 19 = .ok (.aload_n 0, 1) := by decide +kernel
theorem dK_enter_20 : decode cK_enter 20 = .ok (.getfield 28, 3) := by decide +kernel
theorem dK_enter_23 : decode cK_enter 23 = .ok (.getfield 73, 3) := by decide +kernel
theorem dK_enter_26 : decode cK_enter 26 = .ok (.imul, 1) := by decide +kernel
theorem dK_enter_27 : decode cK_enter 27 = .ok (.iadd, 1) := by decide +kernel
theorem dK_enter_28 : decode cK_enter 28 = .ok (.aload_n 0, 1) := by decide +kernel
theorem dK_enter_29 : decode cK_enter 29 = .ok (.getfield 28, 3) := by decide +kernel
theorem dK_enter_32 : decode cK_enter 32 = .ok (.getfield 64, 3) := by decide +kernel
theorem dK_enter_35 : decode cK_enter 35 = .ok (.ifCond .eq 7, 3) := by decide +kernel
theorem dK_enter_38 : decode cK_enter 38 = .ok (.iconst 0, 1) := by decide +kernel
theorem dK_enter_39 : decode cK_enter 39 = .ok (.goto 4, 3) := by decide +kernel
theorem dK_enter_42 : decode cK_enter 42 = .ok (.iconst 1, 1) := by decide +kernel
theorem dK_enter_43 : decode cK_enter 43 = .ok (.iadd, 1) := by decide +kernel
theorem dK_enter_44 : decode cK_enter 44 = .ok (.iastore, 1) := by decide +kernel
theorem dK_enter_45 : decode cK_enter 45 = .ok (.aload_n 0, 1) := by decide +kernel
theorem dK_enter_46 : decode cK_enter 46 = .ok (.getfield 28, 3) := by decide +kernel
theorem dK_enter_49 : decode cK_enter 49 = .ok (.getfield 64, 3) := by decide +kernel
theorem dK_enter_52 : decode cK_enter 52 = .ok (.ifCond .ne 14, 3) := by decide +kernel
theorem dK_enter_55 : decode cK_enter 55 = .ok (.iload_n 2, 1) := by decide +kernel
theorem dK_enter_56 : decode cK_enter 56 = .ok (.ifCond .eq 10, 3) := by decide +kernel
theorem dK_enter_59 : decode cK_enter 59 = .ok (.aload_n 0, 1) := by decide +kernel
theorem dK_enter_60 : decode cK_enter 60 = .ok (.getfield 28, 3) := by decide +kernel
theorem dK_enter_63 : decode cK_enter 63 = .ok (.invokevirtual 173, 3) := by decide +kernel
theorem dK_enter_66 : decode cK_enter 66 = .ok (.aload_n 0, 1) := by decide +kernel
theorem dK_enter_67 : decode cK_enter 67 = .ok (.getfield 28, 3) := by decide +kernel
theorem dK_enter_70 : decode cK_enter 70 = .ok (.iload_n 2, 1) := by decide +kernel
theorem dK_enter_71 : decode cK_enter 71 = .ok (.putfield 64, 3) := by decide +kernel
theorem dK_enter_74 : decode cK_enter 74 = .ok (.aload_n 0, 1) := by decide +kernel
theorem dK_enter_75 : decode cK_enter 75 = .ok (.getfield 28, 3) := by decide +kernel
theorem dK_enter_78 : decode cK_enter 78 = .ok (.iload_n 1, 1) := by decide +kernel
theorem dK_enter_79 : decode cK_enter 79 = .ok (.putfield 73, 3) := by decide +kernel
theorem dK_enter_82 : decode cK_enter 82 = .ok (.aload_n 0, 1) := by decide +kernel
theorem dK_enter_83 : decode cK_enter 83 = .ok (.aload_n 0, 1) := by decide +kernel
theorem dK_enter_84 : decode cK_enter 84 = .ok (.getfield 9, 3) := by decide +kernel
theorem dK_enter_87 : decode cK_enter 87 = .ok (.bipush 8, 2) := by decide +kernel
theorem dK_enter_89 : decode cK_enter 89 = .ok (.iload_n 2, 1) := by decide +kernel
theorem dK_enter_90 : decode cK_enter 90 = .ok (.ifCond .eq 10, 3) := by decide +kernel
theorem dK_enter_93 : decode cK_enter 93 = .ok (.aload_n 0, 1) := by decide +kernel
theorem dK_enter_94 : decode cK_enter 94 = .ok (.getfield 58, 3) := by decide +kernel
theorem dK_enter_97 : decode cK_enter 97 = .ok (.goto 7, 3) := by decide +kernel
theorem dK_enter_100 : decode cK_enter 100 = .ok (.aload_n 0, 1) := by decide +kernel
theorem dK_enter_101 : decode cK_enter 101 = .ok (.getfield 55, 3) := by decide +kernel
theorem dK_enter_104 : decode cK_enter 104 = .ok (.imul, 1) := by decide +kernel
theorem dK_enter_105 : decode cK_enter 105 = .ok (.iload_n 1, 1) := by decide +kernel
theorem dK_enter_106 : decode cK_enter 106 = .ok (.iadd, 1) := by decide +kernel
theorem dK_enter_107 : decode cK_enter 107 = .ok (.sipush 255, 3) := by decide +kernel
theorem dK_enter_110 : decode cK_enter 110 = .ok (.iand, 1) := by decide +kernel
theorem dK_enter_111 : decode cK_enter 111 = .ok (.iaload, 1) := by decide +kernel
theorem dK_enter_112 : decode cK_enter 112 = .ok (.invokevirtual 111, 3) := by decide +kernel
theorem dK_enter_115 : decode cK_enter 115 = .ok (.aload_n 0, 1) := by decide +kernel
theorem dK_enter_116 : decode cK_enter 116 = .ok (.iload_n 1, 1) := by decide +kernel
theorem dK_enter_117 : decode cK_enter 117 = .ok (.putfield 91, 3) := by decide +kernel
theorem dK_enter_120 : decode cK_enter 120 = .ok (.return_, 1) := by decide +kernel
theorem dK_isHandledOpen_0 : decode cK_isHandledOpen 0 = .ok (.iload_n 1, 1) := by decide +kernel
theorem dK_isHandledOpen_1 : decode cK_isHandledOpen 1 = .ok (.iconst 3, 1) := by decide +kernel
theorem dK_isHandledOpen_2 : decode cK_isHandledOpen 2 = .ok (.if_icmp .lt 20, 3) := by decide +kernel
theorem dK_isHandledOpen_5 : decode cK_isHandledOpen 5 = .ok (.aload_n 0, 1) := by decide +kernel
theorem dK_isHandledOpen_6 : decode cK_isHandledOpen 6 = .ok (.getfield 51, 3) := by decide +kernel
theorem dK_isHandledOpen_9 : decode cK_isHandledOpen 9 = .ok (.iload_n 1, 1) := by decide +kernel
theorem dK_isHandledOpen_10 : decode cK_isHandledOpen 10 = .ok (.iconst 3, 1) := by decide +kernel
theorem dK_isHandledOpen_11 : decode cK_isHandledOpen 11 = .ok (.isub, 1) := by decide +kernel
theorem dK_isHandledOpen_12 : decode cK_isHandledOpen 12 = .ok (.ishr, 1) := by decide +kernel
theorem dK_isHandledOpen_13 : decode cK_isHandledOpen 13 = .ok (.iconst 1, 1) := by decide +kernel
theorem dK_isHandledOpen_14 : decode cK_isHandledOpen 14 = .ok (.iand, 1) := by decide +kernel
theorem dK_isHandledOpen_15 : decode cK_isHandledOpen 15 = .ok (.ifCond .ne 7, 3) := by decide +kernel
theorem dK_isHandledOpen_18 : decode cK_isHandledOpen 18 = .ok (.iconst 1, 1) := by decide +kernel
theorem dK_isHandledOpen_19 : decode cK_isHandledOpen 19 = .ok (.goto 4, 3) := by decide +kernel
theorem dK_isHandledOpen_22 : decode cK_isHandledOpen 22 = .ok (.iconst 0, 1) := by decide +kernel
theorem dK_isHandledOpen_23 : decode cK_isHandledOpen 23 = .ok (.ireturn, 1) := by decide +kernel
theorem dK_push_0 : decode cK_push 0 = .ok (.aload_n 0, 1) := by decide +kernel
theorem dK_push_1 : decode cK_push 1 = .ok (.getfield 28, 3) := by decide +kernel
theorem dK_push_4 : decode cK_push 4 = .ok (.invokevirtual 176, 3) := by decide +kernel
theorem dK_push_7 : decode cK_push 7 = .ok (.iconst 1, 1) := by decide +kernel
theorem dK_push_8 : decode cK_push 8 = .ok (.isub, 1) := by decide +kernel
theorem dK_push_9 : decode cK_push 9 = .ok (.ldc 39, 2) := by decide +kernel
theorem dK_push_11 : decode cK_push 11 = .ok (.iand, 1) := by decide +kernel
theorem dK_push_12 : decode cK_push 12 = .ok (.istore_n 2, 1) := by decide +kernel
theorem dK_push_13 : decode cK_push 13 = .ok (.aload_n 0, 1) := by decide +kernel
theorem dK_push_14 : decode cK_push 14 = .ok (.getfield 28, 3) := by decide +kernel
theorem dK_push_17 : decode cK_push 17 = .ok (.iload_n 2, 1) := by decide +kernel
theorem dK_push_18 : decode cK_push 18 = .ok (.invokevirtual 179, 3) := by decide +kernel
theorem dK_push_21 : decode cK_push 21 = .ok (.aload_n 0, 1) := by decide +kernel
theorem dK_push_22 : decode cK_push 22 = .ok (.iload_n 2, 1) := by decide +kernel
theorem dK_push_23 : decode cK_push 23 = .ok (.iload_n 1, 1) := by decide +kernel
theorem dK_push_24 : decode cK_push 24 = .ok (.invokevirtual 134, 3) := by decide +kernel
theorem dK_push_27 : decode cK_push 27 = .ok (.return_, 1) := by decide +kernel
theorem dK_pop_0 : decode cK_pop 0 = .ok (.aload_n 0, 1) := by decide +kernel
theorem dK_pop_1 : decode cK_pop 1 = .ok (.getfield 28, 3) := by decide +kernel
theorem dK_pop_4 : decode cK_pop 4 = .ok (.invokevirtual 176, 3) := by decide +kernel
theorem dK_pop_7 : decode cK_pop 7 = .ok (.istore_n 1, 1) := by decide +kernel
theorem dK_pop_8 : decode cK_pop 8 = .ok (.aload_n 0, 1) := by decide +kernel
theorem dK_pop_9 : decode cK_pop 9 = .ok (.getfield 28, 3) := by decide +kernel
theorem dK_pop_12 : decode cK_pop 12 = .ok (.iload_n 1, 1) := by decide +kernel
theorem dK_pop_13 : decode cK_pop 13 = .ok (.iconst 1, 1) := by decide +kernel
theorem dK_pop_14 : decode cK_pop 14 = .ok (.iadd, 1) := by decide +kernel
theorem dK_pop_15 : decode cK_pop 15 = .ok (.ldc 39, 2) := by decide +kernel
theorem dK_pop_17 : decode cK_pop 17 = .ok (.iand, 1) := by decide +kernel
theorem dK_pop_18 : decode cK_pop 18 = .ok (.invokevirtual 179, 3) := by decide +kernel
theorem dK_pop_21 : decode cK_pop 21 = .ok (.aload_n 0, 1) := by decide +kernel
theorem dK_pop_22 : decode cK_pop 22 = .ok (.iload_n 1, 1) := by decide +kernel
theorem dK_pop_23 : decode cK_pop 23 = .ok (.invokevirtual 131, 3) := by decide +kernel
theorem dK_pop_26 : decode cK_pop 26 = .ok (.ireturn, 1) := by decide +kernel
theorem dK_read_0 : decode cK_read 0 = .ok (.iload_n 1, 1) := by decide +kernel
theorem dK_read_1 : decode cK_read 1 = .ok (.sipush 255, 3) := by decide +kernel
theorem dK_read_4 : decode cK_read 4 = .ok (.iand, 1) := by decide +kernel
theorem dK_read_5 : decode cK_read 5 = .ok (.istore_n 2, 1) := by decide +kernel
theorem dK_read_6 : decode cK_read 6 = .ok (.aload_n 0, 1) := by decide +kernel
theorem dK_read_7 : decode cK_read 7 = .ok (.getfield 28, 3) := by decide +kernel
theorem dK_read_10 : decode cK_read 10 = .ok (.getfield 64, 3) := by decide +kernel
theorem dK_read_13 : decode cK_read 13 = .ok (.ifCond .eq 20, 3) := by decide +kernel
theorem dK_read_16 : decode cK_read 16 = .ok (.aload_n 0, 1) := by decide +kernel
theorem dK_read_17 : decode cK_read 17 = .ok (.getfield 13, 3) := by decide +kernel
theorem dK_read_20 : decode cK_read 20 = .ok (.iload_n 2, 1) := by decide +kernel
theorem dK_read_21 : decode cK_read 21 = .ok (.iaload, 1) := by decide +kernel
theorem dK_read_22 : decode cK_read 22 = .ok (.iconst 1, 1) := by decide +kernel
theorem dK_read_23 : decode cK_read 23 = .ok (.if_icmp .eq 10, 3) := by decide +kernel
theorem dK_read_26 : decode cK_read 26 = .ok (.aload_n 0, 1) := by decide +kernel
theorem dK_read_27 : decode cK_read 27 = .ok (.iconst 2, 1) := by decide +kernel
theorem dK_read_28 : decode cK_read 28 = .ok (.putfield 101, 3) := by decide +kernel
theorem dK_read_31 : decode cK_read 31 = .ok (.iconst 0, 1) := by decide +kernel
theorem dK_read_32 : decode cK_read 32 = .ok (.ireturn, 1) := by decide +kernel
theorem dK_read_33 : decode cK_read 33 = .ok (.aload_n 0, 1) := by decide +kernel
theorem dK_read_34 : decode cK_read 34 = .ok (.getfield 9, 3) := by decide +kernel
theorem dK_read_37 : decode cK_read 37 = .ok (.iload_n 2, 1) := by decide +kernel
theorem dK_read_38 : decode cK_read 38 = .ok (.iaload, 1) := by decide +kernel
theorem dK_read_39 : decode cK_read 39 = .ok (.ireturn, 1) := by decide +kernel
theorem dK_write_0 : decode cK_write 0 = .ok (.iload_n 1, 1) := by decide +kernel
theorem dK_write_1 : decode cK_write 1 = .ok (.sipush 255, 3) := by decide +kernel
theorem dK_write_4 : decode cK_write 4 = .ok (.iand, 1) := by decide +kernel
theorem dK_write_5 : decode cK_write 5 = .ok (.istore_n 3, 1) := by decide +kernel
theorem dK_write_6 : decode cK_write 6 = .ok (.aload_n 0, 1) := by decide +kernel
theorem dK_write_7 : decode cK_write 7 = .ok (.getfield 28, 3) := by decide +kernel
theorem dK_write_10 : decode cK_write 10 = .ok (.getfield 64, 3) := by decide +kernel
theorem dK_write_13 : decode cK_write 13 = .ok (.ifCond .eq 18, 3) := by decide +kernel
theorem dK_write_16 : decode cK_write 16 = .ok (.aload_n 0, 1) := by decide +kernel
theorem dK_write_17 : decode cK_write 17 = .ok (.getfield 13, 3) := by decide +kernel
theorem dK_write_20 : decode cK_write 20 = .ok (.iload_n 3, 1) := by decide +kernel
theorem dK_write_21 : decode cK_write 21 = .ok (.iaload, 1) := by decide +kernel
theorem dK_write_22 : decode cK_write 22 = .ok (.iconst 1, 1) := by decide +kernel
theorem dK_write_23 : decode cK_write 23 = .ok (.if_icmp .eq 8, 3) := by decide +kernel
theorem dK_write_26 : decode cK_write 26 = .ok (.aload_n 0, 1) := by decide +kernel
theorem dK_write_27 : decode cK_write 27 = .ok (.iconst 2, 1) := by decide +kernel
theorem dK_write_28 : decode cK_write 28 = .ok (.putfield 101, 3) := by decide +kernel
theorem dK_write_31 : decode cK_write 31 = .ok (.aload_n 0, 1) := by decide +kernel
theorem dK_write_32 : decode cK_write 32 = .ok (.getfield 101, 3) := by decide +kernel
theorem dK_write_35 : decode cK_write 35 = .ok (.ifCond .ne 10, 3) := by decide +kernel
theorem dK_write_38 : decode cK_write 38 = .ok (.aload_n 0, 1) := by decide +kernel
theorem dK_write_39 : decode cK_write 39 = .ok (.getfield 9, 3) := by decide +kernel
theorem dK_write_42 : decode cK_write 42 = .ok (.iload_n 3, 1) := by decide +kernel
theorem dK_write_43 : decode cK_write 43 = .ok (.iload_n 2, 1) := by decide +kernel
theorem dK_write_44 : decode cK_write 44 = .ok (.iastore, 1) := by decide +kernel
theorem dK_write_45 : decode cK_write 45 = .ok (.return_, 1) := by decide +kernel
theorem dQ_init_0 : decode cQ_init 0 = .ok (.aload_n 0, 1) := by decide +kernel
theorem dQ_init_1 : decode cQ_init 1 = .ok (.invokespecial 3, 3) := by decide +kernel
theorem dQ_init_4 : decode cQ_init 4 = .ok (.aload_n 0, 1) := by decide +kernel
theorem dQ_init_5 : decode cQ_init 5 = .ok (.bipush 8, 2) := by decide +kernel
theorem dQ_init_7 : decode cQ_init 7 = .ok (.newarray .int, 2) := by decide +kernel
theorem dQ_init_9 : decode cQ_init 9 = .ok (.putfield 9, 3) := by decide +kernel
theorem dQ_init_12 : decode cQ_init 12 = .ok (.aload_n 0, 1) := by decide +kernel
theorem dQ_init_13 : decode cQ_init 13 = .ok (.sipush 256, 3) := by decide +kernel
theorem dQ_init_16 : decode cQ_init 16 = .ok (.putfield 15, 3) := by decide +kernel
theorem dQ_init_19 : decode cQ_init 19 = .ok (.aload_n 0, 1) := by decide +kernel
theorem dQ_init_20 : decode cQ_init 20 = .ok (.sipush 256, 3) := by decide +kernel
theorem dQ_init_23 : decode cQ_init 23 = .ok (.putfield 19, 3) := by decide +kernel
theorem dQ_init_26 : decode cQ_init 26 = .ok (.return_, 1) := by decide +kernel
theorem dQ_copy_0 : decode cQ_copy 0 = .ok (.aload_n 1, 1) := by decide +kernel
theorem dQ_copy_1 : decode cQ_copy 1 = .ok (.getfield 9, 3) := by decide +kernel
theorem dQ_copy_4 : decode cQ_copy 4 = .ok (.iconst 0, 1) := by decide +kernel
theorem dQ_copy_5 : decode cQ_copy 5 = .ok (.aload_n 0, 1) := by decide +kernel
theorem dQ_copy_6 : decode cQ_copy 6 = .ok (.getfield 9, 3) := by decide +kernel
theorem dQ_copy_9 : decode cQ_copy 9 = .ok (.iconst 0, 1) := by decide +kernel
theorem dQ_copy_10 : decode cQ_copy 10 = .ok (.bipush 8, 2) := by decide +kernel
theorem dQ_copy_12 : decode cQ_copy 12 = .ok (.invokestatic 22, 3) := by decide +kernel
theorem dQ_copy_15 : decode cQ_copy 15 = .ok (.aload_n 0, 1) := by decide +kernel
theorem dQ_copy_16 : decode cQ_copy 16 = .ok (.aload_n 1, 1) := by decide +kernel
theorem dQ_copy_17 : decode cQ_copy 17 = .ok (.getfield 15, 3) := by decide +kernel
theorem dQ_copy_20 : decode cQ_copy 20 = .ok (.putfield 15, 3) := by decide +kernel
theorem dQ_copy_23 : decode cQ_copy 23 = .ok (.aload_n 0, 1) := by decide +kernel
theorem dQ_copy_24 : decode cQ_copy 24 = .ok (.aload_n 1, 1) := by decide +kernel
theorem dQ_copy_25 : decode cQ_copy 25 = .ok (.getfield 19, 3) := by decide +kernel
theorem dQ_copy_28 : decode cQ_copy 28 = .ok (.putfield 19, 3) := by decide +kernel
theorem dQ_copy_31 : decode cQ_copy 31 = .ok (.aload_n 0, 1) := by decide +kernel
theorem dQ_copy_32 : decode cQ_copy 32 = .ok (.aload_n 1, 1) := by decide +kernel
theorem dQ_copy_33 : decode cQ_copy 33 = .ok (.getfield 28, 3) := by decide +kernel
theorem dQ_copy_36 : decode cQ_copy 36 = .ok (.putfield 28, 3) := by decide +kernel
theorem dQ_copy_39 : decode cQ_copy 39 = .ok (.aload_n 0, 1) := by decide +kernel
theorem dQ_copy_40 : decode cQ_copy 40 = .ok (.aload_n 1, 1) := by decide +kernel
theorem dQ_copy_41 : decode cQ_copy 41 = .ok (.getfield 31, 3) := by decide +kernel
theorem dQ_copy_44 : decode cQ_copy 44 = .ok (.putfield 31, 3) := by decide +kernel
theorem dQ_copy_47 : decode cQ_copy 47 = .ok (.aload_n 0, 1) := by decide +kernel
theorem dQ_copy_48 : decode cQ_copy 48 = .ok (.aload_n 1, 1) := by decide +kernel
theorem dQ_copy_49 : decode cQ_copy 49 = .ok (.getfield 35, 3) := by decide +kernel
theorem dQ_copy_52 : decode cQ_copy 52 = .ok (.putfield 35, 3) := by decide +kernel
theorem dQ_copy_55 : decode cQ_copy 55 = .ok (.aload_n 0, 1) := by decide +kernel
theorem dQ_copy_56 : decode cQ_copy 56 = .ok (.aload_n 1, 1) := by decide +kernel
theorem dQ_copy_57 : decode cQ_copy 57 = .ok (.getfield 38, 3) := by decide +kernel
theorem dQ_copy_60 : decode cQ_copy 60 = .ok (.putfield 38, 3) := by decide +kernel
theorem dQ_copy_63 : decode cQ_copy 63 = .ok (.return_, 1) := by decide +kernel
theorem dQ_stack_0 : decode cQ_stack 0 = .ok (.aload_n 0, 1) := by decide +kernel
theorem dQ_stack_1 : decode cQ_stack 1 = .ok (.getfield 35, 3) := by decide +kernel
theorem dQ_stack_4 : decode cQ_stack 4 = .ok (.ifCond .eq 10, 3) := by decide +kernel
theorem dQ_stack_7 : decode cQ_stack 7 = .ok (.aload_n 0, 1) := by decide +kernel
theorem dQ_stack_8 : decode cQ_stack 8 = .ok (.getfield 19, 3) := by decide +kernel
theorem dQ_stack_11 : decode cQ_stack 11 = .ok (.goto 7, 3) := by decide +kernel
theorem dQ_stack_14 : decode cQ_stack 14 = .ok (.aload_n 0, 1) := by decide +kernel
theorem dQ_stack_15 : decode cQ_stack 15 = .ok (.getfield 15, 3) := by decide +kernel
theorem dQ_stack_18 : decode cQ_stack 18 = .ok (.ireturn, 1) := by decide +kernel
theorem dQ_setStack_0 : decode cQ_setStack 0 = .ok (.aload_n 0, 1) := by decide +kernel
theorem dQ_setStack_1 : decode cQ_setStack 1 = .ok (.getfield 35, 3) := by decide +kernel
theorem dQ_setStack_4 : decode cQ_setStack 4 = .ok (.ifCond .eq 11, 3) := by decide +kernel
theorem dQ_setStack_7 : decode cQ_setStack 7 = .ok (.aload_n 0, 1) := by decide +kernel
theorem dQ_setStack_8 : decode cQ_setStack 8 = .ok (.iload_n 1, 1) := by decide +kernel
theorem dQ_setStack_9 : decode cQ_setStack 9 = .ok (.putfield 19, 3) := by decide +kernel
theorem dQ_setStack_12 : decode cQ_setStack 12 = .ok (.goto 8, 3) := by decide +kernel
theorem dQ_setStack_15 : decode cQ_setStack 15 = .ok (.aload_n 0, 1) := by decide +kernel
theorem dQ_setStack_16 : decode cQ_setStack 16 = .ok (.iload_n 1, 1) := by decide +kernel
theorem dQ_setStack_17 : decode cQ_setStack 17 = .ok (.putfield 15, 3) := by decide +kernel
theorem dQ_setStack_20 : decode cQ_setStack 20 = .ok (.return_, 1) := by decide +kernel
theorem dQ_clearForOpen_0 : decode cQ_clearForOpen 0 = .ok (.iconst 0, 1) := by decide +kernel
theorem dQ_clearForOpen_1 : decode cQ_clearForOpen 1 = .ok (.istore_n 1, 1) := by decide +kernel
theorem dQ_clearForOpen_2 : decode cQ_clearForOpen 2 = .ok (.iload_n 1, 1) := by decide +kernel
theorem dQ_clearForOpen_3 : decode cQ_clearForOpen 3 = .ok (.bipush 6, 2) := by decide +kernel
theorem dQ_clearForOpen_5 : decode cQ_clearForOpen 5 = .ok (.if_icmp .ge 16, 3) := by decide +kernel
theorem dQ_clearForOpen_8 : decode cQ_clearForOpen 8 = .ok (.aload_n 0, 1) := by decide +kernel
theorem dQ_clearForOpen_9 : decode cQ_clearForOpen 9 = .ok (.getfield 9, 3) := by decide +kernel
theorem dQ_clearForOpen_12 : decode cQ_clearForOpen 12 = .ok (.iload_n 1, 1) := by decide +kernel
theorem dQ_clearForOpen_13 : decode cQ_clearForOpen 13 = .ok (.iconst 0, 1) := by decide +kernel
theorem dQ_clearForOpen_14 : decode cQ_clearForOpen 14 = .ok (.iastore, 1) := by decide +kernel
theorem dQ_clearForOpen_15 : decode cQ_clearForOpen 15 = .ok (.iinc 1 1, 3) := by decide +kernel
theorem dQ_clearForOpen_18 : decode cQ_clearForOpen 18 = .ok (.goto (-16), 3) := by decide +kernel
theorem dQ_clearForOpen_21 : decode cQ_clearForOpen 21 = .ok (.aload_n 0, 1) := by decide +kernel
theorem dQ_clearForOpen_22 : decode cQ_clearForOpen 22 = .ok (.iconst 0, 1) := by decide +kernel
theorem dQ_clearForOpen_23 : decode cQ_clearForOpen 23 = .ok (.putfield 31, 3) := by decide +kernel
theorem dQ_clearForOpen_26 : decode cQ_clearForOpen 26 = .ok (.return_, 1) := by decide +kernel
