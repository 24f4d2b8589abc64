theorem d_SP_init_0 : decode b_SP_init 0 = .ok (.aload_n 0, 1) := by decide +kernel
theorem d_SP_init_1 : decode b_SP_init 1 = .ok (.invokespecial 3, 3) := by decide +kernel
theorem d_SP_init_4 : decode b_SP_init 4 = .ok (.aload_n 0, 1) := by decide +kernel
theorem d_SP_init_5 : decode b_SP_init 5 = .ok (.new 9, 3) := by decide +kernel
theorem d_SP_init_8 : decode b_SP_init 8 = .ok (.dup, 1) := by decide +kernel
theorem d_SP_init_9 : decode b_SP_init 9 = .ok (.invokespecial 11, 3) := by decide +kernel
theorem d_SP_init_12 : decode b_SP_init 12 = .ok (.putfield 12, 3) := by decide +kernel
theorem d_SP_init_15 : decode b_SP_init 15 = .ok (.aload_n 0, 1) := by decide +kernel
theorem d_SP_init_16 : decode b_SP_init 16 = .ok (.new 16, 3) := by decide +kernel
theorem d_SP_init_19 : decode b_SP_init 19 = .ok (.dup, 1) := by decide +kernel
theorem d_SP_init_20 : decode b_SP_init 20 = .ok (.invokespecial 18, 3) := by decide +kernel
theorem d_SP_init_23 : decode b_SP_init 23 = .ok (.putfield 19, 3) := by decide +kernel
theorem d_SP_init_26 : decode b_SP_init 26 = .ok (.aload_n 0, 1) := by decide +kernel
theorem d_SP_init_27 : decode b_SP_init 27 = .ok (.new 23, 3) := by decide +kernel
theorem d_SP_init_30 : decode b_SP_init 30 = .ok (.dup, 1) := by decide +kernel
theorem d_SP_init_31 : decode b_SP_init 31 = .ok (.invokespecial 25, 3) := by decide +kernel
theorem d_SP_init_34 : decode b_SP_init 34 = .ok (.putfield 26, 3) := by decide +kernel
theorem d_SP_init_37 : decode b_SP_init 37 = .ok (.aload_n 0, 1) := by decide +kernel
theorem d_SP_init_38 : decode b_SP_init 38 = .ok (.bipush 8, 2) := by decide +kernel
theorem d_SP_init_40 : decode b_SP_init 40 = .ok (.sipush 480, 3) := by decide +kernel
theorem d_SP_init_43 : decode b_SP_init 43 = .ok (.multianewarray 30 2, 4) := by decide +kernel
theorem d_SP_init_47 : decode b_SP_init 47 = .ok (.putfield 32, 3) := by decide +kernel
theorem d_SP_init_50 : decode b_SP_init 50 = .ok (.aload_n 0, 1) := by decide +kernel
theorem d_SP_init_51 : decode b_SP_init 51 = .ok (.new 35, 3) := by decide +kernel
theorem d_SP_init_54 : decode b_SP_init 54 = .ok (.dup, 1) := by decide +kernel
theorem d_SP_init_55 : decode b_SP_init 55 = .ok (.invokespecial 37, 3) := by decide +kernel
theorem d_SP_init_58 : decode b_SP_init 58 = .ok (.putfield 38, 3) := by decide +kernel
theorem d_SP_init_61 : decode b_SP_init 61 = .ok (.return_, 1) := by decide +kernel
theorem d_Re_init_0 : decode b_Re_init 0 = .ok (.aload_n 0, 1) := by decide +kernel
theorem d_Re_init_1 : decode b_Re_init 1 = .ok (.invokespecial 3, 3) := by decide +kernel
theorem d_Re_init_4 : decode b_Re_init 4 = .ok (.aload_n 0, 1) := by decide +kernel
theorem d_Re_init_5 : decode b_Re_init 5 = .ok (.new 9, 3) := by decide +kernel
theorem d_Re_init_8 : decode b_Re_init 8 = .ok (.dup, 1) := by decide +kernel
theorem d_Re_init_9 : decode b_Re_init 9 = .ok (.invokespecial 11, 3) := by decide +kernel
theorem d_Re_init_12 : decode b_Re_init 12 = .ok (.putfield 12, 3) := by decide +kernel
theorem d_Re_init_15 : decode b_Re_init 15 = .ok (.aload_n 0, 1) := by decide +kernel
theorem d_Re_init_16 : decode b_Re_init 16 = .ok (.new 18, 3) := by decide +kernel
theorem d_Re_init_19 : decode b_Re_init 19 = .ok (.dup, 1) := by decide +kernel
theorem d_Re_init_20 : decode b_Re_init 20 = .ok (.invokespecial 20, 3) := by decide +kernel
theorem d_Re_init_23 : decode b_Re_init 23 = .ok (.putfield 21, 3) := by decide +kernel
theorem d_Re_init_26 : decode b_Re_init 26 = .ok (.aload_n 0, 1) := by decide +kernel
theorem d_Re_init_27 : decode b_Re_init 27 = .ok (.iconst (-1), 1) := by decide +kernel
theorem d_Re_init_28 : decode b_Re_init 28 = .ok (.putfield 25, 3) := by decide +kernel
theorem d_Re_init_31 : decode b_Re_init 31 = .ok (.return_, 1) := by decide +kernel
theorem d_Te_init_0 : decode b_Te_init 0 = .ok (.aload_n 0, 1) := by decide +kernel
theorem d_Te_init_1 : decode b_Te_init 1 = .ok (.invokespecial 1, 3) := by decide +kernel
theorem d_Te_init_4 : decode b_Te_init 4 = .ok (.aload_n 0, 1) := by decide +kernel
theorem d_Te_init_5 : decode b_Te_init 5 = .ok (.sipush 600, 3) := by decide +kernel
theorem d_Te_init_8 : decode b_Te_init 8 = .ok (.newarray .char, 2) := by decide +kernel
theorem d_Te_init_10 : decode b_Te_init 10 = .ok (.putfield 9, 3) := by decide +kernel
theorem d_Te_init_13 : decode b_Te_init 13 = .ok (.return_, 1) := by decide +kernel
theorem d_Pl_init_0 : decode b_Pl_init 0 = .ok (.aload_n 0, 1) := by decide +kernel
theorem d_Pl_init_1 : decode b_Pl_init 1 = .ok (.invokespecial 5, 3) := by decide +kernel
theorem d_Pl_init_4 : decode b_Pl_init 4 = .ok (.aload_n 0, 1) := by decide +kernel
theorem d_Pl_init_5 : decode b_Pl_init 5 = .ok (.sipush 480, 3) := by decide +kernel
theorem d_Pl_init_8 : decode b_Pl_init 8 = .ok (.newarray .int, 2) := by decide +kernel
theorem d_Pl_init_10 : decode b_Pl_init 10 = .ok (.putfield 11, 3) := by decide +kernel
theorem d_Pl_init_13 : decode b_Pl_init 13 = .ok (.aload_n 0, 1) := by decide +kernel
theorem d_Pl_init_14 : decode b_Pl_init 14 = .ok (.sipush 480, 3) := by decide +kernel
theorem d_Pl_init_17 : decode b_Pl_init 17 = .ok (.newarray .boolean, 2) := by decide +kernel
theorem d_Pl_init_19 : decode b_Pl_init 19 = .ok (.putfield 17, 3) := by decide +kernel
theorem d_Pl_init_22 : decode b_Pl_init 22 = .ok (.aload_n 0, 1) := by decide +kernel
theorem d_Pl_init_23 : decode b_Pl_init 23 = .ok (.bipush 41, 2) := by decide +kernel
theorem d_Pl_init_25 : decode b_Pl_init 25 = .ok (.newarray .boolean, 2) := by decide +kernel
theorem d_Pl_init_27 : decode b_Pl_init 27 = .ok (.putfield 21, 3) := by decide +kernel
theorem d_Pl_init_30 : decode b_Pl_init 30 = .ok (.aload_n 0, 1) := by decide +kernel
theorem d_Pl_init_31 : decode b_Pl_init 31 = .ok (.bipush 41, 2) := by decide +kernel
theorem d_Pl_init_33 : decode b_Pl_init 33 = .ok (.newarray .boolean, 2) := by decide +kernel
theorem d_Pl_init_35 : decode b_Pl_init 35 = .ok (.putfield 24, 3) := by decide +kernel
theorem d_Pl_init_38 : decode b_Pl_init 38 = .ok (.aload_n 0, 1) := by decide +kernel
theorem d_Pl_init_39 : decode b_Pl_init 39 = .ok (.bipush 61, 2) := by decide +kernel
theorem d_Pl_init_41 : decode b_Pl_init 41 = .ok (.newarray .int, 2) := by decide +kernel
theorem d_Pl_init_43 : decode b_Pl_init 43 = .ok (.putfield 27, 3) := by decide +kernel
theorem d_Pl_init_46 : decode b_Pl_init 46 = .ok (.aload_n 0, 1) := by decide +kernel
theorem d_Pl_init_47 : decode b_Pl_init 47 = .ok (.bipush 66, 2) := by decide +kernel
theorem d_Pl_init_49 : decode b_Pl_init 49 = .ok (.newarray .int, 2) := by decide +kernel
theorem d_Pl_init_51 : decode b_Pl_init 51 = .ok (.putfield 30, 3) := by decide +kernel
theorem d_Pl_init_54 : decode b_Pl_init 54 = .ok (.aload_n 0, 1) := by decide +kernel
theorem d_Pl_init_55 : decode b_Pl_init 55 = .ok (.bipush 66, 2) := by decide +kernel
theorem d_Pl_init_57 : decode b_Pl_init 57 = .ok (.newarray .int, 2) := by decide +kernel
theorem d_Pl_init_59 : decode b_Pl_init 59 = .ok (.putfield 33, 3) := by decide +kernel
theorem d_Pl_init_62 : decode b_Pl_init 62 = .ok (.aload_n 0, 1) := by decide +kernel
theorem d_Pl_init_63 : decode b_Pl_init 63 = .ok (.bipush 66, 2) := by decide +kernel
theorem d_Pl_init_65 : decode b_Pl_init 65 = .ok (.newarray .int, 2) := by decide +kernel
theorem d_Pl_init_67 : decode b_Pl_init 67 = .ok (.putfield 36, 3) := by decide +kernel
theorem d_Pl_init_70 : decode b_Pl_init 70 = .ok (.aload_n 0, 1) := by decide +kernel
theorem d_Pl_init_71 : decode b_Pl_init 71 = .ok (.bipush 66, 2) := by decide +kernel
theorem d_Pl_init_73 : decode b_Pl_init 73 = .ok (.newarray .int, 2) := by decide +kernel
theorem d_Pl_init_75 : decode b_Pl_init 75 = .ok (.putfield 39, 3) := by decide +kernel
theorem d_Pl_init_78 : decode b_Pl_init 78 = .ok (.return_, 1) := by decide +kernel
theorem d_Fa_init_0 : decode b_Fa_init 0 = .ok (.aload_n 0, 1) := by decide +kernel
theorem d_Fa_init_1 : decode b_Fa_init 1 = .ok (.invokespecial 3, 3) := by decide +kernel
theorem d_Fa_init_4 : decode b_Fa_init 4 = .ok (.aload_n 0, 1) := by decide +kernel
theorem d_Fa_init_5 : decode b_Fa_init 5 = .ok (.sipush 500, 3) := by decide +kernel
theorem d_Fa_init_8 : decode b_Fa_init 8 = .ok (.newarray .int, 2) := by decide +kernel
theorem d_Fa_init_10 : decode b_Fa_init 10 = .ok (.putfield 11, 3) := by decide +kernel
theorem d_Fa_init_13 : decode b_Fa_init 13 = .ok (.return_, 1) := by decide +kernel
theorem d_Sh_init_0 : decode b_Sh_init 0 = .ok (.aload_n 0, 1) := by decide +kernel
theorem d_Sh_init_1 : decode b_Sh_init 1 = .ok (.invokespecial 3, 3) := by decide +kernel
theorem d_Sh_init_4 : decode b_Sh_init 4 = .ok (.aload_n 0, 1) := by decide +kernel
theorem d_Sh_init_5 : decode b_Sh_init 5 = .ok (.sipush 240, 3) := by decide +kernel
theorem d_Sh_init_8 : decode b_Sh_init 8 = .ok (.newarray .char, 2) := by decide +kernel
theorem d_Sh_init_10 : decode b_Sh_init 10 = .ok (.putfield 11, 3) := by decide +kernel
theorem d_Sh_init_13 : decode b_Sh_init 13 = .ok (.return_, 1) := by decide +kernel
theorem d_SP_sign_0 : decode b_SP_sign 0 = .ok (.aload_n 0, 1) := by decide +kernel
theorem d_SP_sign_1 : decode b_SP_sign 1 = .ok (.getfield 12, 3) := by decide +kernel
theorem d_SP_sign_4 : decode b_SP_sign 4 = .ok (.getfield 42, 3) := by decide +kernel
theorem d_SP_sign_7 : decode b_SP_sign 7 = .ok (.iload_n 1, 1) := by decide +kernel
theorem d_SP_sign_8 : decode b_SP_sign 8 = .ok (.invokevirtual 46, 3) := by decide +kernel
theorem d_SP_sign_11 : decode b_SP_sign 11 = .ok (.return_, 1) := by decide +kernel
theorem d_Te_put_0 : decode b_Te_put 0 = .ok (.iload_n 1, 1) := by decide +kernel
theorem d_Te_put_1 : decode b_Te_put 1 = .ok (.bipush 32, 2) := by decide +kernel
theorem d_Te_put_3 : decode b_Te_put 3 = .ok (.bipush 126, 2) := by decide +kernel
theorem d_Te_put_5 : decode b_Te_put 5 = .ok (.invokestatic 13, 3) := by decide +kernel
theorem d_Te_put_8 : decode b_Te_put 8 = .ok (.ifCond .eq 34, 3) := by decide +kernel
theorem d_Te_put_11 : decode b_Te_put 11 = .ok (.aload_n 0, 1) := by decide +kernel
theorem d_Te_put_12 : decode b_Te_put 12 = .ok (.getfield 19, 3) := by decide +kernel
theorem d_Te_put_15 : decode b_Te_put 15 = .ok (.sipush 600, 3) := by decide +kernel
theorem d_Te_put_18 : decode b_Te_put 18 = .ok (.if_icmp .ge 24, 3) := by decide +kernel
theorem d_Te_put_21 : decode b_Te_put 21 = .ok (.aload_n 0, 1) := by decide +kernel
theorem d_Te_put_22 : decode b_Te_put 22 = .ok (.getfield 9, 3) := by decide +kernel
theorem d_Te_put_25 : decode b_Te_put 25 = .ok (.aload_n 0, 1) := by decide +kernel
theorem d_Te_put_26 : decode b_Te_put 26 = .ok (.getfield 19, 3) := by decide +kernel
theorem d_Te_put_29 : decode b_Te_put 29 = .ok (.iload_n 1, 1) := by decide +kernel
theorem d_Te_put_30 : decode b_Te_put 30 = .ok (.i2c, 1) := by decide +kernel
theorem d_Te_put_31 : decode b_Te_put 31 = .ok (.castore, 1) := by decide +kernel
theorem d_Te_put_32 : decode b_Te_put 32 = .ok (.aload_n 0, 1) := by decide +kernel
theorem d_Te_put_33 : decode b_Te_put 33 = .ok (.dup, 1) := by decide +kernel
theorem d_Te_put_34 : decode b_Te_put 34 = .ok (.getfield 19, 3) := by decide +kernel
theorem d_Te_put_37 : decode b_Te_put 37 = .ok (.iconst 1, 1) := by decide +kernel
theorem d_Te_put_38 : decode b_Te_put 38 = .ok (.iadd, 1) := by decide +kernel
theorem d_Te_put_39 : decode b_Te_put 39 = .ok (.putfield 19, 3) := by decide +kernel
theorem d_Te_put_42 : decode b_Te_put 42 = .ok (.return_, 1) := by decide +kernel
theorem d_SP_isWithin_0 : decode b_SP_isWithin 0 = .ok (.iload_n 0, 1) := by decide +kernel
theorem d_SP_isWithin_1 : decode b_SP_isWithin 1 = .ok (.iload_n 1, 1) := by decide +kernel
theorem d_SP_isWithin_2 : decode b_SP_isWithin 2 = .ok (.if_icmp .lt 12, 3) := by decide +kernel
theorem d_SP_isWithin_5 : decode b_SP_isWithin 5 = .ok (.iload_n 0, 1) := by decide +kernel
theorem d_SP_isWithin_6 : decode b_SP_isWithin 6 = .ok (.iload_n 2, 1) := by decide +kernel
theorem d_SP_isWithin_7 : decode b_SP_isWithin 7 = .ok (.if_icmp .gt 7, 3) := by decide +kernel
theorem d_SP_isWithin_10 : decode b_SP_isWithin 10 = .ok (.iconst 1, 1) := by decide +kernel
theorem d_SP_isWithin_11 : decode b_SP_isWithin 11 = .ok (.goto 4, 3) := by decide +kernel
theorem d_SP_isWithin_14 : decode b_SP_isWithin 14 = .ok (.iconst 0, 1) := by decide +kernel
theorem d_SP_isWithin_15 : decode b_SP_isWithin 15 = .ok (.ireturn, 1) := by decide +kernel
theorem d_SP_read_0 : decode b_SP_read 0 = .ok (.aload_n 0, 1) := by decide +kernel
theorem d_SP_read_1 : decode b_SP_read 1 = .ok (.getfield 12, 3) := by decide +kernel
theorem d_SP_read_4 : decode b_SP_read 4 = .ok (.invokevirtual 52, 3) := by decide +kernel
theorem d_SP_read_7 : decode b_SP_read 7 = .ok (.istore_n 1, 1) := by decide +kernel
theorem d_SP_read_8 : decode b_SP_read 8 = .ok (.aload_n 0, 1) := by decide +kernel
theorem d_SP_read_9 : decode b_SP_read 9 = .ok (.getfield 12, 3) := by decide +kernel
theorem d_SP_read_12 : decode b_SP_read 12 = .ok (.getfield 42, 3) := by decide +kernel
theorem d_SP_read_15 : decode b_SP_read 15 = .ok (.getfield 56, 3) := by decide +kernel
theorem d_SP_read_18 : decode b_SP_read 18 = .ok (.istore_n 2, 1) := by decide +kernel
theorem d_SP_read_19 : decode b_SP_read 19 = .ok (.aload_n 0, 1) := by decide +kernel
theorem d_SP_read_20 : decode b_SP_read 20 = .ok (.getfield 12, 3) := by decide +kernel
theorem d_SP_read_23 : decode b_SP_read 23 = .ok (.getfield 42, 3) := by decide +kernel
theorem d_SP_read_26 : decode b_SP_read 26 = .ok (.iconst 0, 1) := by decide +kernel
theorem d_SP_read_27 : decode b_SP_read 27 = .ok (.putfield 56, 3) := by decide +kernel
theorem d_SP_read_30 : decode b_SP_read 30 = .ok (.aload_n 0, 1) := by decide +kernel
theorem d_SP_read_31 : decode b_SP_read 31 = .ok (.getfield 12, 3) := by decide +kernel
theorem d_SP_read_34 : decode b_SP_read 34 = .ok (.invokevirtual 60, 3) := by decide +kernel
theorem d_SP_read_37 : decode b_SP_read 37 = .ok (.ifCond .ne 13, 3) := by decide +kernel
theorem d_SP_read_40 : decode b_SP_read 40 = .ok (.iconst (-1), 1) := by decide +kernel
theorem d_SP_read_41 : decode b_SP_read 41 = .ok (.aload_n 0, 1) := by decide +kernel
theorem d_SP_read_42 : decode b_SP_read 42 = .ok (.getfield 12, 3) := by decide +kernel
theorem d_SP_read_45 : decode b_SP_read 45 = .ok (.getfield 64, 3) := by decide +kernel
theorem d_SP_read_48 : decode b_SP_read 48 = .ok (.isub, 1) := by decide +kernel
theorem d_SP_read_49 : decode b_SP_read 49 = .ok (.ireturn, 1) := by decide +kernel
theorem d_SP_read_50 : decode b_SP_read 50 = .ok (.aload_n 0, 1) := by decide +kernel
theorem d_SP_read_51 : decode b_SP_read 51 = .ok (.getfield 67, 3) := by decide +kernel
theorem d_SP_read_54 : decode b_SP_read 54 = .ok (.bipush 8, 2) := by decide +kernel
theorem d_SP_read_56 : decode b_SP_read 56 = .ok (.if_icmp .lt 7, 3) := by decide +kernel
theorem d_SP_read_59 : decode b_SP_read 59 = .ok (.iconst (-1), 1) := by decide +kernel
theorem d_SP_read_60 : decode b_SP_read 60 = .ok (.iload_n 2, 1) := by decide +kernel
theorem d_SP_read_61 : decode b_SP_read 61 = .ok (.isub, 1) := by decide +kernel
theorem d_SP_read_62 : decode b_SP_read 62 = .ok (.ireturn, 1) := by decide +kernel
theorem d_SP_read_63 : decode b_SP_read 63 = .ok (.aload_n 0, 1) := by decide +kernel
theorem d_SP_read_64 : decode b_SP_read 64 = .ok (.invokevirtual 70, 3) := by decide +kernel
theorem d_SP_read_67 : decode b_SP_read 67 = .ok (.iload_n 1, 1) := by decide +kernel
theorem d_SP_read_68 : decode b_SP_read 68 = .ok (.ireturn, 1) := by decide +kernel
theorem d_Re_readText_0 : decode b_Re_readText 0 = .ok (.aload_n 0, 1) := by decide +kernel
theorem d_Re_readText_1 : decode b_Re_readText 1 = .ok (.getfield 21, 3) := by decide +kernel
theorem d_Re_readText_4 : decode b_Re_readText 4 = .ok (.invokevirtual 29, 3) := by decide +kernel
theorem d_Re_readText_7 : decode b_Re_readText 7 = .ok (.aload_n 0, 1) := by decide +kernel
theorem d_Re_readText_8 : decode b_Re_readText 8 = .ok (.iconst 0, 1) := by decide +kernel
theorem d_Re_readText_9 : decode b_Re_readText 9 = .ok (.putfield 32, 3) := by decide +kernel
theorem d_Re_readText_12 : decode b_Re_readText 12 = .ok (.aload_n 0, 1) := by decide +kernel
theorem d_Re_readText_13 : decode b_Re_readText 13 = .ok (.iconst (-1), 1) := by decide +kernel
theorem d_Re_readText_14 : decode b_Re_readText 14 = .ok (.putfield 25, 3) := by decide +kernel
theorem d_Re_readText_17 : decode b_Re_readText 17 = .ok (.iconst 0, 1) := by decide +kernel
theorem d_Re_readText_18 : decode b_Re_readText 18 = .ok (.istore_n 1, 1) := by decide +kernel
theorem d_Re_readText_19 : decode b_Re_readText 19 = .ok (.iload_n 1, 1) := by decide +kernel
theorem d_Re_readText_20 : decode b_Re_readText 20 = .ok (.sipush 600, 3) := by decide +kernel
theorem d_Re_readText_23 : decode b_Re_readText 23 = .ok (.if_icmp .ge 34, 3) := by decide +kernel
theorem d_Re_readText_26 : decode b_Re_readText 26 = .ok (.aload_n 0, 1) := by decide +kernel
theorem d_Re_readText_27 : decode b_Re_readText 27 = .ok (.getfield 32, 3) := by decide +kernel
theorem d_Re_readText_30 : decode b_Re_readText 30 = .ok (.aload_n 0, 1) := by decide +kernel
theorem d_Re_readText_31 : decode b_Re_readText 31 = .ok (.getfield 12, 3) := by decide +kernel
theorem d_Re_readText_34 : decode b_Re_readText 34 = .ok (.getfield 35, 3) := by decide +kernel
theorem d_Re_readText_37 : decode b_Re_readText 37 = .ok (.if_icmp .ge 20, 3) := by decide +kernel
theorem d_Re_readText_40 : decode b_Re_readText 40 = .ok (.aload_n 0, 1) := by decide +kernel
theorem d_Re_readText_41 : decode b_Re_readText 41 = .ok (.invokevirtual 38, 3) := by decide +kernel
theorem d_Re_readText_44 : decode b_Re_readText 44 = .ok (.ifCond .eq 13, 3) := by decide +kernel
theorem d_Re_readText_47 : decode b_Re_readText 47 = .ok (.aload_n 0, 1) := by decide +kernel
theorem d_Re_readText_48 : decode b_Re_readText 48 = .ok (.invokevirtual 42, 3) := by decide +kernel
theorem d_Re_readText_51 : decode b_Re_readText 51 = .ok (.iinc 1 1, 3) := by decide +kernel
theorem d_Re_readText_54 : decode b_Re_readText 54 = .ok (.goto (-35), 3) := by decide +kernel
theorem d_Re_readText_57 : decode b_Re_readText 57 = .ok (.iload_n 1, 1) := by decide +kernel
theorem d_Re_readText_58 : decode b_Re_readText 58 = .ok (.ireturn, 1) := by decide +kernel
theorem d_Pl_clear_0 : decode b_Pl_clear 0 = .ok (.aload_n 0, 1) := by decide +kernel
theorem d_Pl_clear_1 : decode b_Pl_clear 1 = .ok (.getfield 11, 3) := by decide +kernel
theorem d_Pl_clear_4 : decode b_Pl_clear 4 = .ok (.iconst 0, 1) := by decide +kernel
theorem d_Pl_clear_5 : decode b_Pl_clear 5 = .ok (.invokestatic 42, 3) := by decide +kernel
theorem d_Pl_clear_8 : decode b_Pl_clear 8 = .ok (.aload_n 0, 1) := by decide +kernel
theorem d_Pl_clear_9 : decode b_Pl_clear 9 = .ok (.getfield 27, 3) := by decide +kernel
theorem d_Pl_clear_12 : decode b_Pl_clear 12 = .ok (.iconst 0, 1) := by decide +kernel
theorem d_Pl_clear_13 : decode b_Pl_clear 13 = .ok (.invokestatic 42, 3) := by decide +kernel
theorem d_Pl_clear_16 : decode b_Pl_clear 16 = .ok (.iconst 0, 1) := by decide +kernel
theorem d_Pl_clear_17 : decode b_Pl_clear 17 = .ok (.istore_n 1, 1) := by decide +kernel
theorem d_Pl_clear_18 : decode b_Pl_clear 18 = .ok (.iload_n 1, 1) := by decide +kernel
theorem d_Pl_clear_19 : decode b_Pl_clear 19 = .ok (.bipush 40, 2) := by decide +kernel
theorem d_Pl_clear_21 : decode b_Pl_clear 21 = .ok (.if_icmp .gt 23, 3) := by decide +kernel
theorem d_Pl_clear_24 : decode b_Pl_clear 24 = .ok (.aload_n 0, 1) := by decide +kernel
theorem d_Pl_clear_25 : decode b_Pl_clear 25 = .ok (.getfield 21, 3) := by decide +kernel
theorem d_Pl_clear_28 : decode b_Pl_clear 28 = .ok (.iload_n 1, 1) := by decide +kernel
theorem d_Pl_clear_29 : decode b_Pl_clear 29 = .ok (.iconst 0, 1) := by decide +kernel
theorem d_Pl_clear_30 : decode b_Pl_clear 30 = .ok (.bastore, 1) := by decide +kernel
theorem d_Pl_clear_31 : decode b_Pl_clear 31 = .ok (.aload_n 0, 1) := by decide +kernel
theorem d_Pl_clear_32 : decode b_Pl_clear 32 = .ok (.getfield 24, 3) := by decide +kernel
theorem d_Pl_clear_35 : decode b_Pl_clear 35 = .ok (.iload_n 1, 1) := by decide +kernel
theorem d_Pl_clear_36 : decode b_Pl_clear 36 = .ok (.iconst 0, 1) := by decide +kernel
theorem d_Pl_clear_37 : decode b_Pl_clear 37 = .ok (.bastore, 1) := by decide +kernel
theorem d_Pl_clear_38 : decode b_Pl_clear 38 = .ok (.iinc 1 1, 3) := by decide +kernel
theorem d_Pl_clear_41 : decode b_Pl_clear 41 = .ok (.goto (-23), 3) := by decide +kernel
theorem d_Pl_clear_44 : decode b_Pl_clear 44 = .ok (.aload_n 0, 1) := by decide +kernel
theorem d_Pl_clear_45 : decode b_Pl_clear 45 = .ok (.iconst 0, 1) := by decide +kernel
theorem d_Pl_clear_46 : decode b_Pl_clear 46 = .ok (.putfield 48, 3) := by decide +kernel
theorem d_Pl_clear_49 : decode b_Pl_clear 49 = .ok (.return_, 1) := by decide +kernel
theorem d_Ar_fill_0 : decode b_Ar_fill 0 = .ok (.iconst 0, 1) := by decide +kernel
theorem d_Ar_fill_1 : decode b_Ar_fill 1 = .ok (.istore_n 2, 1) := by decide +kernel
theorem d_Ar_fill_2 : decode b_Ar_fill 2 = .ok (.aload_n 0, 1) := by decide +kernel
theorem d_Ar_fill_3 : decode b_Ar_fill 3 = .ok (.arraylength, 1) := by decide +kernel
theorem d_Ar_fill_4 : decode b_Ar_fill 4 = .ok (.istore_n 3, 1) := by decide +kernel
theorem d_Ar_fill_5 : decode b_Ar_fill 5 = .ok (.iload_n 2, 1) := by decide +kernel
theorem d_Ar_fill_6 : decode b_Ar_fill 6 = .ok (.iload_n 3, 1) := by decide +kernel
theorem d_Ar_fill_7 : decode b_Ar_fill 7 = .ok (.if_icmp .ge 13, 3) := by decide +kernel
theorem d_Ar_fill_10 : decode b_Ar_fill 10 = .ok (.aload_n 0, 1) := by decide +kernel
theorem d_Ar_fill_11 : decode b_Ar_fill 11 = .ok (.iload_n 2, 1) := by decide +kernel
theorem d_Ar_fill_12 : decode b_Ar_fill 12 = .ok (.iload_n 1, 1) := by decide +kernel
theorem d_Ar_fill_13 : decode b_Ar_fill 13 = .ok (.iastore, 1) := by decide +kernel
theorem d_Ar_fill_14 : decode b_Ar_fill 14 = .ok (.iinc 2 1, 3) := by decide +kernel
theorem d_Ar_fill_17 : decode b_Ar_fill 17 = .ok (.goto (-12), 3) := by decide +kernel
theorem d_Ar_fill_20 : decode b_Ar_fill 20 = .ok (.return_, 1) := by decide +kernel
theorem d_Re_isFine_0 : decode b_Re_isFine 0 = .ok (.aload_n 0, 1) := by decide +kernel
theorem d_Re_isFine_1 : decode b_Re_isFine 1 = .ok (.getfield 25, 3) := by decide +kernel
theorem d_Re_isFine_4 : decode b_Re_isFine 4 = .ok (.iconst (-1), 1) := by decide +kernel
theorem d_Re_isFine_5 : decode b_Re_isFine 5 = .ok (.if_icmp .ne 7, 3) := by decide +kernel
theorem d_Re_isFine_8 : decode b_Re_isFine 8 = .ok (.iconst 1, 1) := by decide +kernel
theorem d_Re_isFine_9 : decode b_Re_isFine 9 = .ok (.goto 4, 3) := by decide +kernel
theorem d_Re_isFine_12 : decode b_Re_isFine 12 = .ok (.iconst 0, 1) := by decide +kernel
theorem d_Re_isFine_13 : decode b_Re_isFine 13 = .ok (.ireturn, 1) := by decide +kernel
theorem d_Re_readSentence_0 : decode b_Re_readSentence 0 = .ok (.aload_n 0, 1) := by decide +kernel
theorem d_Re_readSentence_1 : decode b_Re_readSentence 1 = .ok (.getfield 32, 3) := by decide +kernel
theorem d_Re_readSentence_4 : decode b_Re_readSentence 4 = .ok (.istore_n 1, 1) := by decide +kernel
theorem d_Re_readSentence_5 : decode b_Re_readSentence 5 = .ok (.aload_n 0, 1) := by decide +kernel
theorem d_Re_readSentence_6 : decode b_Re_readSentence 6 = .ok (.getfield 12, 3) := by decide +kernel
theorem d_Re_readSentence_9 : decode b_Re_readSentence 9 = .ok (.aload_n 0, 1) := by decide +kernel
theorem d_Re_readSentence_10 : decode b_Re_readSentence 10 = .ok (.getfield 32, 3) := by decide +kernel
theorem d_Re_readSentence_13 : decode b_Re_readSentence 13 = .ok (.invokevirtual 45, 3) := by decide +kernel
theorem d_Re_readSentence_16 : decode b_Re_readSentence 16 = .ok (.istore_n 2, 1) := by decide +kernel
theorem d_Re_readSentence_17 : decode b_Re_readSentence 17 = .ok (.aload_n 0, 1) := by decide +kernel
theorem d_Re_readSentence_18 : decode b_Re_readSentence 18 = .ok (.dup, 1) := by decide +kernel
theorem d_Re_readSentence_19 : decode b_Re_readSentence 19 = .ok (.getfield 32, 3) := by decide +kernel
theorem d_Re_readSentence_22 : decode b_Re_readSentence 22 = .ok (.iconst 1, 1) := by decide +kernel
theorem d_Re_readSentence_23 : decode b_Re_readSentence 23 = .ok (.iadd, 1) := by decide +kernel
theorem d_Re_readSentence_24 : decode b_Re_readSentence 24 = .ok (.putfield 32, 3) := by decide +kernel
theorem d_Re_readSentence_27 : decode b_Re_readSentence 27 = .ok (.iload_n 2, 1) := by decide +kernel
theorem d_Re_readSentence_28 : decode b_Re_readSentence 28 = .ok (.lookupswitch 59 #[(66, 43), (79, 51), (84, 36)], 36) := by decide +kernel
theorem d_Re_readSentence_64 : decode b_Re_readSentence 64 = .ok (.aload_n 0, 1) := by decide +kernel
theorem d_Re_readSentence_65 : decode b_Re_readSentence 65 = .ok (.invokevirtual 49, 3) := by decide +kernel
theorem d_Re_readSentence_68 : decode b_Re_readSentence 68 = .ok (.goto 24, 3) := by decide +kernel
theorem d_Re_readSentence_71 : decode b_Re_readSentence 71 = .ok (.aload_n 0, 1) := by decide +kernel
theorem d_Re_readSentence_72 : decode b_Re_readSentence 72 = .ok (.iload_n 1, 1) := by decide +kernel
theorem d_Re_readSentence_73 : decode b_Re_readSentence 73 = .ok (.invokevirtual 52, 3) := by decide +kernel
theorem d_Re_readSentence_76 : decode b_Re_readSentence 76 = .ok (.goto 16, 3) := by decide +kernel
theorem d_Re_readSentence_79 : decode b_Re_readSentence 79 = .ok (.aload_n 0, 1) := by decide +kernel
theorem d_Re_readSentence_80 : decode b_Re_readSentence 80 = .ok (.iload_n 1, 1) := by decide +kernel
theorem d_Re_readSentence_81 : decode b_Re_readSentence 81 = .ok (.invokevirtual 56, 3) := by decide +kernel
theorem d_Re_readSentence_84 : decode b_Re_readSentence 84 = .ok (.goto 8, 3) := by decide +kernel
theorem d_Re_readSentence_87 : decode b_Re_readSentence 87 = .ok (.aload_n 0, 1) := by decide +kernel
theorem d_Re_readSentence_88 : decode b_Re_readSentence 88 = .ok (.iload_n 1, 1) := by decide +kernel
theorem d_Re_readSentence_89 : decode b_Re_readSentence 89 = .ok (.putfield 25, 3) := by decide +kernel
theorem d_Re_readSentence_92 : decode b_Re_readSentence 92 = .ok (.return_, 1) := by decide +kernel
theorem d_Te_signAt_0 : decode b_Te_signAt 0 = .ok (.iload_n 1, 1) := by decide +kernel
theorem d_Te_signAt_1 : decode b_Te_signAt 1 = .ok (.ifCond .lt 20, 3) := by decide +kernel
theorem d_Te_signAt_4 : decode b_Te_signAt 4 = .ok (.iload_n 1, 1) := by decide +kernel
theorem d_Te_signAt_5 : decode b_Te_signAt 5 = .ok (.aload_n 0, 1) := by decide +kernel
theorem d_Te_signAt_6 : decode b_Te_signAt 6 = .ok (.getfield 19, 3) := by decide +kernel
theorem d_Te_signAt_9 : decode b_Te_signAt 9 = .ok (.if_icmp .ge 12, 3) := by decide +kernel
theorem d_Te_signAt_12 : decode b_Te_signAt 12 = .ok (.aload_n 0, 1) := by decide +kernel
theorem d_Te_signAt_13 : decode b_Te_signAt 13 = .ok (.getfield 9, 3) := by decide +kernel
theorem d_Te_signAt_16 : decode b_Te_signAt 16 = .ok (.iload_n 1, 1) := by decide +kernel
theorem d_Te_signAt_17 : decode b_Te_signAt 17 = .ok (.caload, 1) := by decide +kernel
theorem d_Te_signAt_18 : decode b_Te_signAt 18 = .ok (.goto 4, 3) := by decide +kernel
theorem d_Te_signAt_21 : decode b_Te_signAt 21 = .ok (.iconst 0, 1) := by decide +kernel
theorem d_Te_signAt_22 : decode b_Te_signAt 22 = .ok (.ireturn, 1) := by decide +kernel
theorem d_Re_readRange_0 : decode b_Re_readRange 0 = .ok (.aload_n 0, 1) := by decide +kernel
theorem d_Re_readRange_1 : decode b_Re_readRange 1 = .ok (.iconst 1, 1) := by decide +kernel
theorem d_Re_readRange_2 : decode b_Re_readRange 2 = .ok (.bipush 40, 2) := by decide +kernel
theorem d_Re_readRange_4 : decode b_Re_readRange 4 = .ok (.invokevirtual 59, 3) := by decide +kernel
theorem d_Re_readRange_7 : decode b_Re_readRange 7 = .ok (.istore_n 1, 1) := by decide +kernel
theorem d_Re_readRange_8 : decode b_Re_readRange 8 = .ok (.aload_n 0, 1) := by decide +kernel
theorem d_Re_readRange_9 : decode b_Re_readRange 9 = .ok (.bipush 44, 2) := by decide +kernel
theorem d_Re_readRange_11 : decode b_Re_readRange 11 = .ok (.invokevirtual 63, 3) := by decide +kernel
theorem d_Re_readRange_14 : decode b_Re_readRange 14 = .ok (.aload_n 0, 1) := by decide +kernel
theorem d_Re_readRange_15 : decode b_Re_readRange 15 = .ok (.iconst 0, 1) := by decide +kernel
theorem d_Re_readRange_16 : decode b_Re_readRange 16 = .ok (.sipush 9999, 3) := by decide +kernel
theorem d_Re_readRange_19 : decode b_Re_readRange 19 = .ok (.invokevirtual 59, 3) := by decide +kernel
theorem d_Re_readRange_22 : decode b_Re_readRange 22 = .ok (.istore_n 2, 1) := by decide +kernel
theorem d_Re_readRange_23 : decode b_Re_readRange 23 = .ok (.aload_n 0, 1) := by decide +kernel
theorem d_Re_readRange_24 : decode b_Re_readRange 24 = .ok (.bipush 45, 2) := by decide +kernel
theorem d_Re_readRange_26 : decode b_Re_readRange 26 = .ok (.invokevirtual 63, 3) := by decide +kernel
theorem d_Re_readRange_29 : decode b_Re_readRange 29 = .ok (.aload_n 0, 1) := by decide +kernel
theorem d_Re_readRange_30 : decode b_Re_readRange 30 = .ok (.iload_n 2, 1) := by decide +kernel
theorem d_Re_readRange_31 : decode b_Re_readRange 31 = .ok (.sipush 9999, 3) := by decide +kernel
theorem d_Re_readRange_34 : decode b_Re_readRange 34 = .ok (.invokevirtual 59, 3) := by decide +kernel
theorem d_Re_readRange_37 : decode b_Re_readRange 37 = .ok (.istore_n 3, 1) := by decide +kernel
theorem d_Re_readRange_38 : decode b_Re_readRange 38 = .ok (.aload_n 0, 1) := by decide +kernel
theorem d_Re_readRange_39 : decode b_Re_readRange 39 = .ok (.bipush 44, 2) := by decide +kernel
theorem d_Re_readRange_41 : decode b_Re_readRange 41 = .ok (.invokevirtual 63, 3) := by decide +kernel
theorem d_Re_readRange_44 : decode b_Re_readRange 44 = .ok (.aload_n 0, 1) := by decide +kernel
theorem d_Re_readRange_45 : decode b_Re_readRange 45 = .ok (.iconst 0, 1) := by decide +kernel
theorem d_Re_readRange_46 : decode b_Re_readRange 46 = .ok (.bipush 9, 2) := by decide +kernel
theorem d_Re_readRange_48 : decode b_Re_readRange 48 = .ok (.invokevirtual 59, 3) := by decide +kernel
theorem d_Re_readRange_51 : decode b_Re_readRange 51 = .ok (.istore 4, 2) := by decide +kernel
theorem d_Re_readRange_53 : decode b_Re_readRange 53 = .ok (.aload_n 0, 1) := by decide +kernel
theorem d_Re_readRange_54 : decode b_Re_readRange 54 = .ok (.bipush 59, 2) := by decide +kernel
theorem d_Re_readRange_56 : decode b_Re_readRange 56 = .ok (.invokevirtual 63, 3) := by decide +kernel
theorem d_Re_readRange_59 : decode b_Re_readRange 59 = .ok (.aload_n 0, 1) := by decide +kernel
theorem d_Re_readRange_60 : decode b_Re_readRange 60 = .ok (.invokevirtual 38, 3) := by decide +kernel
theorem d_Re_readRange_63 : decode b_Re_readRange 63 = .ok (.ifCond .eq 15, 3) := by decide +kernel
theorem d_Re_readRange_66 : decode b_Re_readRange 66 = .ok (.aload_n 0, 1) := by decide +kernel
theorem d_Re_readRange_67 : decode b_Re_readRange 67 = .ok (.getfield 21, 3) := by decide +kernel
theorem d_Re_readRange_70 : decode b_Re_readRange 70 = .ok (.iload_n 1, 1) := by decide +kernel
theorem d_Re_readRange_71 : decode b_Re_readRange 71 = .ok (.iload_n 2, 1) := by decide +kernel
theorem d_Re_readRange_72 : decode b_Re_readRange 72 = .ok (.iload_n 3, 1) := by decide +kernel
theorem d_Re_readRange_73 : decode b_Re_readRange 73 = .ok (.iload 4, 2) := by decide +kernel
theorem d_Re_readRange_75 : decode b_Re_readRange 75 = .ok (.invokevirtual 67, 3) := by decide +kernel
theorem d_Re_readRange_78 : decode b_Re_readRange 78 = .ok (.return_, 1) := by decide +kernel
theorem d_Re_readNumber_0 : decode b_Re_readNumber 0 = .ok (.aload_n 0, 1) := by decide +kernel
theorem d_Re_readNumber_1 : decode b_Re_readNumber 1 = .ok (.invokevirtual 38, 3) := by decide +kernel
theorem d_Re_readNumber_4 : decode b_Re_readNumber 4 = .ok (.ifCond .ne 5, 3) := by decide +kernel
theorem d_Re_readNumber_7 : decode b_Re_readNumber 7 = .ok (.iload_n 1, 1) := by decide +kernel
theorem d_Re_readNumber_8 : decode b_Re_readNumber 8 = .ok (.ireturn, 1) := by decide +kernel
theorem d_Re_readNumber_9 : decode b_Re_readNumber 9 = .ok (.aload_n 0, 1) := by decide +kernel
theorem d_Re_readNumber_10 : decode b_Re_readNumber 10 = .ok (.getfield 32, 3) := by decide +kernel
theorem d_Re_readNumber_13 : decode b_Re_readNumber 13 = .ok (.istore_n 3, 1) := by decide +kernel
theorem d_Re_readNumber_14 : decode b_Re_readNumber 14 = .ok (.iconst 0, 1) := by decide +kernel
theorem d_Re_readNumber_15 : decode b_Re_readNumber 15 = .ok (.istore 4, 2) := by decide +kernel
theorem d_Re_readNumber_17 : decode b_Re_readNumber 17 = .ok (.iconst 0, 1) := by decide +kernel
theorem d_Re_readNumber_18 : decode b_Re_readNumber 18 = .ok (.istore 5, 2) := by decide +kernel
theorem d_Re_readNumber_20 : decode b_Re_readNumber 20 = .ok (.iload 5, 2) := by decide +kernel
theorem d_Re_readNumber_22 : decode b_Re_readNumber 22 = .ok (.iconst 4, 1) := by decide +kernel
theorem d_Re_readNumber_23 : decode b_Re_readNumber 23 = .ok (.if_icmp .ge 58, 3) := by decide +kernel
theorem d_Re_readNumber_26 : decode b_Re_readNumber 26 = .ok (.aload_n 0, 1) := by decide +kernel
theorem d_Re_readNumber_27 : decode b_Re_readNumber 27 = .ok (.getfield 12, 3) := by decide +kernel
theorem d_Re_readNumber_30 : decode b_Re_readNumber 30 = .ok (.aload_n 0, 1) := by decide +kernel
theorem d_Re_readNumber_31 : decode b_Re_readNumber 31 = .ok (.getfield 32, 3) := by decide +kernel
theorem d_Re_readNumber_34 : decode b_Re_readNumber 34 = .ok (.invokevirtual 45, 3) := by decide +kernel
theorem d_Re_readNumber_37 : decode b_Re_readNumber 37 = .ok (.invokestatic 86, 3) := by decide +kernel
theorem d_Re_readNumber_40 : decode b_Re_readNumber 40 = .ok (.ifCond .eq 41, 3) := by decide +kernel
theorem d_Re_readNumber_43 : decode b_Re_readNumber 43 = .ok (.iload 4, 2) := by decide +kernel
theorem d_Re_readNumber_45 : decode b_Re_readNumber 45 = .ok (.bipush 10, 2) := by decide +kernel
theorem d_Re_readNumber_47 : decode b_Re_readNumber 47 = .ok (.imul, 1) := by decide +kernel
theorem d_Re_readNumber_48 : decode b_Re_readNumber 48 = .ok (.aload_n 0, 1) := by decide +kernel
theorem d_Re_readNumber_49 : decode b_Re_readNumber 49 = .ok (.getfield 12, 3) := by decide +kernel
theorem d_Re_readNumber_52 : decode b_Re_readNumber 52 = .ok (.aload_n 0, 1) := by decide +kernel
theorem d_Re_readNumber_53 : decode b_Re_readNumber 53 = .ok (.getfield 32, 3) := by decide +kernel
theorem d_Re_readNumber_56 : decode b_Re_readNumber 56 = .ok (.invokevirtual 45, 3) := by decide +kernel
theorem d_Re_readNumber_59 : decode b_Re_readNumber 59 = .ok (.iadd, 1) := by decide +kernel
theorem d_Re_readNumber_60 : decode b_Re_readNumber 60 = .ok (.bipush 48, 2) := by decide +kernel
theorem d_Re_readNumber_62 : decode b_Re_readNumber 62 = .ok (.isub, 1) := by decide +kernel
theorem d_Re_readNumber_63 : decode b_Re_readNumber 63 = .ok (.istore 4, 2) := by decide +kernel
theorem d_Re_readNumber_65 : decode b_Re_readNumber 65 = .ok (.aload_n 0, 1) := by decide +kernel
theorem d_Re_readNumber_66 : decode b_Re_readNumber 66 = .ok (.dup, 1) := by decide +kernel
theorem d_Re_readNumber_67 : decode b_Re_readNumber 67 = .ok (.getfield 32, 3) := by decide +kernel
theorem d_Re_readNumber_70 : decode b_Re_readNumber 70 = .ok (.iconst 1, 1) := by decide +kernel
theorem d_Re_readNumber_71 : decode b_Re_readNumber 71 = .ok (.iadd, 1) := by decide +kernel
theorem d_Re_readNumber_72 : decode b_Re_readNumber 72 = .ok (.putfield 32, 3) := by decide +kernel
theorem d_Re_readNumber_75 : decode b_Re_readNumber 75 = .ok (.iinc 5 1, 3) := by decide +kernel
theorem d_Re_readNumber_78 : decode b_Re_readNumber 78 = .ok (.goto (-58), 3) := by decide +kernel
theorem d_Re_readNumber_81 : decode b_Re_readNumber 81 = .ok (.aload_n 0, 1) := by decide +kernel
theorem d_Re_readNumber_82 : decode b_Re_readNumber 82 = .ok (.getfield 32, 3) := by decide +kernel
theorem d_Re_readNumber_85 : decode b_Re_readNumber 85 = .ok (.iload_n 3, 1) := by decide +kernel
theorem d_Re_readNumber_86 : decode b_Re_readNumber 86 = .ok (.if_icmp .eq 13, 3) := by decide +kernel
theorem d_Re_readNumber_89 : decode b_Re_readNumber 89 = .ok (.iload 4, 2) := by decide +kernel
theorem d_Re_readNumber_91 : decode b_Re_readNumber 91 = .ok (.iload_n 1, 1) := by decide +kernel
theorem d_Re_readNumber_92 : decode b_Re_readNumber 92 = .ok (.iload_n 2, 1) := by decide +kernel
theorem d_Re_readNumber_93 : decode b_Re_readNumber 93 = .ok (.invokestatic 90, 3) := by decide +kernel
theorem d_Re_readNumber_96 : decode b_Re_readNumber 96 = .ok (.ifCond .ne 10, 3) := by decide +kernel
theorem d_Re_readNumber_99 : decode b_Re_readNumber 99 = .ok (.aload_n 0, 1) := by decide +kernel
theorem d_Re_readNumber_100 : decode b_Re_readNumber 100 = .ok (.iload_n 3, 1) := by decide +kernel
theorem d_Re_readNumber_101 : decode b_Re_readNumber 101 = .ok (.putfield 25, 3) := by decide +kernel
theorem d_Re_readNumber_104 : decode b_Re_readNumber 104 = .ok (.iload_n 1, 1) := by decide +kernel
theorem d_Re_readNumber_105 : decode b_Re_readNumber 105 = .ok (.ireturn, 1) := by decide +kernel
theorem d_Re_readNumber_106 : decode b_Re_readNumber 106 = .ok (.iload 4, 2) := by decide +kernel
theorem d_Re_readNumber_108 : decode b_Re_readNumber 108 = .ok (.ireturn, 1) := by decide +kernel
theorem d_Re_isFigure_0 : decode b_Re_isFigure 0 = .ok (.iload_n 0, 1) := by decide +kernel
theorem d_Re_isFigure_1 : decode b_Re_isFigure 1 = .ok (.bipush 48, 2) := by decide +kernel
theorem d_Re_isFigure_3 : decode b_Re_isFigure 3 = .ok (.bipush 57, 2) := by decide +kernel
theorem d_Re_isFigure_5 : decode b_Re_isFigure 5 = .ok (.invokestatic 90, 3) := by decide +kernel
theorem d_Re_isFigure_8 : decode b_Re_isFigure 8 = .ok (.ireturn, 1) := by decide +kernel
theorem d_Re_readSign_0 : decode b_Re_readSign 0 = .ok (.aload_n 0, 1) := by decide +kernel
theorem d_Re_readSign_1 : decode b_Re_readSign 1 = .ok (.invokevirtual 38, 3) := by decide +kernel
theorem d_Re_readSign_4 : decode b_Re_readSign 4 = .ok (.ifCond .ne 4, 3) := by decide +kernel
theorem d_Re_readSign_7 : decode b_Re_readSign 7 = .ok (.return_, 1) := by decide +kernel
theorem d_Re_readSign_8 : decode b_Re_readSign 8 = .ok (.aload_n 0, 1) := by decide +kernel
theorem d_Re_readSign_9 : decode b_Re_readSign 9 = .ok (.getfield 12, 3) := by decide +kernel
theorem d_Re_readSign_12 : decode b_Re_readSign 12 = .ok (.aload_n 0, 1) := by decide +kernel
theorem d_Re_readSign_13 : decode b_Re_readSign 13 = .ok (.getfield 32, 3) := by decide +kernel
theorem d_Re_readSign_16 : decode b_Re_readSign 16 = .ok (.invokevirtual 45, 3) := by decide +kernel
theorem d_Re_readSign_19 : decode b_Re_readSign 19 = .ok (.iload_n 1, 1) := by decide +kernel
theorem d_Re_readSign_20 : decode b_Re_readSign 20 = .ok (.if_icmp .ne 16, 3) := by decide +kernel
theorem d_Re_readSign_23 : decode b_Re_readSign 23 = .ok (.aload_n 0, 1) := by decide +kernel
theorem d_Re_readSign_24 : decode b_Re_readSign 24 = .ok (.dup, 1) := by decide +kernel
theorem d_Re_readSign_25 : decode b_Re_readSign 25 = .ok (.getfield 32, 3) := by decide +kernel
theorem d_Re_readSign_28 : decode b_Re_readSign 28 = .ok (.iconst 1, 1) := by decide +kernel
theorem d_Re_readSign_29 : decode b_Re_readSign 29 = .ok (.iadd, 1) := by decide +kernel
theorem d_Re_readSign_30 : decode b_Re_readSign 30 = .ok (.putfield 32, 3) := by decide +kernel
theorem d_Re_readSign_33 : decode b_Re_readSign 33 = .ok (.goto 11, 3) := by decide +kernel
theorem d_Re_readSign_36 : decode b_Re_readSign 36 = .ok (.aload_n 0, 1) := by decide +kernel
theorem d_Re_readSign_37 : decode b_Re_readSign 37 = .ok (.aload_n 0, 1) := by decide +kernel
theorem d_Re_readSign_38 : decode b_Re_readSign 38 = .ok (.getfield 32, 3) := by decide +kernel
theorem d_Re_readSign_41 : decode b_Re_readSign 41 = .ok (.putfield 25, 3) := by decide +kernel
theorem d_Re_readSign_44 : decode b_Re_readSign 44 = .ok (.return_, 1) := by decide +kernel
theorem d_Pl_addRange_0 : decode b_Pl_addRange 0 = .ok (.aload_n 0, 1) := by decide +kernel
theorem d_Pl_addRange_1 : decode b_Pl_addRange 1 = .ok (.getfield 48, 3) := by decide +kernel
theorem d_Pl_addRange_4 : decode b_Pl_addRange 4 = .ok (.bipush 66, 2) := by decide +kernel
theorem d_Pl_addRange_6 : decode b_Pl_addRange 6 = .ok (.if_icmp .lt 4, 3) := by decide +kernel
theorem d_Pl_addRange_9 : decode b_Pl_addRange 9 = .ok (.return_, 1) := by decide +kernel
theorem d_Pl_addRange_10 : decode b_Pl_addRange 10 = .ok (.aload_n 0, 1) := by decide +kernel
theorem d_Pl_addRange_11 : decode b_Pl_addRange 11 = .ok (.getfield 30, 3) := by decide +kernel
theorem d_Pl_addRange_14 : decode b_Pl_addRange 14 = .ok (.aload_n 0, 1) := by decide +kernel
theorem d_Pl_addRange_15 : decode b_Pl_addRange 15 = .ok (.getfield 48, 3) := by decide +kernel
theorem d_Pl_addRange_18 : decode b_Pl_addRange 18 = .ok (.iload_n 1, 1) := by decide +kernel
theorem d_Pl_addRange_19 : decode b_Pl_addRange 19 = .ok (.iastore, 1) := by decide +kernel
theorem d_Pl_addRange_20 : decode b_Pl_addRange 20 = .ok (.aload_n 0, 1) := by decide +kernel
theorem d_Pl_addRange_21 : decode b_Pl_addRange 21 = .ok (.getfield 33, 3) := by decide +kernel
theorem d_Pl_addRange_24 : decode b_Pl_addRange 24 = .ok (.aload_n 0, 1) := by decide +kernel
theorem d_Pl_addRange_25 : decode b_Pl_addRange 25 = .ok (.getfield 48, 3) := by decide +kernel
theorem d_Pl_addRange_28 : decode b_Pl_addRange 28 = .ok (.iload_n 2, 1) := by decide +kernel
theorem d_Pl_addRange_29 : decode b_Pl_addRange 29 = .ok (.iastore, 1) := by decide +kernel
theorem d_Pl_addRange_30 : decode b_Pl_addRange 30 = .ok (.aload_n 0, 1) := by decide +kernel
theorem d_Pl_addRange_31 : decode b_Pl_addRange 31 = .ok (.getfield 36, 3) := by decide +kernel
theorem d_Pl_addRange_34 : decode b_Pl_addRange 34 = .ok (.aload_n 0, 1) := by decide +kernel
theorem d_Pl_addRange_35 : decode b_Pl_addRange 35 = .ok (.getfield 48, 3) := by decide +kernel
theorem d_Pl_addRange_38 : decode b_Pl_addRange 38 = .ok (.iload_n 3, 1) := by decide +kernel
theorem d_Pl_addRange_39 : decode b_Pl_addRange 39 = .ok (.iastore, 1) := by decide +kernel
theorem d_Pl_addRange_40 : decode b_Pl_addRange 40 = .ok (.aload_n 0, 1) := by decide +kernel
theorem d_Pl_addRange_41 : decode b_Pl_addRange 41 = .ok (.getfield 39, 3) := by decide +kernel
theorem d_Pl_addRange_44 : decode b_Pl_addRange 44 = .ok (.aload_n 0, 1) := by decide +kernel
theorem d_Pl_addRange_45 : decode b_Pl_addRange 45 = .ok (.getfield 48, 3) := by decide +kernel
theorem d_Pl_addRange_48 : decode b_Pl_addRange 48 = .ok (.iload 4, 2) := by decide +kernel
theorem d_Pl_addRange_50 : decode b_Pl_addRange 50 = .ok (.iastore, 1) := by decide +kernel
theorem d_Pl_addRange_51 : decode b_Pl_addRange 51 = .ok (.aload_n 0, 1) := by decide +kernel
theorem d_Pl_addRange_52 : decode b_Pl_addRange 52 = .ok (.dup, 1) := by decide +kernel
theorem d_Pl_addRange_53 : decode b_Pl_addRange 53 = .ok (.getfield 48, 3) := by decide +kernel
theorem d_Pl_addRange_56 : decode b_Pl_addRange 56 = .ok (.iconst 1, 1) := by decide +kernel
theorem d_Pl_addRange_57 : decode b_Pl_addRange 57 = .ok (.iadd, 1) := by decide +kernel
theorem d_Pl_addRange_58 : decode b_Pl_addRange 58 = .ok (.putfield 48, 3) := by decide +kernel
theorem d_Pl_addRange_61 : decode b_Pl_addRange 61 = .ok (.aload_n 0, 1) := by decide +kernel
theorem d_Pl_addRange_62 : decode b_Pl_addRange 62 = .ok (.getfield 21, 3) := by decide +kernel
theorem d_Pl_addRange_65 : decode b_Pl_addRange 65 = .ok (.iload_n 1, 1) := by decide +kernel
theorem d_Pl_addRange_66 : decode b_Pl_addRange 66 = .ok (.iconst 1, 1) := by decide +kernel
theorem d_Pl_addRange_67 : decode b_Pl_addRange 67 = .ok (.bastore, 1) := by decide +kernel
theorem d_Pl_addRange_68 : decode b_Pl_addRange 68 = .ok (.return_, 1) := by decide +kernel
theorem d_Re_readBin_0 : decode b_Re_readBin 0 = .ok (.aload_n 0, 1) := by decide +kernel
theorem d_Re_readBin_1 : decode b_Re_readBin 1 = .ok (.iconst 1, 1) := by decide +kernel
theorem d_Re_readBin_2 : decode b_Re_readBin 2 = .ok (.bipush 40, 2) := by decide +kernel
theorem d_Re_readBin_4 : decode b_Re_readBin 4 = .ok (.invokevirtual 59, 3) := by decide +kernel
theorem d_Re_readBin_7 : decode b_Re_readBin 7 = .ok (.istore_n 2, 1) := by decide +kernel
theorem d_Re_readBin_8 : decode b_Re_readBin 8 = .ok (.aload_n 0, 1) := by decide +kernel
theorem d_Re_readBin_9 : decode b_Re_readBin 9 = .ok (.bipush 44, 2) := by decide +kernel
theorem d_Re_readBin_11 : decode b_Re_readBin 11 = .ok (.invokevirtual 63, 3) := by decide +kernel
theorem d_Re_readBin_14 : decode b_Re_readBin 14 = .ok (.aload_n 0, 1) := by decide +kernel
theorem d_Re_readBin_15 : decode b_Re_readBin 15 = .ok (.iconst 0, 1) := by decide +kernel
theorem d_Re_readBin_16 : decode b_Re_readBin 16 = .ok (.iconst 3, 1) := by decide +kernel
theorem d_Re_readBin_17 : decode b_Re_readBin 17 = .ok (.invokevirtual 59, 3) := by decide +kernel
theorem d_Re_readBin_20 : decode b_Re_readBin 20 = .ok (.istore_n 3, 1) := by decide +kernel
theorem d_Re_readBin_21 : decode b_Re_readBin 21 = .ok (.aload_n 0, 1) := by decide +kernel
theorem d_Re_readBin_22 : decode b_Re_readBin 22 = .ok (.bipush 44, 2) := by decide +kernel
theorem d_Re_readBin_24 : decode b_Re_readBin 24 = .ok (.invokevirtual 63, 3) := by decide +kernel
theorem d_Re_readBin_27 : decode b_Re_readBin 27 = .ok (.aload_n 0, 1) := by decide +kernel
theorem d_Re_readBin_28 : decode b_Re_readBin 28 = .ok (.iconst 0, 1) := by decide +kernel
theorem d_Re_readBin_29 : decode b_Re_readBin 29 = .ok (.iconst 2, 1) := by decide +kernel
theorem d_Re_readBin_30 : decode b_Re_readBin 30 = .ok (.invokevirtual 59, 3) := by decide +kernel
theorem d_Re_readBin_33 : decode b_Re_readBin 33 = .ok (.istore 4, 2) := by decide +kernel
theorem d_Re_readBin_35 : decode b_Re_readBin 35 = .ok (.aload_n 0, 1) := by decide +kernel
theorem d_Re_readBin_36 : decode b_Re_readBin 36 = .ok (.bipush 44, 2) := by decide +kernel
theorem d_Re_readBin_38 : decode b_Re_readBin 38 = .ok (.invokevirtual 63, 3) := by decide +kernel
theorem d_Re_readBin_41 : decode b_Re_readBin 41 = .ok (.aload_n 0, 1) := by decide +kernel
theorem d_Re_readBin_42 : decode b_Re_readBin 42 = .ok (.iconst 1, 1) := by decide +kernel
theorem d_Re_readBin_43 : decode b_Re_readBin 43 = .ok (.bipush 60, 2) := by decide +kernel
theorem d_Re_readBin_45 : decode b_Re_readBin 45 = .ok (.invokevirtual 59, 3) := by decide +kernel
theorem d_Re_readBin_48 : decode b_Re_readBin 48 = .ok (.istore 5, 2) := by decide +kernel
theorem d_Re_readBin_50 : decode b_Re_readBin 50 = .ok (.aload_n 0, 1) := by decide +kernel
theorem d_Re_readBin_51 : decode b_Re_readBin 51 = .ok (.invokevirtual 71, 3) := by decide +kernel
theorem d_Re_readBin_54 : decode b_Re_readBin 54 = .ok (.istore 6, 2) := by decide +kernel
theorem d_Re_readBin_56 : decode b_Re_readBin 56 = .ok (.aload_n 0, 1) := by decide +kernel
theorem d_Re_readBin_57 : decode b_Re_readBin 57 = .ok (.bipush 59, 2) := by decide +kernel
theorem d_Re_readBin_59 : decode b_Re_readBin 59 = .ok (.invokevirtual 63, 3) := by decide +kernel
theorem d_Re_readBin_62 : decode b_Re_readBin 62 = .ok (.aload_n 0, 1) := by decide +kernel
theorem d_Re_readBin_63 : decode b_Re_readBin 63 = .ok (.invokevirtual 38, 3) := by decide +kernel
theorem d_Re_readBin_66 : decode b_Re_readBin 66 = .ok (.ifCond .eq 29, 3) := by decide +kernel
theorem d_Re_readBin_69 : decode b_Re_readBin 69 = .ok (.aload_n 0, 1) := by decide +kernel
theorem d_Re_readBin_70 : decode b_Re_readBin 70 = .ok (.getfield 21, 3) := by decide +kernel
theorem d_Re_readBin_73 : decode b_Re_readBin 73 = .ok (.iload_n 2, 1) := by decide +kernel
theorem d_Re_readBin_74 : decode b_Re_readBin 74 = .ok (.iload_n 3, 1) := by decide +kernel
theorem d_Re_readBin_75 : decode b_Re_readBin 75 = .ok (.iload 4, 2) := by decide +kernel
theorem d_Re_readBin_77 : decode b_Re_readBin 77 = .ok (.invokestatic 74, 3) := by decide +kernel
theorem d_Re_readBin_80 : decode b_Re_readBin 80 = .ok (.iload 5, 2) := by decide +kernel
theorem d_Re_readBin_82 : decode b_Re_readBin 82 = .ok (.iload 6, 2) := by decide +kernel
theorem d_Re_readBin_84 : decode b_Re_readBin 84 = .ok (.invokevirtual 78, 3) := by decide +kernel
theorem d_Re_readBin_87 : decode b_Re_readBin 87 = .ok (.ifCond .ne 8, 3) := by decide +kernel
theorem d_Re_readBin_90 : decode b_Re_readBin 90 = .ok (.aload_n 0, 1) := by decide +kernel
theorem d_Re_readBin_91 : decode b_Re_readBin 91 = .ok (.iload_n 1, 1) := by decide +kernel
theorem d_Re_readBin_92 : decode b_Re_readBin 92 = .ok (.putfield 25, 3) := by decide +kernel
theorem d_Re_readBin_95 : decode b_Re_readBin 95 = .ok (.return_, 1) := by decide +kernel
theorem d_Re_readPlus_0 : decode b_Re_readPlus 0 = .ok (.aload_n 0, 1) := by decide +kernel
theorem d_Re_readPlus_1 : decode b_Re_readPlus 1 = .ok (.invokevirtual 38, 3) := by decide +kernel
theorem d_Re_readPlus_4 : decode b_Re_readPlus 4 = .ok (.ifCond .eq 19, 3) := by decide +kernel
theorem d_Re_readPlus_7 : decode b_Re_readPlus 7 = .ok (.aload_n 0, 1) := by decide +kernel
theorem d_Re_readPlus_8 : decode b_Re_readPlus 8 = .ok (.getfield 12, 3) := by decide +kernel
theorem d_Re_readPlus_11 : decode b_Re_readPlus 11 = .ok (.aload_n 0, 1) := by decide +kernel
theorem d_Re_readPlus_12 : decode b_Re_readPlus 12 = .ok (.getfield 32, 3) := by decide +kernel
theorem d_Re_readPlus_15 : decode b_Re_readPlus 15 = .ok (.invokevirtual 45, 3) := by decide +kernel
theorem d_Re_readPlus_18 : decode b_Re_readPlus 18 = .ok (.bipush 43, 2) := by decide +kernel
theorem d_Re_readPlus_20 : decode b_Re_readPlus 20 = .ok (.if_icmp .eq 5, 3) := by decide +kernel
theorem d_Re_readPlus_23 : decode b_Re_readPlus 23 = .ok (.iconst 0, 1) := by decide +kernel
theorem d_Re_readPlus_24 : decode b_Re_readPlus 24 = .ok (.ireturn, 1) := by decide +kernel
theorem d_Re_readPlus_25 : decode b_Re_readPlus 25 = .ok (.aload_n 0, 1) := by decide +kernel
theorem d_Re_readPlus_26 : decode b_Re_readPlus 26 = .ok (.dup, 1) := by decide +kernel
theorem d_Re_readPlus_27 : decode b_Re_readPlus 27 = .ok (.getfield 32, 3) := by decide +kernel
theorem d_Re_readPlus_30 : decode b_Re_readPlus 30 = .ok (.iconst 1, 1) := by decide +kernel
theorem d_Re_readPlus_31 : decode b_Re_readPlus 31 = .ok (.iadd, 1) := by decide +kernel
theorem d_Re_readPlus_32 : decode b_Re_readPlus 32 = .ok (.putfield 32, 3) := by decide +kernel
theorem d_Re_readPlus_35 : decode b_Re_readPlus 35 = .ok (.iconst 1, 1) := by decide +kernel
theorem d_Re_readPlus_36 : decode b_Re_readPlus 36 = .ok (.ireturn, 1) := by decide +kernel
theorem d_SP_slot_0 : decode b_SP_slot 0 = .ok (.iload_n 0, 1) := by decide +kernel
theorem d_SP_slot_1 : decode b_SP_slot 1 = .ok (.iconst 1, 1) := by decide +kernel
theorem d_SP_slot_2 : decode b_SP_slot 2 = .ok (.isub, 1) := by decide +kernel
theorem d_SP_slot_3 : decode b_SP_slot 3 = .ok (.iconst 3, 1) := by decide +kernel
theorem d_SP_slot_4 : decode b_SP_slot 4 = .ok (.imul, 1) := by decide +kernel
theorem d_SP_slot_5 : decode b_SP_slot 5 = .ok (.iload_n 2, 1) := by decide +kernel
theorem d_SP_slot_6 : decode b_SP_slot 6 = .ok (.iadd, 1) := by decide +kernel
theorem d_SP_slot_7 : decode b_SP_slot 7 = .ok (.iconst 4, 1) := by decide +kernel
theorem d_SP_slot_8 : decode b_SP_slot 8 = .ok (.imul, 1) := by decide +kernel
theorem d_SP_slot_9 : decode b_SP_slot 9 = .ok (.iload_n 1, 1) := by decide +kernel
theorem d_SP_slot_10 : decode b_SP_slot 10 = .ok (.iadd, 1) := by decide +kernel
theorem d_SP_slot_11 : decode b_SP_slot 11 = .ok (.ireturn, 1) := by decide +kernel
theorem d_Pl_addBin_0 : decode b_Pl_addBin 0 = .ok (.aload_n 0, 1) := by decide +kernel
theorem d_Pl_addBin_1 : decode b_Pl_addBin 1 = .ok (.getfield 11, 3) := by decide +kernel
theorem d_Pl_addBin_4 : decode b_Pl_addBin 4 = .ok (.iload_n 1, 1) := by decide +kernel
theorem d_Pl_addBin_5 : decode b_Pl_addBin 5 = .ok (.iaload, 1) := by decide +kernel
theorem d_Pl_addBin_6 : decode b_Pl_addBin 6 = .ok (.ifCond .eq 5, 3) := by decide +kernel
theorem d_Pl_addBin_9 : decode b_Pl_addBin 9 = .ok (.iconst 0, 1) := by decide +kernel
theorem d_Pl_addBin_10 : decode b_Pl_addBin 10 = .ok (.ireturn, 1) := by decide +kernel
theorem d_Pl_addBin_11 : decode b_Pl_addBin 11 = .ok (.aload_n 0, 1) := by decide +kernel
theorem d_Pl_addBin_12 : decode b_Pl_addBin 12 = .ok (.getfield 11, 3) := by decide +kernel
theorem d_Pl_addBin_15 : decode b_Pl_addBin 15 = .ok (.iload_n 1, 1) := by decide +kernel
theorem d_Pl_addBin_16 : decode b_Pl_addBin 16 = .ok (.iload_n 2, 1) := by decide +kernel
theorem d_Pl_addBin_17 : decode b_Pl_addBin 17 = .ok (.iastore, 1) := by decide +kernel
theorem d_Pl_addBin_18 : decode b_Pl_addBin 18 = .ok (.aload_n 0, 1) := by decide +kernel
theorem d_Pl_addBin_19 : decode b_Pl_addBin 19 = .ok (.getfield 17, 3) := by decide +kernel
theorem d_Pl_addBin_22 : decode b_Pl_addBin 22 = .ok (.iload_n 1, 1) := by decide +kernel
theorem d_Pl_addBin_23 : decode b_Pl_addBin 23 = .ok (.iload_n 3, 1) := by decide +kernel
theorem d_Pl_addBin_24 : decode b_Pl_addBin 24 = .ok (.bastore, 1) := by decide +kernel
theorem d_Pl_addBin_25 : decode b_Pl_addBin 25 = .ok (.iconst 1, 1) := by decide +kernel
theorem d_Pl_addBin_26 : decode b_Pl_addBin 26 = .ok (.ireturn, 1) := by decide +kernel
theorem d_Re_readGoingOn_0 : decode b_Re_readGoingOn 0 = .ok (.aload_n 0, 1) := by decide +kernel
theorem d_Re_readGoingOn_1 : decode b_Re_readGoingOn 1 = .ok (.iconst 1, 1) := by decide +kernel
theorem d_Re_readGoingOn_2 : decode b_Re_readGoingOn 2 = .ok (.bipush 60, 2) := by decide +kernel
theorem d_Re_readGoingOn_4 : decode b_Re_readGoingOn 4 = .ok (.invokevirtual 59, 3) := by decide +kernel
theorem d_Re_readGoingOn_7 : decode b_Re_readGoingOn 7 = .ok (.istore_n 2, 1) := by decide +kernel
theorem d_Re_readGoingOn_8 : decode b_Re_readGoingOn 8 = .ok (.aload_n 0, 1) := by decide +kernel
theorem d_Re_readGoingOn_9 : decode b_Re_readGoingOn 9 = .ok (.bipush 44, 2) := by decide +kernel
theorem d_Re_readGoingOn_11 : decode b_Re_readGoingOn 11 = .ok (.invokevirtual 63, 3) := by decide +kernel
theorem d_Re_readGoingOn_14 : decode b_Re_readGoingOn 14 = .ok (.aload_n 0, 1) := by decide +kernel
theorem d_Re_readGoingOn_15 : decode b_Re_readGoingOn 15 = .ok (.iconst 1, 1) := by decide +kernel
theorem d_Re_readGoingOn_16 : decode b_Re_readGoingOn 16 = .ok (.bipush 60, 2) := by decide +kernel
theorem d_Re_readGoingOn_18 : decode b_Re_readGoingOn 18 = .ok (.invokevirtual 59, 3) := by decide +kernel
theorem d_Re_readGoingOn_21 : decode b_Re_readGoingOn 21 = .ok (.istore_n 3, 1) := by decide +kernel
theorem d_Re_readGoingOn_22 : decode b_Re_readGoingOn 22 = .ok (.aload_n 0, 1) := by decide +kernel
theorem d_Re_readGoingOn_23 : decode b_Re_readGoingOn 23 = .ok (.bipush 59, 2) := by decide +kernel
theorem d_Re_readGoingOn_25 : decode b_Re_readGoingOn 25 = .ok (.invokevirtual 63, 3) := by decide +kernel
theorem d_Re_readGoingOn_28 : decode b_Re_readGoingOn 28 = .ok (.aload_n 0, 1) := by decide +kernel
theorem d_Re_readGoingOn_29 : decode b_Re_readGoingOn 29 = .ok (.invokevirtual 38, 3) := by decide +kernel
theorem d_Re_readGoingOn_32 : decode b_Re_readGoingOn 32 = .ok (.ifCond .eq 20, 3) := by decide +kernel
theorem d_Re_readGoingOn_35 : decode b_Re_readGoingOn 35 = .ok (.aload_n 0, 1) := by decide +kernel
theorem d_Re_readGoingOn_36 : decode b_Re_readGoingOn 36 = .ok (.getfield 21, 3) := by decide +kernel
theorem d_Re_readGoingOn_39 : decode b_Re_readGoingOn 39 = .ok (.iload_n 2, 1) := by decide +kernel
theorem d_Re_readGoingOn_40 : decode b_Re_readGoingOn 40 = .ok (.iload_n 3, 1) := by decide +kernel
theorem d_Re_readGoingOn_41 : decode b_Re_readGoingOn 41 = .ok (.invokevirtual 82, 3) := by decide +kernel
theorem d_Re_readGoingOn_44 : decode b_Re_readGoingOn 44 = .ok (.ifCond .ne 8, 3) := by decide +kernel
theorem d_Re_readGoingOn_47 : decode b_Re_readGoingOn 47 = .ok (.aload_n 0, 1) := by decide +kernel
theorem d_Re_readGoingOn_48 : decode b_Re_readGoingOn 48 = .ok (.iload_n 1, 1) := by decide +kernel
theorem d_Re_readGoingOn_49 : decode b_Re_readGoingOn 49 = .ok (.putfield 25, 3) := by decide +kernel
theorem d_Re_readGoingOn_52 : decode b_Re_readGoingOn 52 = .ok (.return_, 1) := by decide +kernel
theorem d_Pl_addGoingOn_0 : decode b_Pl_addGoingOn 0 = .ok (.aload_n 0, 1) := by decide +kernel
theorem d_Pl_addGoingOn_1 : decode b_Pl_addGoingOn 1 = .ok (.getfield 27, 3) := by decide +kernel
theorem d_Pl_addGoingOn_4 : decode b_Pl_addGoingOn 4 = .ok (.iload_n 1, 1) := by decide +kernel
theorem d_Pl_addGoingOn_5 : decode b_Pl_addGoingOn 5 = .ok (.iaload, 1) := by decide +kernel
theorem d_Pl_addGoingOn_6 : decode b_Pl_addGoingOn 6 = .ok (.ifCond .eq 5, 3) := by decide +kernel
theorem d_Pl_addGoingOn_9 : decode b_Pl_addGoingOn 9 = .ok (.iconst 0, 1) := by decide +kernel
theorem d_Pl_addGoingOn_10 : decode b_Pl_addGoingOn 10 = .ok (.ireturn, 1) := by decide +kernel
theorem d_Pl_addGoingOn_11 : decode b_Pl_addGoingOn 11 = .ok (.aload_n 0, 1) := by decide +kernel
theorem d_Pl_addGoingOn_12 : decode b_Pl_addGoingOn 12 = .ok (.getfield 27, 3) := by decide +kernel
theorem d_Pl_addGoingOn_15 : decode b_Pl_addGoingOn 15 = .ok (.iload_n 1, 1) := by decide +kernel
theorem d_Pl_addGoingOn_16 : decode b_Pl_addGoingOn 16 = .ok (.iload_n 2, 1) := by decide +kernel
theorem d_Pl_addGoingOn_17 : decode b_Pl_addGoingOn 17 = .ok (.iastore, 1) := by decide +kernel
theorem d_Pl_addGoingOn_18 : decode b_Pl_addGoingOn 18 = .ok (.iconst 1, 1) := by decide +kernel
theorem d_Pl_addGoingOn_19 : decode b_Pl_addGoingOn 19 = .ok (.ireturn, 1) := by decide +kernel
theorem d_SP_addEdition_0 : decode b_SP_addEdition 0 = .ok (.aload_n 0, 1) := by decide +kernel
theorem d_SP_addEdition_1 : decode b_SP_addEdition 1 = .ok (.aload_n 0, 1) := by decide +kernel
theorem d_SP_addEdition_2 : decode b_SP_addEdition 2 = .ok (.getfield 12, 3) := by decide +kernel
theorem d_SP_addEdition_5 : decode b_SP_addEdition 5 = .ok (.aload_n 0, 1) := by decide +kernel
theorem d_SP_addEdition_6 : decode b_SP_addEdition 6 = .ok (.getfield 38, 3) := by decide +kernel
theorem d_SP_addEdition_9 : decode b_SP_addEdition 9 = .ok (.invokevirtual 130, 3) := by decide +kernel
theorem d_SP_addEdition_12 : decode b_SP_addEdition 12 = .ok (.putfield 38, 3) := by decide +kernel
theorem d_SP_addEdition_15 : decode b_SP_addEdition 15 = .ok (.aload_n 0, 1) := by decide +kernel
theorem d_SP_addEdition_16 : decode b_SP_addEdition 16 = .ok (.getfield 38, 3) := by decide +kernel
theorem d_SP_addEdition_19 : decode b_SP_addEdition 19 = .ok (.getfield 92, 3) := by decide +kernel
theorem d_SP_addEdition_22 : decode b_SP_addEdition 22 = .ok (.iconst 0, 1) := by decide +kernel
theorem d_SP_addEdition_23 : decode b_SP_addEdition 23 = .ok (.aload_n 0, 1) := by decide +kernel
theorem d_SP_addEdition_24 : decode b_SP_addEdition 24 = .ok (.getfield 32, 3) := by decide +kernel
theorem d_SP_addEdition_27 : decode b_SP_addEdition 27 = .ok (.aload_n 0, 1) := by decide +kernel
theorem d_SP_addEdition_28 : decode b_SP_addEdition 28 = .ok (.getfield 67, 3) := by decide +kernel
theorem d_SP_addEdition_31 : decode b_SP_addEdition 31 = .ok (.aaload, 1) := by decide +kernel
theorem d_SP_addEdition_32 : decode b_SP_addEdition 32 = .ok (.iconst 0, 1) := by decide +kernel
theorem d_SP_addEdition_33 : decode b_SP_addEdition 33 = .ok (.sipush 480, 3) := by decide +kernel
theorem d_SP_addEdition_36 : decode b_SP_addEdition 36 = .ok (.invokestatic 134, 3) := by decide +kernel
theorem d_SP_addEdition_39 : decode b_SP_addEdition 39 = .ok (.aload_n 0, 1) := by decide +kernel
theorem d_SP_addEdition_40 : decode b_SP_addEdition 40 = .ok (.dup, 1) := by decide +kernel
theorem d_SP_addEdition_41 : decode b_SP_addEdition 41 = .ok (.getfield 67, 3) := by decide +kernel
theorem d_SP_addEdition_44 : decode b_SP_addEdition 44 = .ok (.iconst 1, 1) := by decide +kernel
theorem d_SP_addEdition_45 : decode b_SP_addEdition 45 = .ok (.iadd, 1) := by decide +kernel
theorem d_SP_addEdition_46 : decode b_SP_addEdition 46 = .ok (.putfield 67, 3) := by decide +kernel
theorem d_SP_addEdition_49 : decode b_SP_addEdition 49 = .ok (.return_, 1) := by decide +kernel
theorem d_Re_giveDraftFor_0 : decode b_Re_giveDraftFor 0 = .ok (.aload_n 0, 1) := by decide +kernel
theorem d_Re_giveDraftFor_1 : decode b_Re_giveDraftFor 1 = .ok (.getfield 21, 3) := by decide +kernel
theorem d_Re_giveDraftFor_4 : decode b_Re_giveDraftFor 4 = .ok (.astore_n 2, 1) := by decide +kernel
theorem d_Re_giveDraftFor_5 : decode b_Re_giveDraftFor 5 = .ok (.aload_n 0, 1) := by decide +kernel
theorem d_Re_giveDraftFor_6 : decode b_Re_giveDraftFor 6 = .ok (.aload_n 1, 1) := by decide +kernel
theorem d_Re_giveDraftFor_7 : decode b_Re_giveDraftFor 7 = .ok (.putfield 21, 3) := by decide +kernel
theorem d_Re_giveDraftFor_10 : decode b_Re_giveDraftFor 10 = .ok (.aload_n 2, 1) := by decide +kernel
theorem d_Re_giveDraftFor_11 : decode b_Re_giveDraftFor 11 = .ok (.areturn, 1) := by decide +kernel
theorem d_SP_target_0 : decode b_SP_target 0 = .ok (.iload_n 1, 1) := by decide +kernel
theorem d_SP_target_1 : decode b_SP_target 1 = .ok (.iconst 0, 1) := by decide +kernel
theorem d_SP_target_2 : decode b_SP_target 2 = .ok (.sipush 9999, 3) := by decide +kernel
theorem d_SP_target_5 : decode b_SP_target 5 = .ok (.invokestatic 73, 3) := by decide +kernel
theorem d_SP_target_8 : decode b_SP_target 8 = .ok (.ifCond .eq 13, 3) := by decide +kernel
theorem d_SP_target_11 : decode b_SP_target 11 = .ok (.iload_n 2, 1) := by decide +kernel
theorem d_SP_target_12 : decode b_SP_target 12 = .ok (.iconst 0, 1) := by decide +kernel
theorem d_SP_target_13 : decode b_SP_target 13 = .ok (.bipush 9, 2) := by decide +kernel
theorem d_SP_target_15 : decode b_SP_target 15 = .ok (.invokestatic 73, 3) := by decide +kernel
theorem d_SP_target_18 : decode b_SP_target 18 = .ok (.ifCond .ne 6, 3) := by decide +kernel
theorem d_SP_target_21 : decode b_SP_target 21 = .ok (.bipush (-102), 2) := by decide +kernel
theorem d_SP_target_23 : decode b_SP_target 23 = .ok (.ireturn, 1) := by decide +kernel
theorem d_SP_target_24 : decode b_SP_target 24 = .ok (.aload_n 0, 1) := by decide +kernel
theorem d_SP_target_25 : decode b_SP_target 25 = .ok (.invokevirtual 77, 3) := by decide +kernel
theorem d_SP_target_28 : decode b_SP_target 28 = .ok (.ifCond .eq 15, 3) := by decide +kernel
theorem d_SP_target_31 : decode b_SP_target 31 = .ok (.aload_n 0, 1) := by decide +kernel
theorem d_SP_target_32 : decode b_SP_target 32 = .ok (.getfield 38, 3) := by decide +kernel
theorem d_SP_target_35 : decode b_SP_target 35 = .ok (.iload_n 1, 1) := by decide +kernel
theorem d_SP_target_36 : decode b_SP_target 36 = .ok (.iload_n 2, 1) := by decide +kernel
theorem d_SP_target_37 : decode b_SP_target 37 = .ok (.invokevirtual 80, 3) := by decide +kernel
theorem d_SP_target_40 : decode b_SP_target 40 = .ok (.goto 5, 3) := by decide +kernel
theorem d_SP_target_43 : decode b_SP_target 43 = .ok (.bipush (-103), 2) := by decide +kernel
theorem d_SP_target_45 : decode b_SP_target 45 = .ok (.ireturn, 1) := by decide +kernel
theorem d_SP_hasPlan_0 : decode b_SP_hasPlan 0 = .ok (.aload_n 0, 1) := by decide +kernel
theorem d_SP_hasPlan_1 : decode b_SP_hasPlan 1 = .ok (.getfield 67, 3) := by decide +kernel
theorem d_SP_hasPlan_4 : decode b_SP_hasPlan 4 = .ok (.ifCond .le 7, 3) := by decide +kernel
theorem d_SP_hasPlan_7 : decode b_SP_hasPlan 7 = .ok (.iconst 1, 1) := by decide +kernel
theorem d_SP_hasPlan_8 : decode b_SP_hasPlan 8 = .ok (.goto 4, 3) := by decide +kernel
theorem d_SP_hasPlan_11 : decode b_SP_hasPlan 11 = .ok (.iconst 0, 1) := by decide +kernel
theorem d_SP_hasPlan_12 : decode b_SP_hasPlan 12 = .ok (.ireturn, 1) := by decide +kernel
theorem d_Pl_leastTargetOf_0 : decode b_Pl_leastTargetOf 0 = .ok (.iconst 0, 1) := by decide +kernel
theorem d_Pl_leastTargetOf_1 : decode b_Pl_leastTargetOf 1 = .ok (.istore_n 3, 1) := by decide +kernel
theorem d_Pl_leastTargetOf_2 : decode b_Pl_leastTargetOf 2 = .ok (.iconst 0, 1) := by decide +kernel
theorem d_Pl_leastTargetOf_3 : decode b_Pl_leastTargetOf 3 = .ok (.istore 4, 2) := by decide +kernel
theorem d_Pl_leastTargetOf_5 : decode b_Pl_leastTargetOf 5 = .ok (.iload 4, 2) := by decide +kernel
theorem d_Pl_leastTargetOf_7 : decode b_Pl_leastTargetOf 7 = .ok (.aload_n 0, 1) := by decide +kernel
theorem d_Pl_leastTargetOf_8 : decode b_Pl_leastTargetOf 8 = .ok (.getfield 48, 3) := by decide +kernel
theorem d_Pl_leastTargetOf_11 : decode b_Pl_leastTargetOf 11 = .ok (.if_icmp .ge 76, 3) := by decide +kernel
theorem d_Pl_leastTargetOf_14 : decode b_Pl_leastTargetOf 14 = .ok (.aload_n 0, 1) := by decide +kernel
theorem d_Pl_leastTargetOf_15 : decode b_Pl_leastTargetOf 15 = .ok (.getfield 39, 3) := by decide +kernel
theorem d_Pl_leastTargetOf_18 : decode b_Pl_leastTargetOf 18 = .ok (.iload 4, 2) := by decide +kernel
theorem d_Pl_leastTargetOf_20 : decode b_Pl_leastTargetOf 20 = .ok (.iaload, 1) := by decide +kernel
theorem d_Pl_leastTargetOf_21 : decode b_Pl_leastTargetOf 21 = .ok (.iload_n 2, 1) := by decide +kernel
theorem d_Pl_leastTargetOf_22 : decode b_Pl_leastTargetOf 22 = .ok (.if_icmp .ne 28, 3) := by decide +kernel
theorem d_Pl_leastTargetOf_25 : decode b_Pl_leastTargetOf 25 = .ok (.iload_n 1, 1) := by decide +kernel
theorem d_Pl_leastTargetOf_26 : decode b_Pl_leastTargetOf 26 = .ok (.aload_n 0, 1) := by decide +kernel
theorem d_Pl_leastTargetOf_27 : decode b_Pl_leastTargetOf 27 = .ok (.getfield 33, 3) := by decide +kernel
theorem d_Pl_leastTargetOf_30 : decode b_Pl_leastTargetOf 30 = .ok (.iload 4, 2) := by decide +kernel
theorem d_Pl_leastTargetOf_32 : decode b_Pl_leastTargetOf 32 = .ok (.iaload, 1) := by decide +kernel
theorem d_Pl_leastTargetOf_33 : decode b_Pl_leastTargetOf 33 = .ok (.aload_n 0, 1) := by decide +kernel
theorem d_Pl_leastTargetOf_34 : decode b_Pl_leastTargetOf 34 = .ok (.getfield 36, 3) := by decide +kernel
theorem d_Pl_leastTargetOf_37 : decode b_Pl_leastTargetOf 37 = .ok (.iload 4, 2) := by decide +kernel
theorem d_Pl_leastTargetOf_39 : decode b_Pl_leastTargetOf 39 = .ok (.iaload, 1) := by decide +kernel
theorem d_Pl_leastTargetOf_40 : decode b_Pl_leastTargetOf 40 = .ok (.invokestatic 52, 3) := by decide +kernel
theorem d_Pl_leastTargetOf_43 : decode b_Pl_leastTargetOf 43 = .ok (.ifCond .eq 7, 3) := by decide +kernel
theorem d_Pl_leastTargetOf_46 : decode b_Pl_leastTargetOf 46 = .ok (.iconst 1, 1) := by decide +kernel
theorem d_Pl_leastTargetOf_47 : decode b_Pl_leastTargetOf 47 = .ok (.goto 4, 3) := by decide +kernel
theorem d_Pl_leastTargetOf_50 : decode b_Pl_leastTargetOf 50 = .ok (.iconst 0, 1) := by decide +kernel
theorem d_Pl_leastTargetOf_51 : decode b_Pl_leastTargetOf 51 = .ok (.istore 5, 2) := by decide +kernel
theorem d_Pl_leastTargetOf_53 : decode b_Pl_leastTargetOf 53 = .ok (.iload 5, 2) := by decide +kernel
theorem d_Pl_leastTargetOf_55 : decode b_Pl_leastTargetOf 55 = .ok (.ifCond .eq 26, 3) := by decide +kernel
theorem d_Pl_leastTargetOf_58 : decode b_Pl_leastTargetOf 58 = .ok (.iload_n 3, 1) := by decide +kernel
theorem d_Pl_leastTargetOf_59 : decode b_Pl_leastTargetOf 59 = .ok (.ifCond .eq 14, 3) := by decide +kernel
theorem d_Pl_leastTargetOf_62 : decode b_Pl_leastTargetOf 62 = .ok (.aload_n 0, 1) := by decide +kernel
theorem d_Pl_leastTargetOf_63 : decode b_Pl_leastTargetOf 63 = .ok (.getfield 30, 3) := by decide +kernel
theorem d_Pl_leastTargetOf_66 : decode b_Pl_leastTargetOf 66 = .ok (.iload 4, 2) := by decide +kernel
theorem d_Pl_leastTargetOf_68 : decode b_Pl_leastTargetOf 68 = .ok (.iaload, 1) := by decide +kernel
theorem d_Pl_leastTargetOf_69 : decode b_Pl_leastTargetOf 69 = .ok (.iload_n 3, 1) := by decide +kernel
theorem d_Pl_leastTargetOf_70 : decode b_Pl_leastTargetOf 70 = .ok (.if_icmp .ge 11, 3) := by decide +kernel
theorem d_Pl_leastTargetOf_73 : decode b_Pl_leastTargetOf 73 = .ok (.aload_n 0, 1) := by decide +kernel
theorem d_Pl_leastTargetOf_74 : decode b_Pl_leastTargetOf 74 = .ok (.getfield 30, 3) := by decide +kernel
theorem d_Pl_leastTargetOf_77 : decode b_Pl_leastTargetOf 77 = .ok (.iload 4, 2) := by decide +kernel
theorem d_Pl_leastTargetOf_79 : decode b_Pl_leastTargetOf 79 = .ok (.iaload, 1) := by decide +kernel
theorem d_Pl_leastTargetOf_80 : decode b_Pl_leastTargetOf 80 = .ok (.istore_n 3, 1) := by decide +kernel
theorem d_Pl_leastTargetOf_81 : decode b_Pl_leastTargetOf 81 = .ok (.iinc 4 1, 3) := by decide +kernel
theorem d_Pl_leastTargetOf_84 : decode b_Pl_leastTargetOf 84 = .ok (.goto (-79), 3) := by decide +kernel
theorem d_Pl_leastTargetOf_87 : decode b_Pl_leastTargetOf 87 = .ok (.iload_n 3, 1) := by decide +kernel
theorem d_Pl_leastTargetOf_88 : decode b_Pl_leastTargetOf 88 = .ok (.ireturn, 1) := by decide +kernel
theorem d_SP_bin_0 : decode b_SP_bin 0 = .ok (.iload_n 1, 1) := by decide +kernel
theorem d_SP_bin_1 : decode b_SP_bin 1 = .ok (.invokestatic 84, 3) := by decide +kernel
theorem d_SP_bin_4 : decode b_SP_bin 4 = .ok (.ifCond .ne 6, 3) := by decide +kernel
theorem d_SP_bin_7 : decode b_SP_bin 7 = .ok (.bipush (-101), 2) := by decide +kernel
theorem d_SP_bin_9 : decode b_SP_bin 9 = .ok (.ireturn, 1) := by decide +kernel
theorem d_SP_bin_10 : decode b_SP_bin 10 = .ok (.iload_n 2, 1) := by decide +kernel
theorem d_SP_bin_11 : decode b_SP_bin 11 = .ok (.iconst 0, 1) := by decide +kernel
theorem d_SP_bin_12 : decode b_SP_bin 12 = .ok (.iconst 3, 1) := by decide +kernel
theorem d_SP_bin_13 : decode b_SP_bin 13 = .ok (.invokestatic 73, 3) := by decide +kernel
theorem d_SP_bin_16 : decode b_SP_bin 16 = .ok (.ifCond .eq 12, 3) := by decide +kernel
theorem d_SP_bin_19 : decode b_SP_bin 19 = .ok (.iload_n 3, 1) := by decide +kernel
theorem d_SP_bin_20 : decode b_SP_bin 20 = .ok (.iconst 0, 1) := by decide +kernel
theorem d_SP_bin_21 : decode b_SP_bin 21 = .ok (.iconst 2, 1) := by decide +kernel
theorem d_SP_bin_22 : decode b_SP_bin 22 = .ok (.invokestatic 73, 3) := by decide +kernel
theorem d_SP_bin_25 : decode b_SP_bin 25 = .ok (.ifCond .ne 6, 3) := by decide +kernel
theorem d_SP_bin_28 : decode b_SP_bin 28 = .ok (.bipush (-102), 2) := by decide +kernel
theorem d_SP_bin_30 : decode b_SP_bin 30 = .ok (.ireturn, 1) := by decide +kernel
theorem d_SP_bin_31 : decode b_SP_bin 31 = .ok (.aload_n 0, 1) := by decide +kernel
theorem d_SP_bin_32 : decode b_SP_bin 32 = .ok (.invokevirtual 77, 3) := by decide +kernel
theorem d_SP_bin_35 : decode b_SP_bin 35 = .ok (.ifCond .ne 6, 3) := by decide +kernel
theorem d_SP_bin_38 : decode b_SP_bin 38 = .ok (.bipush (-103), 2) := by decide +kernel
theorem d_SP_bin_40 : decode b_SP_bin 40 = .ok (.ireturn, 1) := by decide +kernel
theorem d_SP_bin_41 : decode b_SP_bin 41 = .ok (.aload_n 0, 1) := by decide +kernel
theorem d_SP_bin_42 : decode b_SP_bin 42 = .ok (.getfield 38, 3) := by decide +kernel
theorem d_SP_bin_45 : decode b_SP_bin 45 = .ok (.getfield 88, 3) := by decide +kernel
theorem d_SP_bin_48 : decode b_SP_bin 48 = .ok (.iload_n 1, 1) := by decide +kernel
theorem d_SP_bin_49 : decode b_SP_bin 49 = .ok (.baload, 1) := by decide +kernel
theorem d_SP_bin_50 : decode b_SP_bin 50 = .ok (.ifCond .eq 7, 3) := by decide +kernel
theorem d_SP_bin_53 : decode b_SP_bin 53 = .ok (.iconst 0, 1) := by decide +kernel
theorem d_SP_bin_54 : decode b_SP_bin 54 = .ok (.goto 17, 3) := by decide +kernel
theorem d_SP_bin_57 : decode b_SP_bin 57 = .ok (.aload_n 0, 1) := by decide +kernel
theorem d_SP_bin_58 : decode b_SP_bin 58 = .ok (.getfield 38, 3) := by decide +kernel
theorem d_SP_bin_61 : decode b_SP_bin 61 = .ok (.getfield 92, 3) := by decide +kernel
theorem d_SP_bin_64 : decode b_SP_bin 64 = .ok (.iload_n 1, 1) := by decide +kernel
theorem d_SP_bin_65 : decode b_SP_bin 65 = .ok (.iload_n 2, 1) := by decide +kernel
theorem d_SP_bin_66 : decode b_SP_bin 66 = .ok (.iload_n 3, 1) := by decide +kernel
theorem d_SP_bin_67 : decode b_SP_bin 67 = .ok (.invokestatic 96, 3) := by decide +kernel
theorem d_SP_bin_70 : decode b_SP_bin 70 = .ok (.iaload, 1) := by decide +kernel
theorem d_SP_bin_71 : decode b_SP_bin 71 = .ok (.ireturn, 1) := by decide +kernel
theorem d_SP_isTarget_0 : decode b_SP_isTarget 0 = .ok (.iload_n 0, 1) := by decide +kernel
theorem d_SP_isTarget_1 : decode b_SP_isTarget 1 = .ok (.iconst 1, 1) := by decide +kernel
theorem d_SP_isTarget_2 : decode b_SP_isTarget 2 = .ok (.bipush 40, 2) := by decide +kernel
theorem d_SP_isTarget_4 : decode b_SP_isTarget 4 = .ok (.invokestatic 73, 3) := by decide +kernel
theorem d_SP_isTarget_7 : decode b_SP_isTarget 7 = .ok (.ireturn, 1) := by decide +kernel
theorem d_SP_check_0 : decode b_SP_check 0 = .ok (.aload_n 0, 1) := by decide +kernel
theorem d_SP_check_1 : decode b_SP_check 1 = .ok (.invokevirtual 77, 3) := by decide +kernel
theorem d_SP_check_4 : decode b_SP_check 4 = .ok (.ifCond .ne 6, 3) := by decide +kernel
theorem d_SP_check_7 : decode b_SP_check 7 = .ok (.bipush (-103), 2) := by decide +kernel
theorem d_SP_check_9 : decode b_SP_check 9 = .ok (.ireturn, 1) := by decide +kernel
theorem d_SP_check_10 : decode b_SP_check 10 = .ok (.aload_n 0, 1) := by decide +kernel
theorem d_SP_check_11 : decode b_SP_check 11 = .ok (.getfield 19, 3) := by decide +kernel
theorem d_SP_check_14 : decode b_SP_check 14 = .ok (.aload_n 0, 1) := by decide +kernel
theorem d_SP_check_15 : decode b_SP_check 15 = .ok (.getfield 38, 3) := by decide +kernel
theorem d_SP_check_18 : decode b_SP_check 18 = .ok (.invokevirtual 100, 3) := by decide +kernel
theorem d_SP_check_21 : decode b_SP_check 21 = .ok (.aload_n 0, 1) := by decide +kernel
theorem d_SP_check_22 : decode b_SP_check 22 = .ok (.getfield 19, 3) := by decide +kernel
theorem d_SP_check_25 : decode b_SP_check 25 = .ok (.getfield 104, 3) := by decide +kernel
theorem d_SP_check_28 : decode b_SP_check 28 = .ok (.ireturn, 1) := by decide +kernel
theorem d_Fa_findIn_0 : decode b_Fa_findIn 0 = .ok (.aload_n 0, 1) := by decide +kernel
theorem d_Fa_findIn_1 : decode b_Fa_findIn 1 = .ok (.iconst 0, 1) := by decide +kernel
theorem d_Fa_findIn_2 : decode b_Fa_findIn 2 = .ok (.putfield 15, 3) := by decide +kernel
theorem d_Fa_findIn_5 : decode b_Fa_findIn 5 = .ok (.iconst 0, 1) := by decide +kernel
theorem d_Fa_findIn_6 : decode b_Fa_findIn 6 = .ok (.istore_n 2, 1) := by decide +kernel
theorem d_Fa_findIn_7 : decode b_Fa_findIn 7 = .ok (.iload_n 2, 1) := by decide +kernel
theorem d_Fa_findIn_8 : decode b_Fa_findIn 8 = .ok (.iconst 3, 1) := by decide +kernel
theorem d_Fa_findIn_9 : decode b_Fa_findIn 9 = .ok (.if_icmp .ge 46, 3) := by decide +kernel
theorem d_Fa_findIn_12 : decode b_Fa_findIn 12 = .ok (.aload_n 1, 1) := by decide +kernel
theorem d_Fa_findIn_13 : decode b_Fa_findIn 13 = .ok (.iload_n 2, 1) := by decide +kernel
theorem d_Fa_findIn_14 : decode b_Fa_findIn 14 = .ok (.invokevirtual 19, 3) := by decide +kernel
theorem d_Fa_findIn_17 : decode b_Fa_findIn 17 = .ok (.istore_n 3, 1) := by decide +kernel
theorem d_Fa_findIn_18 : decode b_Fa_findIn 18 = .ok (.iconst 0, 1) := by decide +kernel
theorem d_Fa_findIn_19 : decode b_Fa_findIn 19 = .ok (.istore 4, 2) := by decide +kernel
theorem d_Fa_findIn_21 : decode b_Fa_findIn 21 = .ok (.iload 4, 2) := by decide +kernel
theorem d_Fa_findIn_23 : decode b_Fa_findIn 23 = .ok (.iload_n 3, 1) := by decide +kernel
theorem d_Fa_findIn_24 : decode b_Fa_findIn 24 = .ok (.if_icmp .ge 25, 3) := by decide +kernel
theorem d_Fa_findIn_27 : decode b_Fa_findIn 27 = .ok (.aload_n 0, 1) := by decide +kernel
theorem d_Fa_findIn_28 : decode b_Fa_findIn 28 = .ok (.aload_n 1, 1) := by decide +kernel
theorem d_Fa_findIn_29 : decode b_Fa_findIn 29 = .ok (.iload_n 2, 1) := by decide +kernel
theorem d_Fa_findIn_30 : decode b_Fa_findIn 30 = .ok (.iload 4, 2) := by decide +kernel
theorem d_Fa_findIn_32 : decode b_Fa_findIn 32 = .ok (.invokevirtual 25, 3) := by decide +kernel
theorem d_Fa_findIn_35 : decode b_Fa_findIn 35 = .ok (.aload_n 0, 1) := by decide +kernel
theorem d_Fa_findIn_36 : decode b_Fa_findIn 36 = .ok (.aload_n 1, 1) := by decide +kernel
theorem d_Fa_findIn_37 : decode b_Fa_findIn 37 = .ok (.iload_n 2, 1) := by decide +kernel
theorem d_Fa_findIn_38 : decode b_Fa_findIn 38 = .ok (.iload 4, 2) := by decide +kernel
theorem d_Fa_findIn_40 : decode b_Fa_findIn 40 = .ok (.invokevirtual 29, 3) := by decide +kernel
theorem d_Fa_findIn_43 : decode b_Fa_findIn 43 = .ok (.iinc 4 1, 3) := by decide +kernel
theorem d_Fa_findIn_46 : decode b_Fa_findIn 46 = .ok (.goto (-25), 3) := by decide +kernel
theorem d_Fa_findIn_49 : decode b_Fa_findIn 49 = .ok (.iinc 2 1, 3) := by decide +kernel
theorem d_Fa_findIn_52 : decode b_Fa_findIn 52 = .ok (.goto (-45), 3) := by decide +kernel
theorem d_Fa_findIn_55 : decode b_Fa_findIn 55 = .ok (.return_, 1) := by decide +kernel
theorem d_Pl_passesOf_0 : decode b_Pl_passesOf 0 = .ok (.iconst 0, 1) := by decide +kernel
theorem d_Pl_passesOf_1 : decode b_Pl_passesOf 1 = .ok (.istore_n 2, 1) := by decide +kernel
theorem d_Pl_passesOf_2 : decode b_Pl_passesOf 2 = .ok (.iconst 1, 1) := by decide +kernel
theorem d_Pl_passesOf_3 : decode b_Pl_passesOf 3 = .ok (.istore_n 3, 1) := by decide +kernel
theorem d_Pl_passesOf_4 : decode b_Pl_passesOf 4 = .ok (.iload_n 3, 1) := by decide +kernel
theorem d_Pl_passesOf_5 : decode b_Pl_passesOf 5 = .ok (.bipush 40, 2) := by decide +kernel
theorem d_Pl_passesOf_7 : decode b_Pl_passesOf 7 = .ok (.if_icmp .gt 44, 3) := by decide +kernel
theorem d_Pl_passesOf_10 : decode b_Pl_passesOf 10 = .ok (.iload_n 2, 1) := by decide +kernel
theorem d_Pl_passesOf_11 : decode b_Pl_passesOf 11 = .ok (.istore 4, 2) := by decide +kernel
theorem d_Pl_passesOf_13 : decode b_Pl_passesOf 13 = .ok (.iload 4, 2) := by decide +kernel
theorem d_Pl_passesOf_15 : decode b_Pl_passesOf 15 = .ok (.iconst 4, 1) := by decide +kernel
theorem d_Pl_passesOf_16 : decode b_Pl_passesOf 16 = .ok (.if_icmp .ge 29, 3) := by decide +kernel
theorem d_Pl_passesOf_19 : decode b_Pl_passesOf 19 = .ok (.aload_n 0, 1) := by decide +kernel
theorem d_Pl_passesOf_20 : decode b_Pl_passesOf 20 = .ok (.getfield 11, 3) := by decide +kernel
theorem d_Pl_passesOf_23 : decode b_Pl_passesOf 23 = .ok (.iload_n 3, 1) := by decide +kernel
theorem d_Pl_passesOf_24 : decode b_Pl_passesOf 24 = .ok (.iload 4, 2) := by decide +kernel
theorem d_Pl_passesOf_26 : decode b_Pl_passesOf 26 = .ok (.iload_n 1, 1) := by decide +kernel
theorem d_Pl_passesOf_27 : decode b_Pl_passesOf 27 = .ok (.invokestatic 56, 3) := by decide +kernel
theorem d_Pl_passesOf_30 : decode b_Pl_passesOf 30 = .ok (.iaload, 1) := by decide +kernel
theorem d_Pl_passesOf_31 : decode b_Pl_passesOf 31 = .ok (.ifCond .eq 8, 3) := by decide +kernel
theorem d_Pl_passesOf_34 : decode b_Pl_passesOf 34 = .ok (.iload 4, 2) := by decide +kernel
theorem d_Pl_passesOf_36 : decode b_Pl_passesOf 36 = .ok (.iconst 1, 1) := by decide +kernel
theorem d_Pl_passesOf_37 : decode b_Pl_passesOf 37 = .ok (.iadd, 1) := by decide +kernel
theorem d_Pl_passesOf_38 : decode b_Pl_passesOf 38 = .ok (.istore_n 2, 1) := by decide +kernel
theorem d_Pl_passesOf_39 : decode b_Pl_passesOf 39 = .ok (.iinc 4 1, 3) := by decide +kernel
theorem d_Pl_passesOf_42 : decode b_Pl_passesOf 42 = .ok (.goto (-29), 3) := by decide +kernel
theorem d_Pl_passesOf_45 : decode b_Pl_passesOf 45 = .ok (.iinc 3 1, 3) := by decide +kernel
theorem d_Pl_passesOf_48 : decode b_Pl_passesOf 48 = .ok (.goto (-44), 3) := by decide +kernel
theorem d_Pl_passesOf_51 : decode b_Pl_passesOf 51 = .ok (.iload_n 2, 1) := by decide +kernel
theorem d_Pl_passesOf_52 : decode b_Pl_passesOf 52 = .ok (.ireturn, 1) := by decide +kernel
theorem d_Fa_findHoles_0 : decode b_Fa_findHoles 0 = .ok (.iconst 1, 1) := by decide +kernel
theorem d_Fa_findHoles_1 : decode b_Fa_findHoles 1 = .ok (.istore 4, 2) := by decide +kernel
theorem d_Fa_findHoles_3 : decode b_Fa_findHoles 3 = .ok (.iload 4, 2) := by decide +kernel
theorem d_Fa_findHoles_5 : decode b_Fa_findHoles 5 = .ok (.bipush 40, 2) := by decide +kernel
theorem d_Fa_findHoles_7 : decode b_Fa_findHoles 7 = .ok (.if_icmp .gt 44, 3) := by decide +kernel
theorem d_Fa_findHoles_10 : decode b_Fa_findHoles 10 = .ok (.aload_n 1, 1) := by decide +kernel
theorem d_Fa_findHoles_11 : decode b_Fa_findHoles 11 = .ok (.getfield 32, 3) := by decide +kernel
theorem d_Fa_findHoles_14 : decode b_Fa_findHoles 14 = .ok (.iload 4, 2) := by decide +kernel
theorem d_Fa_findHoles_16 : decode b_Fa_findHoles 16 = .ok (.baload, 1) := by decide +kernel
theorem d_Fa_findHoles_17 : decode b_Fa_findHoles 17 = .ok (.ifCond .eq 28, 3) := by decide +kernel
theorem d_Fa_findHoles_20 : decode b_Fa_findHoles 20 = .ok (.aload_n 1, 1) := by decide +kernel
theorem d_Fa_findHoles_21 : decode b_Fa_findHoles 21 = .ok (.getfield 36, 3) := by decide +kernel
theorem d_Fa_findHoles_24 : decode b_Fa_findHoles 24 = .ok (.iload 4, 2) := by decide +kernel
theorem d_Fa_findHoles_26 : decode b_Fa_findHoles 26 = .ok (.iload_n 3, 1) := by decide +kernel
theorem d_Fa_findHoles_27 : decode b_Fa_findHoles 27 = .ok (.iload_n 2, 1) := by decide +kernel
theorem d_Fa_findHoles_28 : decode b_Fa_findHoles 28 = .ok (.invokestatic 39, 3) := by decide +kernel
theorem d_Fa_findHoles_31 : decode b_Fa_findHoles 31 = .ok (.iaload, 1) := by decide +kernel
theorem d_Fa_findHoles_32 : decode b_Fa_findHoles 32 = .ok (.ifCond .ne 13, 3) := by decide +kernel
theorem d_Fa_findHoles_35 : decode b_Fa_findHoles 35 = .ok (.aload_n 0, 1) := by decide +kernel
theorem d_Fa_findHoles_36 : decode b_Fa_findHoles 36 = .ok (.iload_n 2, 1) := by decide +kernel
theorem d_Fa_findHoles_37 : decode b_Fa_findHoles 37 = .ok (.iload_n 3, 1) := by decide +kernel
theorem d_Fa_findHoles_38 : decode b_Fa_findHoles 38 = .ok (.iload 4, 2) := by decide +kernel
theorem d_Fa_findHoles_40 : decode b_Fa_findHoles 40 = .ok (.iconst 0, 1) := by decide +kernel
theorem d_Fa_findHoles_41 : decode b_Fa_findHoles 41 = .ok (.iconst 0, 1) := by decide +kernel
theorem d_Fa_findHoles_42 : decode b_Fa_findHoles 42 = .ok (.invokevirtual 43, 3) := by decide +kernel
theorem d_Fa_findHoles_45 : decode b_Fa_findHoles 45 = .ok (.iinc 4 1, 3) := by decide +kernel
theorem d_Fa_findHoles_48 : decode b_Fa_findHoles 48 = .ok (.goto (-45), 3) := by decide +kernel
theorem d_Fa_findHoles_51 : decode b_Fa_findHoles 51 = .ok (.return_, 1) := by decide +kernel
theorem d_Fa_add_0 : decode b_Fa_add 0 = .ok (.aload_n 0, 1) := by decide +kernel
theorem d_Fa_add_1 : decode b_Fa_add 1 = .ok (.getfield 15, 3) := by decide +kernel
theorem d_Fa_add_4 : decode b_Fa_add 4 = .ok (.bipush 100, 2) := by decide +kernel
theorem d_Fa_add_6 : decode b_Fa_add 6 = .ok (.if_icmp .ge 61, 3) := by decide +kernel
theorem d_Fa_add_9 : decode b_Fa_add 9 = .ok (.aload_n 0, 1) := by decide +kernel
theorem d_Fa_add_10 : decode b_Fa_add 10 = .ok (.getfield 15, 3) := by decide +kernel
theorem d_Fa_add_13 : decode b_Fa_add 13 = .ok (.iconst 5, 1) := by decide +kernel
theorem d_Fa_add_14 : decode b_Fa_add 14 = .ok (.imul, 1) := by decide +kernel
theorem d_Fa_add_15 : decode b_Fa_add 15 = .ok (.istore 6, 2) := by decide +kernel
theorem d_Fa_add_17 : decode b_Fa_add 17 = .ok (.aload_n 0, 1) := by decide +kernel
theorem d_Fa_add_18 : decode b_Fa_add 18 = .ok (.getfield 11, 3) := by decide +kernel
theorem d_Fa_add_21 : decode b_Fa_add 21 = .ok (.iload 6, 2) := by decide +kernel
theorem d_Fa_add_23 : decode b_Fa_add 23 = .ok (.iload_n 1, 1) := by decide +kernel
theorem d_Fa_add_24 : decode b_Fa_add 24 = .ok (.iastore, 1) := by decide +kernel
theorem d_Fa_add_25 : decode b_Fa_add 25 = .ok (.aload_n 0, 1) := by decide +kernel
theorem d_Fa_add_26 : decode b_Fa_add 26 = .ok (.getfield 11, 3) := by decide +kernel
theorem d_Fa_add_29 : decode b_Fa_add 29 = .ok (.iload 6, 2) := by decide +kernel
theorem d_Fa_add_31 : decode b_Fa_add 31 = .ok (.iconst 1, 1) := by decide +kernel
theorem d_Fa_add_32 : decode b_Fa_add 32 = .ok (.iadd, 1) := by decide +kernel
theorem d_Fa_add_33 : decode b_Fa_add 33 = .ok (.iload_n 2, 1) := by decide +kernel
theorem d_Fa_add_34 : decode b_Fa_add 34 = .ok (.iastore, 1) := by decide +kernel
theorem d_Fa_add_35 : decode b_Fa_add 35 = .ok (.aload_n 0, 1) := by decide +kernel
theorem d_Fa_add_36 : decode b_Fa_add 36 = .ok (.getfield 11, 3) := by decide +kernel
theorem d_Fa_add_39 : decode b_Fa_add 39 = .ok (.iload 6, 2) := by decide +kernel
theorem d_Fa_add_41 : decode b_Fa_add 41 = .ok (.iconst 2, 1) := by decide +kernel
theorem d_Fa_add_42 : decode b_Fa_add 42 = .ok (.iadd, 1) := by decide +kernel
theorem d_Fa_add_43 : decode b_Fa_add 43 = .ok (.iload_n 3, 1) := by decide +kernel
theorem d_Fa_add_44 : decode b_Fa_add 44 = .ok (.iastore, 1) := by decide +kernel
theorem d_Fa_add_45 : decode b_Fa_add 45 = .ok (.aload_n 0, 1) := by decide +kernel
theorem d_Fa_add_46 : decode b_Fa_add 46 = .ok (.getfield 11, 3) := by decide +kernel
theorem d_Fa_add_49 : decode b_Fa_add 49 = .ok (.iload 6, 2) := by decide +kernel
theorem d_Fa_add_51 : decode b_Fa_add 51 = .ok (.iconst 3, 1) := by decide +kernel
theorem d_Fa_add_52 : decode b_Fa_add 52 = .ok (.iadd, 1) := by decide +kernel
theorem d_Fa_add_53 : decode b_Fa_add 53 = .ok (.iload 4, 2) := by decide +kernel
theorem d_Fa_add_55 : decode b_Fa_add 55 = .ok (.iastore, 1) := by decide +kernel
theorem d_Fa_add_56 : decode b_Fa_add 56 = .ok (.aload_n 0, 1) := by decide +kernel
theorem d_Fa_add_57 : decode b_Fa_add 57 = .ok (.getfield 11, 3) := by decide +kernel
theorem d_Fa_add_60 : decode b_Fa_add 60 = .ok (.iload 6, 2) := by decide +kernel
theorem d_Fa_add_62 : decode b_Fa_add 62 = .ok (.iconst 4, 1) := by decide +kernel
theorem d_Fa_add_63 : decode b_Fa_add 63 = .ok (.iadd, 1) := by decide +kernel
theorem d_Fa_add_64 : decode b_Fa_add 64 = .ok (.iload 5, 2) := by decide +kernel
theorem d_Fa_add_66 : decode b_Fa_add 66 = .ok (.iastore, 1) := by decide +kernel
theorem d_Fa_add_67 : decode b_Fa_add 67 = .ok (.aload_n 0, 1) := by decide +kernel
theorem d_Fa_add_68 : decode b_Fa_add 68 = .ok (.dup, 1) := by decide +kernel
theorem d_Fa_add_69 : decode b_Fa_add 69 = .ok (.getfield 15, 3) := by decide +kernel
theorem d_Fa_add_72 : decode b_Fa_add 72 = .ok (.iconst 1, 1) := by decide +kernel
theorem d_Fa_add_73 : decode b_Fa_add 73 = .ok (.iadd, 1) := by decide +kernel
theorem d_Fa_add_74 : decode b_Fa_add 74 = .ok (.putfield 15, 3) := by decide +kernel
theorem d_Fa_add_77 : decode b_Fa_add 77 = .ok (.return_, 1) := by decide +kernel
theorem d_Fa_findDoubles_0 : decode b_Fa_findDoubles 0 = .ok (.iconst 1, 1) := by decide +kernel
theorem d_Fa_findDoubles_1 : decode b_Fa_findDoubles 1 = .ok (.istore 4, 2) := by decide +kernel
theorem d_Fa_findDoubles_3 : decode b_Fa_findDoubles 3 = .ok (.iload 4, 2) := by decide +kernel
theorem d_Fa_findDoubles_5 : decode b_Fa_findDoubles 5 = .ok (.bipush 40, 2) := by decide +kernel
theorem d_Fa_findDoubles_7 : decode b_Fa_findDoubles 7 = .ok (.if_icmp .ge 49, 3) := by decide +kernel
theorem d_Fa_findDoubles_10 : decode b_Fa_findDoubles 10 = .ok (.aload_n 1, 1) := by decide +kernel
theorem d_Fa_findDoubles_11 : decode b_Fa_findDoubles 11 = .ok (.getfield 36, 3) := by decide +kernel
theorem d_Fa_findDoubles_14 : decode b_Fa_findDoubles 14 = .ok (.iload 4, 2) := by decide +kernel
theorem d_Fa_findDoubles_16 : decode b_Fa_findDoubles 16 = .ok (.iload_n 3, 1) := by decide +kernel
theorem d_Fa_findDoubles_17 : decode b_Fa_findDoubles 17 = .ok (.iload_n 2, 1) := by decide +kernel
theorem d_Fa_findDoubles_18 : decode b_Fa_findDoubles 18 = .ok (.invokestatic 39, 3) := by decide +kernel
theorem d_Fa_findDoubles_21 : decode b_Fa_findDoubles 21 = .ok (.iaload, 1) := by decide +kernel
theorem d_Fa_findDoubles_22 : decode b_Fa_findDoubles 22 = .ok (.istore 5, 2) := by decide +kernel
theorem d_Fa_findDoubles_24 : decode b_Fa_findDoubles 24 = .ok (.aload_n 1, 1) := by decide +kernel
theorem d_Fa_findDoubles_25 : decode b_Fa_findDoubles 25 = .ok (.getfield 32, 3) := by decide +kernel
theorem d_Fa_findDoubles_28 : decode b_Fa_findDoubles 28 = .ok (.iload 4, 2) := by decide +kernel
theorem d_Fa_findDoubles_30 : decode b_Fa_findDoubles 30 = .ok (.baload, 1) := by decide +kernel
theorem d_Fa_findDoubles_31 : decode b_Fa_findDoubles 31 = .ok (.ifCond .eq 19, 3) := by decide +kernel
theorem d_Fa_findDoubles_34 : decode b_Fa_findDoubles 34 = .ok (.iload 5, 2) := by decide +kernel
theorem d_Fa_findDoubles_36 : decode b_Fa_findDoubles 36 = .ok (.ifCond .eq 14, 3) := by decide +kernel
theorem d_Fa_findDoubles_39 : decode b_Fa_findDoubles 39 = .ok (.aload_n 0, 1) := by decide +kernel
theorem d_Fa_findDoubles_40 : decode b_Fa_findDoubles 40 = .ok (.aload_n 1, 1) := by decide +kernel
theorem d_Fa_findDoubles_41 : decode b_Fa_findDoubles 41 = .ok (.iload_n 2, 1) := by decide +kernel
theorem d_Fa_findDoubles_42 : decode b_Fa_findDoubles 42 = .ok (.iload_n 3, 1) := by decide +kernel
theorem d_Fa_findDoubles_43 : decode b_Fa_findDoubles 43 = .ok (.iload 4, 2) := by decide +kernel
theorem d_Fa_findDoubles_45 : decode b_Fa_findDoubles 45 = .ok (.iload 5, 2) := by decide +kernel
theorem d_Fa_findDoubles_47 : decode b_Fa_findDoubles 47 = .ok (.invokevirtual 47, 3) := by decide +kernel
theorem d_Fa_findDoubles_50 : decode b_Fa_findDoubles 50 = .ok (.iinc 4 1, 3) := by decide +kernel
theorem d_Fa_findDoubles_53 : decode b_Fa_findDoubles 53 = .ok (.goto (-50), 3) := by decide +kernel
theorem d_Fa_findDoubles_56 : decode b_Fa_findDoubles 56 = .ok (.return_, 1) := by decide +kernel
theorem d_Fa_findDoublesOf_0 : decode b_Fa_findDoublesOf 0 = .ok (.aload_n 1, 1) := by decide +kernel
theorem d_Fa_findDoublesOf_1 : decode b_Fa_findDoublesOf 1 = .ok (.getfield 51, 3) := by decide +kernel
theorem d_Fa_findDoublesOf_4 : decode b_Fa_findDoublesOf 4 = .ok (.iload 4, 2) := by decide +kernel
theorem d_Fa_findDoublesOf_6 : decode b_Fa_findDoublesOf 6 = .ok (.iload_n 3, 1) := by decide +kernel
theorem d_Fa_findDoublesOf_7 : decode b_Fa_findDoublesOf 7 = .ok (.iload_n 2, 1) := by decide +kernel
theorem d_Fa_findDoublesOf_8 : decode b_Fa_findDoublesOf 8 = .ok (.invokestatic 39, 3) := by decide +kernel
theorem d_Fa_findDoublesOf_11 : decode b_Fa_findDoublesOf 11 = .ok (.baload, 1) := by decide +kernel
theorem d_Fa_findDoublesOf_12 : decode b_Fa_findDoublesOf 12 = .ok (.istore 6, 2) := by decide +kernel
theorem d_Fa_findDoublesOf_14 : decode b_Fa_findDoublesOf 14 = .ok (.iload 4, 2) := by decide +kernel
theorem d_Fa_findDoublesOf_16 : decode b_Fa_findDoublesOf 16 = .ok (.iconst 1, 1) := by decide +kernel
theorem d_Fa_findDoublesOf_17 : decode b_Fa_findDoublesOf 17 = .ok (.iadd, 1) := by decide +kernel
theorem d_Fa_findDoublesOf_18 : decode b_Fa_findDoublesOf 18 = .ok (.istore 7, 2) := by decide +kernel
theorem d_Fa_findDoublesOf_20 : decode b_Fa_findDoublesOf 20 = .ok (.iload 7, 2) := by decide +kernel
theorem d_Fa_findDoublesOf_22 : decode b_Fa_findDoublesOf 22 = .ok (.bipush 40, 2) := by decide +kernel
theorem d_Fa_findDoublesOf_24 : decode b_Fa_findDoublesOf 24 = .ok (.if_icmp .gt 67, 3) := by decide +kernel
theorem d_Fa_findDoublesOf_27 : decode b_Fa_findDoublesOf 27 = .ok (.iload 7, 2) := by decide +kernel
theorem d_Fa_findDoublesOf_29 : decode b_Fa_findDoublesOf 29 = .ok (.iload_n 3, 1) := by decide +kernel
theorem d_Fa_findDoublesOf_30 : decode b_Fa_findDoublesOf 30 = .ok (.iload_n 2, 1) := by decide +kernel
theorem d_Fa_findDoublesOf_31 : decode b_Fa_findDoublesOf 31 = .ok (.invokestatic 39, 3) := by decide +kernel
theorem d_Fa_findDoublesOf_34 : decode b_Fa_findDoublesOf 34 = .ok (.istore 8, 2) := by decide +kernel
theorem d_Fa_findDoublesOf_36 : decode b_Fa_findDoublesOf 36 = .ok (.aload_n 1, 1) := by decide +kernel
theorem d_Fa_findDoublesOf_37 : decode b_Fa_findDoublesOf 37 = .ok (.getfield 32, 3) := by decide +kernel
theorem d_Fa_findDoublesOf_40 : decode b_Fa_findDoublesOf 40 = .ok (.iload 7, 2) := by decide +kernel
theorem d_Fa_findDoublesOf_42 : decode b_Fa_findDoublesOf 42 = .ok (.baload, 1) := by decide +kernel
theorem d_Fa_findDoublesOf_43 : decode b_Fa_findDoublesOf 43 = .ok (.ifCond .eq 42, 3) := by decide +kernel
theorem d_Fa_findDoublesOf_46 : decode b_Fa_findDoublesOf 46 = .ok (.aload_n 1, 1) := by decide +kernel
theorem d_Fa_findDoublesOf_47 : decode b_Fa_findDoublesOf 47 = .ok (.getfield 36, 3) := by decide +kernel
theorem d_Fa_findDoublesOf_50 : decode b_Fa_findDoublesOf 50 = .ok (.iload 8, 2) := by decide +kernel
theorem d_Fa_findDoublesOf_52 : decode b_Fa_findDoublesOf 52 = .ok (.iaload, 1) := by decide +kernel
theorem d_Fa_findDoublesOf_53 : decode b_Fa_findDoublesOf 53 = .ok (.iload 5, 2) := by decide +kernel
theorem d_Fa_findDoublesOf_55 : decode b_Fa_findDoublesOf 55 = .ok (.if_icmp .ne 30, 3) := by decide +kernel
theorem d_Fa_findDoublesOf_58 : decode b_Fa_findDoublesOf 58 = .ok (.iload 6, 2) := by decide +kernel
theorem d_Fa_findDoublesOf_60 : decode b_Fa_findDoublesOf 60 = .ok (.ifCond .eq 13, 3) := by decide +kernel
theorem d_Fa_findDoublesOf_63 : decode b_Fa_findDoublesOf 63 = .ok (.aload_n 1, 1) := by decide +kernel
theorem d_Fa_findDoublesOf_64 : decode b_Fa_findDoublesOf 64 = .ok (.getfield 51, 3) := by decide +kernel
theorem d_Fa_findDoublesOf_67 : decode b_Fa_findDoublesOf 67 = .ok (.iload 8, 2) := by decide +kernel
theorem d_Fa_findDoublesOf_69 : decode b_Fa_findDoublesOf 69 = .ok (.baload, 1) := by decide +kernel
theorem d_Fa_findDoublesOf_70 : decode b_Fa_findDoublesOf 70 = .ok (.ifCond .ne 15, 3) := by decide +kernel
theorem d_Fa_findDoublesOf_73 : decode b_Fa_findDoublesOf 73 = .ok (.aload_n 0, 1) := by decide +kernel
theorem d_Fa_findDoublesOf_74 : decode b_Fa_findDoublesOf 74 = .ok (.iload_n 2, 1) := by decide +kernel
theorem d_Fa_findDoublesOf_75 : decode b_Fa_findDoublesOf 75 = .ok (.iload_n 3, 1) := by decide +kernel
theorem d_Fa_findDoublesOf_76 : decode b_Fa_findDoublesOf 76 = .ok (.iload 4, 2) := by decide +kernel
theorem d_Fa_findDoublesOf_78 : decode b_Fa_findDoublesOf 78 = .ok (.iload 7, 2) := by decide +kernel
theorem d_Fa_findDoublesOf_80 : decode b_Fa_findDoublesOf 80 = .ok (.iload 5, 2) := by decide +kernel
theorem d_Fa_findDoublesOf_82 : decode b_Fa_findDoublesOf 82 = .ok (.invokevirtual 43, 3) := by decide +kernel
theorem d_Fa_findDoublesOf_85 : decode b_Fa_findDoublesOf 85 = .ok (.iinc 7 1, 3) := by decide +kernel
theorem d_Fa_findDoublesOf_88 : decode b_Fa_findDoublesOf 88 = .ok (.goto (-68), 3) := by decide +kernel
theorem d_Fa_findDoublesOf_91 : decode b_Fa_findDoublesOf 91 = .ok (.return_, 1) := by decide +kernel
theorem d_SP_fault_0 : decode b_SP_fault 0 = .ok (.aload_n 0, 1) := by decide +kernel
theorem d_SP_fault_1 : decode b_SP_fault 1 = .ok (.getfield 19, 3) := by decide +kernel
theorem d_SP_fault_4 : decode b_SP_fault 4 = .ok (.iload_n 1, 1) := by decide +kernel
theorem d_SP_fault_5 : decode b_SP_fault 5 = .ok (.iload_n 2, 1) := by decide +kernel
theorem d_SP_fault_6 : decode b_SP_fault 6 = .ok (.invokevirtual 107, 3) := by decide +kernel
theorem d_SP_fault_9 : decode b_SP_fault 9 = .ok (.ireturn, 1) := by decide +kernel
theorem d_Fa_tell_0 : decode b_Fa_tell 0 = .ok (.iload_n 1, 1) := by decide +kernel
theorem d_Fa_tell_1 : decode b_Fa_tell 1 = .ok (.ifCond .lt 26, 3) := by decide +kernel
theorem d_Fa_tell_4 : decode b_Fa_tell 4 = .ok (.iload_n 1, 1) := by decide +kernel
theorem d_Fa_tell_5 : decode b_Fa_tell 5 = .ok (.aload_n 0, 1) := by decide +kernel
theorem d_Fa_tell_6 : decode b_Fa_tell 6 = .ok (.getfield 15, 3) := by decide +kernel
theorem d_Fa_tell_9 : decode b_Fa_tell 9 = .ok (.if_icmp .ge 18, 3) := by decide +kernel
theorem d_Fa_tell_12 : decode b_Fa_tell 12 = .ok (.iload_n 1, 1) := by decide +kernel
theorem d_Fa_tell_13 : decode b_Fa_tell 13 = .ok (.bipush 100, 2) := by decide +kernel
theorem d_Fa_tell_15 : decode b_Fa_tell 15 = .ok (.if_icmp .ge 12, 3) := by decide +kernel
theorem d_Fa_tell_18 : decode b_Fa_tell 18 = .ok (.iload_n 2, 1) := by decide +kernel
theorem d_Fa_tell_19 : decode b_Fa_tell 19 = .ok (.ifCond .lt 8, 3) := by decide +kernel
theorem d_Fa_tell_22 : decode b_Fa_tell 22 = .ok (.iload_n 2, 1) := by decide +kernel
theorem d_Fa_tell_23 : decode b_Fa_tell 23 = .ok (.iconst 5, 1) := by decide +kernel
theorem d_Fa_tell_24 : decode b_Fa_tell 24 = .ok (.if_icmp .lt 5, 3) := by decide +kernel
theorem d_Fa_tell_27 : decode b_Fa_tell 27 = .ok (.iconst (-1), 1) := by decide +kernel
theorem d_Fa_tell_28 : decode b_Fa_tell 28 = .ok (.ireturn, 1) := by decide +kernel
theorem d_Fa_tell_29 : decode b_Fa_tell 29 = .ok (.aload_n 0, 1) := by decide +kernel
theorem d_Fa_tell_30 : decode b_Fa_tell 30 = .ok (.getfield 11, 3) := by decide +kernel
theorem d_Fa_tell_33 : decode b_Fa_tell 33 = .ok (.iload_n 1, 1) := by decide +kernel
theorem d_Fa_tell_34 : decode b_Fa_tell 34 = .ok (.iconst 5, 1) := by decide +kernel
theorem d_Fa_tell_35 : decode b_Fa_tell 35 = .ok (.imul, 1) := by decide +kernel
theorem d_Fa_tell_36 : decode b_Fa_tell 36 = .ok (.iload_n 2, 1) := by decide +kernel
theorem d_Fa_tell_37 : decode b_Fa_tell 37 = .ok (.iadd, 1) := by decide +kernel
theorem d_Fa_tell_38 : decode b_Fa_tell 38 = .ok (.iaload, 1) := by decide +kernel
theorem d_Fa_tell_39 : decode b_Fa_tell 39 = .ok (.ireturn, 1) := by decide +kernel
theorem d_SP_hold_0 : decode b_SP_hold 0 = .ok (.iload_n 1, 1) := by decide +kernel
theorem d_SP_hold_1 : decode b_SP_hold 1 = .ok (.invokestatic 84, 3) := by decide +kernel
theorem d_SP_hold_4 : decode b_SP_hold 4 = .ok (.ifCond .ne 6, 3) := by decide +kernel
theorem d_SP_hold_7 : decode b_SP_hold 7 = .ok (.bipush (-101), 2) := by decide +kernel
theorem d_SP_hold_9 : decode b_SP_hold 9 = .ok (.ireturn, 1) := by decide +kernel
theorem d_SP_hold_10 : decode b_SP_hold 10 = .ok (.aload_n 0, 1) := by decide +kernel
theorem d_SP_hold_11 : decode b_SP_hold 11 = .ok (.invokevirtual 77, 3) := by decide +kernel
theorem d_SP_hold_14 : decode b_SP_hold 14 = .ok (.ifCond .ne 6, 3) := by decide +kernel
theorem d_SP_hold_17 : decode b_SP_hold 17 = .ok (.bipush (-103), 2) := by decide +kernel
theorem d_SP_hold_19 : decode b_SP_hold 19 = .ok (.ireturn, 1) := by decide +kernel
theorem d_SP_hold_20 : decode b_SP_hold 20 = .ok (.aload_n 0, 1) := by decide +kernel
theorem d_SP_hold_21 : decode b_SP_hold 21 = .ok (.getfield 38, 3) := by decide +kernel
theorem d_SP_hold_24 : decode b_SP_hold 24 = .ok (.getfield 88, 3) := by decide +kernel
theorem d_SP_hold_27 : decode b_SP_hold 27 = .ok (.iload_n 1, 1) := by decide +kernel
theorem d_SP_hold_28 : decode b_SP_hold 28 = .ok (.baload, 1) := by decide +kernel
theorem d_SP_hold_29 : decode b_SP_hold 29 = .ok (.iload_n 2, 1) := by decide +kernel
theorem d_SP_hold_30 : decode b_SP_hold 30 = .ok (.if_icmp .ne 5, 3) := by decide +kernel
theorem d_SP_hold_33 : decode b_SP_hold 33 = .ok (.iconst 0, 1) := by decide +kernel
theorem d_SP_hold_34 : decode b_SP_hold 34 = .ok (.ireturn, 1) := by decide +kernel
theorem d_SP_hold_35 : decode b_SP_hold 35 = .ok (.aload_n 0, 1) := by decide +kernel
theorem d_SP_hold_36 : decode b_SP_hold 36 = .ok (.getfield 38, 3) := by decide +kernel
theorem d_SP_hold_39 : decode b_SP_hold 39 = .ok (.getfield 88, 3) := by decide +kernel
theorem d_SP_hold_42 : decode b_SP_hold 42 = .ok (.iload_n 1, 1) := by decide +kernel
theorem d_SP_hold_43 : decode b_SP_hold 43 = .ok (.iload_n 2, 1) := by decide +kernel
theorem d_SP_hold_44 : decode b_SP_hold 44 = .ok (.bastore, 1) := by decide +kernel
theorem d_SP_hold_45 : decode b_SP_hold 45 = .ok (.iconst 1, 1) := by decide +kernel
theorem d_SP_hold_46 : decode b_SP_hold 46 = .ok (.ireturn, 1) := by decide +kernel
theorem d_SP_compare_0 : decode b_SP_compare 0 = .ok (.aload_n 0, 1) := by decide +kernel
theorem d_SP_compare_1 : decode b_SP_compare 1 = .ok (.invokevirtual 77, 3) := by decide +kernel
theorem d_SP_compare_4 : decode b_SP_compare 4 = .ok (.ifCond .eq 10, 3) := by decide +kernel
theorem d_SP_compare_7 : decode b_SP_compare 7 = .ok (.aload_n 0, 1) := by decide +kernel
theorem d_SP_compare_8 : decode b_SP_compare 8 = .ok (.getfield 67, 3) := by decide +kernel
theorem d_SP_compare_11 : decode b_SP_compare 11 = .ok (.goto 5, 3) := by decide +kernel
theorem d_SP_compare_14 : decode b_SP_compare 14 = .ok (.bipush 8, 2) := by decide +kernel
theorem d_SP_compare_16 : decode b_SP_compare 16 = .ok (.istore_n 2, 1) := by decide +kernel
theorem d_SP_compare_17 : decode b_SP_compare 17 = .ok (.iload_n 1, 1) := by decide +kernel
theorem d_SP_compare_18 : decode b_SP_compare 18 = .ok (.iconst 0, 1) := by decide +kernel
theorem d_SP_compare_19 : decode b_SP_compare 19 = .ok (.iload_n 2, 1) := by decide +kernel
theorem d_SP_compare_20 : decode b_SP_compare 20 = .ok (.iconst 1, 1) := by decide +kernel
theorem d_SP_compare_21 : decode b_SP_compare 21 = .ok (.isub, 1) := by decide +kernel
theorem d_SP_compare_22 : decode b_SP_compare 22 = .ok (.invokestatic 73, 3) := by decide +kernel
theorem d_SP_compare_25 : decode b_SP_compare 25 = .ok (.ifCond .ne 6, 3) := by decide +kernel
theorem d_SP_compare_28 : decode b_SP_compare 28 = .ok (.bipush (-101), 2) := by decide +kernel
theorem d_SP_compare_30 : decode b_SP_compare 30 = .ok (.ireturn, 1) := by decide +kernel
theorem d_SP_compare_31 : decode b_SP_compare 31 = .ok (.aload_n 0, 1) := by decide +kernel
theorem d_SP_compare_32 : decode b_SP_compare 32 = .ok (.invokevirtual 77, 3) := by decide +kernel
theorem d_SP_compare_35 : decode b_SP_compare 35 = .ok (.ifCond .eq 19, 3) := by decide +kernel
theorem d_SP_compare_38 : decode b_SP_compare 38 = .ok (.aload_n 0, 1) := by decide +kernel
theorem d_SP_compare_39 : decode b_SP_compare 39 = .ok (.getfield 38, 3) := by decide +kernel
theorem d_SP_compare_42 : decode b_SP_compare 42 = .ok (.aload_n 0, 1) := by decide +kernel
theorem d_SP_compare_43 : decode b_SP_compare 43 = .ok (.getfield 32, 3) := by decide +kernel
theorem d_SP_compare_46 : decode b_SP_compare 46 = .ok (.iload_n 1, 1) := by decide +kernel
theorem d_SP_compare_47 : decode b_SP_compare 47 = .ok (.aaload, 1) := by decide +kernel
theorem d_SP_compare_48 : decode b_SP_compare 48 = .ok (.invokevirtual 110, 3) := by decide +kernel
theorem d_SP_compare_51 : decode b_SP_compare 51 = .ok (.goto 5, 3) := by decide +kernel
theorem d_SP_compare_54 : decode b_SP_compare 54 = .ok (.bipush (-103), 2) := by decide +kernel
theorem d_SP_compare_56 : decode b_SP_compare 56 = .ok (.ireturn, 1) := by decide +kernel
theorem d_Pl_countTargetsOtherThan_0 : decode b_Pl_countTargetsOtherThan 0 = .ok (.iconst 0, 1) := by decide +kernel
theorem d_Pl_countTargetsOtherThan_1 : decode b_Pl_countTargetsOtherThan 1 = .ok (.istore_n 2, 1) := by decide +kernel
theorem d_Pl_countTargetsOtherThan_2 : decode b_Pl_countTargetsOtherThan 2 = .ok (.iconst 1, 1) := by decide +kernel
theorem d_Pl_countTargetsOtherThan_3 : decode b_Pl_countTargetsOtherThan 3 = .ok (.istore_n 3, 1) := by decide +kernel
theorem d_Pl_countTargetsOtherThan_4 : decode b_Pl_countTargetsOtherThan 4 = .ok (.iload_n 3, 1) := by decide +kernel
theorem d_Pl_countTargetsOtherThan_5 : decode b_Pl_countTargetsOtherThan 5 = .ok (.bipush 40, 2) := by decide +kernel
theorem d_Pl_countTargetsOtherThan_7 : decode b_Pl_countTargetsOtherThan 7 = .ok (.if_icmp .gt 21, 3) := by decide +kernel
theorem d_Pl_countTargetsOtherThan_10 : decode b_Pl_countTargetsOtherThan 10 = .ok (.aload_n 0, 1) := by decide +kernel
theorem d_Pl_countTargetsOtherThan_11 : decode b_Pl_countTargetsOtherThan 11 = .ok (.aload_n 1, 1) := by decide +kernel
theorem d_Pl_countTargetsOtherThan_12 : decode b_Pl_countTargetsOtherThan 12 = .ok (.iload_n 3, 1) := by decide +kernel
theorem d_Pl_countTargetsOtherThan_13 : decode b_Pl_countTargetsOtherThan 13 = .ok (.invokevirtual 60, 3) := by decide +kernel
theorem d_Pl_countTargetsOtherThan_16 : decode b_Pl_countTargetsOtherThan 16 = .ok (.ifCond .eq 6, 3) := by decide +kernel
theorem d_Pl_countTargetsOtherThan_19 : decode b_Pl_countTargetsOtherThan 19 = .ok (.iinc 2 1, 3) := by decide +kernel
theorem d_Pl_countTargetsOtherThan_22 : decode b_Pl_countTargetsOtherThan 22 = .ok (.iinc 3 1, 3) := by decide +kernel
theorem d_Pl_countTargetsOtherThan_25 : decode b_Pl_countTargetsOtherThan 25 = .ok (.goto (-21), 3) := by decide +kernel
theorem d_Pl_countTargetsOtherThan_28 : decode b_Pl_countTargetsOtherThan 28 = .ok (.iload_n 2, 1) := by decide +kernel
theorem d_Pl_countTargetsOtherThan_29 : decode b_Pl_countTargetsOtherThan 29 = .ok (.ireturn, 1) := by decide +kernel
theorem d_Pl_isOtherThan_0 : decode b_Pl_isOtherThan 0 = .ok (.iload_n 2, 1) := by decide +kernel
theorem d_Pl_isOtherThan_1 : decode b_Pl_isOtherThan 1 = .ok (.iconst 0, 1) := by decide +kernel
theorem d_Pl_isOtherThan_2 : decode b_Pl_isOtherThan 2 = .ok (.iconst 0, 1) := by decide +kernel
theorem d_Pl_isOtherThan_3 : decode b_Pl_isOtherThan 3 = .ok (.invokestatic 56, 3) := by decide +kernel
theorem d_Pl_isOtherThan_6 : decode b_Pl_isOtherThan 6 = .ok (.istore_n 3, 1) := by decide +kernel
theorem d_Pl_isOtherThan_7 : decode b_Pl_isOtherThan 7 = .ok (.iload_n 3, 1) := by decide +kernel
theorem d_Pl_isOtherThan_8 : decode b_Pl_isOtherThan 8 = .ok (.istore 4, 2) := by decide +kernel
theorem d_Pl_isOtherThan_10 : decode b_Pl_isOtherThan 10 = .ok (.iload 4, 2) := by decide +kernel
theorem d_Pl_isOtherThan_12 : decode b_Pl_isOtherThan 12 = .ok (.iload_n 3, 1) := by decide +kernel
theorem d_Pl_isOtherThan_13 : decode b_Pl_isOtherThan 13 = .ok (.bipush 12, 2) := by decide +kernel
theorem d_Pl_isOtherThan_15 : decode b_Pl_isOtherThan 15 = .ok (.iadd, 1) := by decide +kernel
theorem d_Pl_isOtherThan_16 : decode b_Pl_isOtherThan 16 = .ok (.if_icmp .ge 25, 3) := by decide +kernel
theorem d_Pl_isOtherThan_19 : decode b_Pl_isOtherThan 19 = .ok (.aload_n 0, 1) := by decide +kernel
theorem d_Pl_isOtherThan_20 : decode b_Pl_isOtherThan 20 = .ok (.getfield 11, 3) := by decide +kernel
theorem d_Pl_isOtherThan_23 : decode b_Pl_isOtherThan 23 = .ok (.iload 4, 2) := by decide +kernel
theorem d_Pl_isOtherThan_25 : decode b_Pl_isOtherThan 25 = .ok (.iaload, 1) := by decide +kernel
theorem d_Pl_isOtherThan_26 : decode b_Pl_isOtherThan 26 = .ok (.aload_n 1, 1) := by decide +kernel
theorem d_Pl_isOtherThan_27 : decode b_Pl_isOtherThan 27 = .ok (.iload 4, 2) := by decide +kernel
theorem d_Pl_isOtherThan_29 : decode b_Pl_isOtherThan 29 = .ok (.iaload, 1) := by decide +kernel
theorem d_Pl_isOtherThan_30 : decode b_Pl_isOtherThan 30 = .ok (.if_icmp .eq 5, 3) := by decide +kernel
theorem d_Pl_isOtherThan_33 : decode b_Pl_isOtherThan 33 = .ok (.iconst 1, 1) := by decide +kernel
theorem d_Pl_isOtherThan_34 : decode b_Pl_isOtherThan 34 = .ok (.ireturn, 1) := by decide +kernel
theorem d_Pl_isOtherThan_35 : decode b_Pl_isOtherThan 35 = .ok (.iinc 4 1, 3) := by decide +kernel
theorem d_Pl_isOtherThan_38 : decode b_Pl_isOtherThan 38 = .ok (.goto (-28), 3) := by decide +kernel
theorem d_Pl_isOtherThan_41 : decode b_Pl_isOtherThan 41 = .ok (.iconst 0, 1) := by decide +kernel
theorem d_Pl_isOtherThan_42 : decode b_Pl_isOtherThan 42 = .ok (.ireturn, 1) := by decide +kernel
theorem d_SP_swap_0 : decode b_SP_swap 0 = .ok (.iload_n 1, 1) := by decide +kernel
theorem d_SP_swap_1 : decode b_SP_swap 1 = .ok (.invokestatic 114, 3) := by decide +kernel
theorem d_SP_swap_4 : decode b_SP_swap 4 = .ok (.ifCond .eq 10, 3) := by decide +kernel
theorem d_SP_swap_7 : decode b_SP_swap 7 = .ok (.iload_n 2, 1) := by decide +kernel
theorem d_SP_swap_8 : decode b_SP_swap 8 = .ok (.invokestatic 114, 3) := by decide +kernel
theorem d_SP_swap_11 : decode b_SP_swap 11 = .ok (.ifCond .ne 6, 3) := by decide +kernel
theorem d_SP_swap_14 : decode b_SP_swap 14 = .ok (.bipush (-101), 2) := by decide +kernel
theorem d_SP_swap_16 : decode b_SP_swap 16 = .ok (.ireturn, 1) := by decide +kernel
theorem d_SP_swap_17 : decode b_SP_swap 17 = .ok (.aload_n 0, 1) := by decide +kernel
theorem d_SP_swap_18 : decode b_SP_swap 18 = .ok (.invokevirtual 77, 3) := by decide +kernel
theorem d_SP_swap_21 : decode b_SP_swap 21 = .ok (.ifCond .eq 15, 3) := by decide +kernel
theorem d_SP_swap_24 : decode b_SP_swap 24 = .ok (.aload_n 0, 1) := by decide +kernel
theorem d_SP_swap_25 : decode b_SP_swap 25 = .ok (.getfield 38, 3) := by decide +kernel
theorem d_SP_swap_28 : decode b_SP_swap 28 = .ok (.iload_n 1, 1) := by decide +kernel
theorem d_SP_swap_29 : decode b_SP_swap 29 = .ok (.iload_n 2, 1) := by decide +kernel
theorem d_SP_swap_30 : decode b_SP_swap 30 = .ok (.invokevirtual 117, 3) := by decide +kernel
theorem d_SP_swap_33 : decode b_SP_swap 33 = .ok (.goto 5, 3) := by decide +kernel
theorem d_SP_swap_36 : decode b_SP_swap 36 = .ok (.bipush (-103), 2) := by decide +kernel
theorem d_SP_swap_38 : decode b_SP_swap 38 = .ok (.ireturn, 1) := by decide +kernel
theorem d_SP_isBin_0 : decode b_SP_isBin 0 = .ok (.iload_n 0, 1) := by decide +kernel
theorem d_SP_isBin_1 : decode b_SP_isBin 1 = .ok (.iconst 1, 1) := by decide +kernel
theorem d_SP_isBin_2 : decode b_SP_isBin 2 = .ok (.bipush 60, 2) := by decide +kernel
theorem d_SP_isBin_4 : decode b_SP_isBin 4 = .ok (.invokestatic 73, 3) := by decide +kernel
theorem d_SP_isBin_7 : decode b_SP_isBin 7 = .ok (.ireturn, 1) := by decide +kernel
theorem d_Pl_exchange_0 : decode b_Pl_exchange 0 = .ok (.iconst 0, 1) := by decide +kernel
theorem d_Pl_exchange_1 : decode b_Pl_exchange 1 = .ok (.istore_n 3, 1) := by decide +kernel
theorem d_Pl_exchange_2 : decode b_Pl_exchange 2 = .ok (.iconst 0, 1) := by decide +kernel
theorem d_Pl_exchange_3 : decode b_Pl_exchange 3 = .ok (.istore 4, 2) := by decide +kernel
theorem d_Pl_exchange_5 : decode b_Pl_exchange 5 = .ok (.iload 4, 2) := by decide +kernel
theorem d_Pl_exchange_7 : decode b_Pl_exchange 7 = .ok (.sipush 480, 3) := by decide +kernel
theorem d_Pl_exchange_10 : decode b_Pl_exchange 10 = .ok (.if_icmp .ge 51, 3) := by decide +kernel
theorem d_Pl_exchange_13 : decode b_Pl_exchange 13 = .ok (.aload_n 0, 1) := by decide +kernel
theorem d_Pl_exchange_14 : decode b_Pl_exchange 14 = .ok (.getfield 11, 3) := by decide +kernel
theorem d_Pl_exchange_17 : decode b_Pl_exchange 17 = .ok (.iload 4, 2) := by decide +kernel
theorem d_Pl_exchange_19 : decode b_Pl_exchange 19 = .ok (.iaload, 1) := by decide +kernel
theorem d_Pl_exchange_20 : decode b_Pl_exchange 20 = .ok (.istore 5, 2) := by decide +kernel
theorem d_Pl_exchange_22 : decode b_Pl_exchange 22 = .ok (.iload 5, 2) := by decide +kernel
theorem d_Pl_exchange_24 : decode b_Pl_exchange 24 = .ok (.iload_n 1, 1) := by decide +kernel
theorem d_Pl_exchange_25 : decode b_Pl_exchange 25 = .ok (.if_icmp .eq 9, 3) := by decide +kernel
theorem d_Pl_exchange_28 : decode b_Pl_exchange 28 = .ok (.iload 5, 2) := by decide +kernel
theorem d_Pl_exchange_30 : decode b_Pl_exchange 30 = .ok (.iload_n 2, 1) := by decide +kernel
theorem d_Pl_exchange_31 : decode b_Pl_exchange 31 = .ok (.if_icmp .ne 24, 3) := by decide +kernel
theorem d_Pl_exchange_34 : decode b_Pl_exchange 34 = .ok (.aload_n 0, 1) := by decide +kernel
theorem d_Pl_exchange_35 : decode b_Pl_exchange 35 = .ok (.getfield 11, 3) := by decide +kernel
theorem d_Pl_exchange_38 : decode b_Pl_exchange 38 = .ok (.iload 4, 2) := by decide +kernel
theorem d_Pl_exchange_40 : decode b_Pl_exchange 40 = .ok (.iload 5, 2) := by decide +kernel
theorem d_Pl_exchange_42 : decode b_Pl_exchange 42 = .ok (.iload_n 1, 1) := by decide +kernel
theorem d_Pl_exchange_43 : decode b_Pl_exchange 43 = .ok (.if_icmp .ne 7, 3) := by decide +kernel
theorem d_Pl_exchange_46 : decode b_Pl_exchange 46 = .ok (.iload_n 2, 1) := by decide +kernel
theorem d_Pl_exchange_47 : decode b_Pl_exchange 47 = .ok (.goto 4, 3) := by decide +kernel
theorem d_Pl_exchange_50 : decode b_Pl_exchange 50 = .ok (.iload_n 1, 1) := by decide +kernel
theorem d_Pl_exchange_51 : decode b_Pl_exchange 51 = .ok (.iastore, 1) := by decide +kernel
theorem d_Pl_exchange_52 : decode b_Pl_exchange 52 = .ok (.iinc 3 1, 3) := by decide +kernel
theorem d_Pl_exchange_55 : decode b_Pl_exchange 55 = .ok (.iinc 4 1, 3) := by decide +kernel
theorem d_Pl_exchange_58 : decode b_Pl_exchange 58 = .ok (.goto (-53), 3) := by decide +kernel
theorem d_Pl_exchange_61 : decode b_Pl_exchange 61 = .ok (.iload_n 3, 1) := by decide +kernel
theorem d_Pl_exchange_62 : decode b_Pl_exchange 62 = .ok (.ireturn, 1) := by decide +kernel
theorem d_SP_overflow_0 : decode b_SP_overflow 0 = .ok (.iload_n 1, 1) := by decide +kernel
theorem d_SP_overflow_1 : decode b_SP_overflow 1 = .ok (.invokestatic 114, 3) := by decide +kernel
theorem d_SP_overflow_4 : decode b_SP_overflow 4 = .ok (.ifCond .ne 6, 3) := by decide +kernel
theorem d_SP_overflow_7 : decode b_SP_overflow 7 = .ok (.bipush (-101), 2) := by decide +kernel
theorem d_SP_overflow_9 : decode b_SP_overflow 9 = .ok (.ireturn, 1) := by decide +kernel
theorem d_SP_overflow_10 : decode b_SP_overflow 10 = .ok (.aload_n 0, 1) := by decide +kernel
theorem d_SP_overflow_11 : decode b_SP_overflow 11 = .ok (.invokevirtual 77, 3) := by decide +kernel
theorem d_SP_overflow_14 : decode b_SP_overflow 14 = .ok (.ifCond .eq 14, 3) := by decide +kernel
theorem d_SP_overflow_17 : decode b_SP_overflow 17 = .ok (.aload_n 0, 1) := by decide +kernel
theorem d_SP_overflow_18 : decode b_SP_overflow 18 = .ok (.getfield 38, 3) := by decide +kernel
theorem d_SP_overflow_21 : decode b_SP_overflow 21 = .ok (.iload_n 1, 1) := by decide +kernel
theorem d_SP_overflow_22 : decode b_SP_overflow 22 = .ok (.invokevirtual 120, 3) := by decide +kernel
theorem d_SP_overflow_25 : decode b_SP_overflow 25 = .ok (.goto 5, 3) := by decide +kernel
theorem d_SP_overflow_28 : decode b_SP_overflow 28 = .ok (.bipush (-103), 2) := by decide +kernel
theorem d_SP_overflow_30 : decode b_SP_overflow 30 = .ok (.ireturn, 1) := by decide +kernel
theorem d_Pl_endOfGoingOn_0 : decode b_Pl_endOfGoingOn 0 = .ok (.iload_n 1, 1) := by decide +kernel
theorem d_Pl_endOfGoingOn_1 : decode b_Pl_endOfGoingOn 1 = .ok (.istore_n 2, 1) := by decide +kernel
theorem d_Pl_endOfGoingOn_2 : decode b_Pl_endOfGoingOn 2 = .ok (.iconst 0, 1) := by decide +kernel
theorem d_Pl_endOfGoingOn_3 : decode b_Pl_endOfGoingOn 3 = .ok (.istore_n 3, 1) := by decide +kernel
theorem d_Pl_endOfGoingOn_4 : decode b_Pl_endOfGoingOn 4 = .ok (.iload_n 3, 1) := by decide +kernel
theorem d_Pl_endOfGoingOn_5 : decode b_Pl_endOfGoingOn 5 = .ok (.bipush 60, 2) := by decide +kernel
theorem d_Pl_endOfGoingOn_7 : decode b_Pl_endOfGoingOn 7 = .ok (.if_icmp .ge 27, 3) := by decide +kernel
theorem d_Pl_endOfGoingOn_10 : decode b_Pl_endOfGoingOn 10 = .ok (.aload_n 0, 1) := by decide +kernel
theorem d_Pl_endOfGoingOn_11 : decode b_Pl_endOfGoingOn 11 = .ok (.getfield 27, 3) := by decide +kernel
theorem d_Pl_endOfGoingOn_14 : decode b_Pl_endOfGoingOn 14 = .ok (.iload_n 2, 1) := by decide +kernel
theorem d_Pl_endOfGoingOn_15 : decode b_Pl_endOfGoingOn 15 = .ok (.iaload, 1) := by decide +kernel
theorem d_Pl_endOfGoingOn_16 : decode b_Pl_endOfGoingOn 16 = .ok (.ifCond .ne 5, 3) := by decide +kernel
theorem d_Pl_endOfGoingOn_19 : decode b_Pl_endOfGoingOn 19 = .ok (.iload_n 2, 1) := by decide +kernel
theorem d_Pl_endOfGoingOn_20 : decode b_Pl_endOfGoingOn 20 = .ok (.ireturn, 1) := by decide +kernel
theorem d_Pl_endOfGoingOn_21 : decode b_Pl_endOfGoingOn 21 = .ok (.aload_n 0, 1) := by decide +kernel
theorem d_Pl_endOfGoingOn_22 : decode b_Pl_endOfGoingOn 22 = .ok (.getfield 27, 3) := by decide +kernel
theorem d_Pl_endOfGoingOn_25 : decode b_Pl_endOfGoingOn 25 = .ok (.iload_n 2, 1) := by decide +kernel
theorem d_Pl_endOfGoingOn_26 : decode b_Pl_endOfGoingOn 26 = .ok (.iaload, 1) := by decide +kernel
theorem d_Pl_endOfGoingOn_27 : decode b_Pl_endOfGoingOn 27 = .ok (.istore_n 2, 1) := by decide +kernel
theorem d_Pl_endOfGoingOn_28 : decode b_Pl_endOfGoingOn 28 = .ok (.iinc 3 1, 3) := by decide +kernel
theorem d_Pl_endOfGoingOn_31 : decode b_Pl_endOfGoingOn 31 = .ok (.goto (-27), 3) := by decide +kernel
theorem d_Pl_endOfGoingOn_34 : decode b_Pl_endOfGoingOn 34 = .ok (.iconst (-1), 1) := by decide +kernel
theorem d_Pl_endOfGoingOn_35 : decode b_Pl_endOfGoingOn 35 = .ok (.ireturn, 1) := by decide +kernel
theorem d_SP_print_0 : decode b_SP_print 0 = .ok (.aload_n 0, 1) := by decide +kernel
theorem d_SP_print_1 : decode b_SP_print 1 = .ok (.invokevirtual 77, 3) := by decide +kernel
theorem d_SP_print_4 : decode b_SP_print 4 = .ok (.ifCond .ne 5, 3) := by decide +kernel
theorem d_SP_print_7 : decode b_SP_print 7 = .ok (.iconst 0, 1) := by decide +kernel
theorem d_SP_print_8 : decode b_SP_print 8 = .ok (.ireturn, 1) := by decide +kernel
theorem d_SP_print_9 : decode b_SP_print 9 = .ok (.aload_n 0, 1) := by decide +kernel
theorem d_SP_print_10 : decode b_SP_print 10 = .ok (.getfield 26, 3) := by decide +kernel
theorem d_SP_print_13 : decode b_SP_print 13 = .ok (.aload_n 0, 1) := by decide +kernel
theorem d_SP_print_14 : decode b_SP_print 14 = .ok (.getfield 38, 3) := by decide +kernel
theorem d_SP_print_17 : decode b_SP_print 17 = .ok (.invokevirtual 124, 3) := by decide +kernel
theorem d_SP_print_20 : decode b_SP_print 20 = .ok (.aload_n 0, 1) := by decide +kernel
theorem d_SP_print_21 : decode b_SP_print 21 = .ok (.getfield 26, 3) := by decide +kernel
theorem d_SP_print_24 : decode b_SP_print 24 = .ok (.iload_n 1, 1) := by decide +kernel
theorem d_SP_print_25 : decode b_SP_print 25 = .ok (.invokevirtual 127, 3) := by decide +kernel
theorem d_SP_print_28 : decode b_SP_print 28 = .ok (.ireturn, 1) := by decide +kernel
theorem d_Sh_write_0 : decode b_Sh_write 0 = .ok (.aload_n 0, 1) := by decide +kernel
theorem d_Sh_write_1 : decode b_Sh_write 1 = .ok (.iconst 0, 1) := by decide +kernel
theorem d_Sh_write_2 : decode b_Sh_write 2 = .ok (.putfield 15, 3) := by decide +kernel
theorem d_Sh_write_5 : decode b_Sh_write 5 = .ok (.iconst 1, 1) := by decide +kernel
theorem d_Sh_write_6 : decode b_Sh_write 6 = .ok (.istore_n 2, 1) := by decide +kernel
theorem d_Sh_write_7 : decode b_Sh_write 7 = .ok (.iload_n 2, 1) := by decide +kernel
theorem d_Sh_write_8 : decode b_Sh_write 8 = .ok (.bipush 60, 2) := by decide +kernel
theorem d_Sh_write_10 : decode b_Sh_write 10 = .ok (.if_icmp .gt 15, 3) := by decide +kernel
theorem d_Sh_write_13 : decode b_Sh_write 13 = .ok (.aload_n 0, 1) := by decide +kernel
theorem d_Sh_write_14 : decode b_Sh_write 14 = .ok (.aload_n 1, 1) := by decide +kernel
theorem d_Sh_write_15 : decode b_Sh_write 15 = .ok (.iload_n 2, 1) := by decide +kernel
theorem d_Sh_write_16 : decode b_Sh_write 16 = .ok (.invokevirtual 19, 3) := by decide +kernel
theorem d_Sh_write_19 : decode b_Sh_write 19 = .ok (.iinc 2 1, 3) := by decide +kernel
theorem d_Sh_write_22 : decode b_Sh_write 22 = .ok (.goto (-15), 3) := by decide +kernel
theorem d_Sh_write_25 : decode b_Sh_write 25 = .ok (.return_, 1) := by decide +kernel
theorem d_Sh_writeBin_0 : decode b_Sh_writeBin 0 = .ok (.iconst 0, 1) := by decide +kernel
theorem d_Sh_writeBin_1 : decode b_Sh_writeBin 1 = .ok (.istore_n 3, 1) := by decide +kernel
theorem d_Sh_writeBin_2 : decode b_Sh_writeBin 2 = .ok (.iconst 1, 1) := by decide +kernel
theorem d_Sh_writeBin_3 : decode b_Sh_writeBin 3 = .ok (.istore 4, 2) := by decide +kernel
theorem d_Sh_writeBin_5 : decode b_Sh_writeBin 5 = .ok (.iload 4, 2) := by decide +kernel
theorem d_Sh_writeBin_7 : decode b_Sh_writeBin 7 = .ok (.bipush 40, 2) := by decide +kernel
theorem d_Sh_writeBin_9 : decode b_Sh_writeBin 9 = .ok (.if_icmp .gt 60, 3) := by decide +kernel
theorem d_Sh_writeBin_12 : decode b_Sh_writeBin 12 = .ok (.aload_n 1, 1) := by decide +kernel
theorem d_Sh_writeBin_13 : decode b_Sh_writeBin 13 = .ok (.getfield 23, 3) := by decide +kernel
theorem d_Sh_writeBin_16 : decode b_Sh_writeBin 16 = .ok (.iload 4, 2) := by decide +kernel
theorem d_Sh_writeBin_18 : decode b_Sh_writeBin 18 = .ok (.iconst 0, 1) := by decide +kernel
theorem d_Sh_writeBin_19 : decode b_Sh_writeBin 19 = .ok (.iconst 0, 1) := by decide +kernel
theorem d_Sh_writeBin_20 : decode b_Sh_writeBin 20 = .ok (.invokestatic 29, 3) := by decide +kernel
theorem d_Sh_writeBin_23 : decode b_Sh_writeBin 23 = .ok (.iaload, 1) := by decide +kernel
theorem d_Sh_writeBin_24 : decode b_Sh_writeBin 24 = .ok (.iload_n 2, 1) := by decide +kernel
theorem d_Sh_writeBin_25 : decode b_Sh_writeBin 25 = .ok (.if_icmp .eq 6, 3) := by decide +kernel
theorem d_Sh_writeBin_28 : decode b_Sh_writeBin 28 = .ok (.goto 35, 3) := by decide +kernel
theorem d_Sh_writeBin_31 : decode b_Sh_writeBin 31 = .ok (.iload_n 3, 1) := by decide +kernel
theorem d_Sh_writeBin_32 : decode b_Sh_writeBin 32 = .ok (.ifCond .eq 12, 3) := by decide +kernel
theorem d_Sh_writeBin_35 : decode b_Sh_writeBin 35 = .ok (.aload_n 0, 1) := by decide +kernel
theorem d_Sh_writeBin_36 : decode b_Sh_writeBin 36 = .ok (.bipush 44, 2) := by decide +kernel
theorem d_Sh_writeBin_38 : decode b_Sh_writeBin 38 = .ok (.invokevirtual 33, 3) := by decide +kernel
theorem d_Sh_writeBin_41 : decode b_Sh_writeBin 41 = .ok (.goto 16, 3) := by decide +kernel
theorem d_Sh_writeBin_44 : decode b_Sh_writeBin 44 = .ok (.aload_n 0, 1) := by decide +kernel
theorem d_Sh_writeBin_45 : decode b_Sh_writeBin 45 = .ok (.iload_n 2, 1) := by decide +kernel
theorem d_Sh_writeBin_46 : decode b_Sh_writeBin 46 = .ok (.invokevirtual 37, 3) := by decide +kernel
theorem d_Sh_writeBin_49 : decode b_Sh_writeBin 49 = .ok (.aload_n 0, 1) := by decide +kernel
theorem d_Sh_writeBin_50 : decode b_Sh_writeBin 50 = .ok (.bipush 58, 2) := by decide +kernel
theorem d_Sh_writeBin_52 : decode b_Sh_writeBin 52 = .ok (.invokevirtual 33, 3) := by decide +kernel
theorem d_Sh_writeBin_55 : decode b_Sh_writeBin 55 = .ok (.iconst 1, 1) := by decide +kernel
theorem d_Sh_writeBin_56 : decode b_Sh_writeBin 56 = .ok (.istore_n 3, 1) := by decide +kernel
theorem d_Sh_writeBin_57 : decode b_Sh_writeBin 57 = .ok (.aload_n 0, 1) := by decide +kernel
theorem d_Sh_writeBin_58 : decode b_Sh_writeBin 58 = .ok (.iload 4, 2) := by decide +kernel
theorem d_Sh_writeBin_60 : decode b_Sh_writeBin 60 = .ok (.invokevirtual 37, 3) := by decide +kernel
theorem d_Sh_writeBin_63 : decode b_Sh_writeBin 63 = .ok (.iinc 4 1, 3) := by decide +kernel
theorem d_Sh_writeBin_66 : decode b_Sh_writeBin 66 = .ok (.goto (-61), 3) := by decide +kernel
theorem d_Sh_writeBin_69 : decode b_Sh_writeBin 69 = .ok (.iload_n 3, 1) := by decide +kernel
theorem d_Sh_writeBin_70 : decode b_Sh_writeBin 70 = .ok (.ifCond .eq 9, 3) := by decide +kernel
theorem d_Sh_writeBin_73 : decode b_Sh_writeBin 73 = .ok (.aload_n 0, 1) := by decide +kernel
theorem d_Sh_writeBin_74 : decode b_Sh_writeBin 74 = .ok (.bipush 59, 2) := by decide +kernel
theorem d_Sh_writeBin_76 : decode b_Sh_writeBin 76 = .ok (.invokevirtual 33, 3) := by decide +kernel
theorem d_Sh_writeBin_79 : decode b_Sh_writeBin 79 = .ok (.return_, 1) := by decide +kernel
theorem d_Sh_put_0 : decode b_Sh_put 0 = .ok (.aload_n 0, 1) := by decide +kernel
theorem d_Sh_put_1 : decode b_Sh_put 1 = .ok (.getfield 15, 3) := by decide +kernel
theorem d_Sh_put_4 : decode b_Sh_put 4 = .ok (.sipush 240, 3) := by decide +kernel
theorem d_Sh_put_7 : decode b_Sh_put 7 = .ok (.if_icmp .ge 23, 3) := by decide +kernel
theorem d_Sh_put_10 : decode b_Sh_put 10 = .ok (.aload_n 0, 1) := by decide +kernel
theorem d_Sh_put_11 : decode b_Sh_put 11 = .ok (.getfield 11, 3) := by decide +kernel
theorem d_Sh_put_14 : decode b_Sh_put 14 = .ok (.aload_n 0, 1) := by decide +kernel
theorem d_Sh_put_15 : decode b_Sh_put 15 = .ok (.getfield 15, 3) := by decide +kernel
theorem d_Sh_put_18 : decode b_Sh_put 18 = .ok (.iload_n 1, 1) := by decide +kernel
theorem d_Sh_put_19 : decode b_Sh_put 19 = .ok (.castore, 1) := by decide +kernel
theorem d_Sh_put_20 : decode b_Sh_put 20 = .ok (.aload_n 0, 1) := by decide +kernel
theorem d_Sh_put_21 : decode b_Sh_put 21 = .ok (.dup, 1) := by decide +kernel
theorem d_Sh_put_22 : decode b_Sh_put 22 = .ok (.getfield 15, 3) := by decide +kernel
theorem d_Sh_put_25 : decode b_Sh_put 25 = .ok (.iconst 1, 1) := by decide +kernel
theorem d_Sh_put_26 : decode b_Sh_put 26 = .ok (.iadd, 1) := by decide +kernel
theorem d_Sh_put_27 : decode b_Sh_put 27 = .ok (.putfield 15, 3) := by decide +kernel
theorem d_Sh_put_30 : decode b_Sh_put 30 = .ok (.return_, 1) := by decide +kernel
theorem d_Sh_putNumber_0 : decode b_Sh_putNumber 0 = .ok (.iload_n 1, 1) := by decide +kernel
theorem d_Sh_putNumber_1 : decode b_Sh_putNumber 1 = .ok (.bipush 10, 2) := by decide +kernel
theorem d_Sh_putNumber_3 : decode b_Sh_putNumber 3 = .ok (.if_icmp .lt 15, 3) := by decide +kernel
theorem d_Sh_putNumber_6 : decode b_Sh_putNumber 6 = .ok (.aload_n 0, 1) := by decide +kernel
theorem d_Sh_putNumber_7 : decode b_Sh_putNumber 7 = .ok (.bipush 48, 2) := by decide +kernel
theorem d_Sh_putNumber_9 : decode b_Sh_putNumber 9 = .ok (.iload_n 1, 1) := by decide +kernel
theorem d_Sh_putNumber_10 : decode b_Sh_putNumber 10 = .ok (.bipush 10, 2) := by decide +kernel
theorem d_Sh_putNumber_12 : decode b_Sh_putNumber 12 = .ok (.idiv, 1) := by decide +kernel
theorem d_Sh_putNumber_13 : decode b_Sh_putNumber 13 = .ok (.iadd, 1) := by decide +kernel
theorem d_Sh_putNumber_14 : decode b_Sh_putNumber 14 = .ok (.i2c, 1) := by decide +kernel
theorem d_Sh_putNumber_15 : decode b_Sh_putNumber 15 = .ok (.invokevirtual 33, 3) := by decide +kernel
theorem d_Sh_putNumber_18 : decode b_Sh_putNumber 18 = .ok (.aload_n 0, 1) := by decide +kernel
theorem d_Sh_putNumber_19 : decode b_Sh_putNumber 19 = .ok (.bipush 48, 2) := by decide +kernel
theorem d_Sh_putNumber_21 : decode b_Sh_putNumber 21 = .ok (.iload_n 1, 1) := by decide +kernel
theorem d_Sh_putNumber_22 : decode b_Sh_putNumber 22 = .ok (.bipush 10, 2) := by decide +kernel
theorem d_Sh_putNumber_24 : decode b_Sh_putNumber 24 = .ok (.irem, 1) := by decide +kernel
theorem d_Sh_putNumber_25 : decode b_Sh_putNumber 25 = .ok (.iadd, 1) := by decide +kernel
theorem d_Sh_putNumber_26 : decode b_Sh_putNumber 26 = .ok (.i2c, 1) := by decide +kernel
theorem d_Sh_putNumber_27 : decode b_Sh_putNumber 27 = .ok (.invokevirtual 33, 3) := by decide +kernel
theorem d_Sh_putNumber_30 : decode b_Sh_putNumber 30 = .ok (.return_, 1) := by decide +kernel
theorem d_Sh_signAt_0 : decode b_Sh_signAt 0 = .ok (.iload_n 1, 1) := by decide +kernel
theorem d_Sh_signAt_1 : decode b_Sh_signAt 1 = .ok (.ifCond .lt 20, 3) := by decide +kernel
theorem d_Sh_signAt_4 : decode b_Sh_signAt 4 = .ok (.iload_n 1, 1) := by decide +kernel
theorem d_Sh_signAt_5 : decode b_Sh_signAt 5 = .ok (.aload_n 0, 1) := by decide +kernel
theorem d_Sh_signAt_6 : decode b_Sh_signAt 6 = .ok (.getfield 15, 3) := by decide +kernel
theorem d_Sh_signAt_9 : decode b_Sh_signAt 9 = .ok (.if_icmp .ge 12, 3) := by decide +kernel
theorem d_Sh_signAt_12 : decode b_Sh_signAt 12 = .ok (.aload_n 0, 1) := by decide +kernel
theorem d_Sh_signAt_13 : decode b_Sh_signAt 13 = .ok (.getfield 11, 3) := by decide +kernel
theorem d_Sh_signAt_16 : decode b_Sh_signAt 16 = .ok (.iload_n 1, 1) := by decide +kernel
theorem d_Sh_signAt_17 : decode b_Sh_signAt 17 = .ok (.caload, 1) := by decide +kernel
theorem d_Sh_signAt_18 : decode b_Sh_signAt 18 = .ok (.goto 4, 3) := by decide +kernel
theorem d_Sh_signAt_21 : decode b_Sh_signAt 21 = .ok (.iconst 0, 1) := by decide +kernel
theorem d_Sh_signAt_22 : decode b_Sh_signAt 22 = .ok (.ireturn, 1) := by decide +kernel
