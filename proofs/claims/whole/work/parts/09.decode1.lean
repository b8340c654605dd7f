/-! DECODED: every instruction of every method (by program) -/
theorem d_X0_init_0 : decode cX0_init 0 = .ok (.aload_n 0, 1) ∧ 1 = 0 + 1 := by decide +kernel
theorem d_X0_init_1 : decode cX0_init 1 = .ok (.invokespecial 3, 3) ∧ 4 = 1 + 3 := by decide +kernel
theorem d_X0_init_4 : decode cX0_init 4 = .ok (.aload_n 0, 1) ∧ 5 = 4 + 1 := by decide +kernel
theorem d_X0_init_5 : decode cX0_init 5 = .ok (.bipush 14, 2) ∧ 7 = 5 + 2 := by decide +kernel
theorem d_X0_init_7 : decode cX0_init 7 = .ok (.newarray .int, 2) ∧ 9 = 7 + 2 := by decide +kernel
theorem d_X0_init_9 : decode cX0_init 9 = .ok (.putfield 9, 3) ∧ 12 = 9 + 3 := by decide +kernel
theorem d_X0_init_12 : decode cX0_init 12 = .ok (.aload_n 0, 1) ∧ 13 = 12 + 1 := by decide +kernel
theorem d_X0_init_13 : decode cX0_init 13 = .ok (.bipush 14, 2) ∧ 15 = 13 + 2 := by decide +kernel
theorem d_X0_init_15 : decode cX0_init 15 = .ok (.newarray .int, 2) ∧ 17 = 15 + 2 := by decide +kernel
theorem d_X0_init_17 : decode cX0_init 17 = .ok (.putfield 15, 3) ∧ 20 = 17 + 3 := by decide +kernel
theorem d_X0_init_20 : decode cX0_init 20 = .ok (.aload_n 0, 1) ∧ 21 = 20 + 1 := by decide +kernel
theorem d_X0_init_21 : decode cX0_init 21 = .ok (.bipush 14, 2) ∧ 23 = 21 + 2 := by decide +kernel
theorem d_X0_init_23 : decode cX0_init 23 = .ok (.newarray .int, 2) ∧ 25 = 23 + 2 := by decide +kernel
theorem d_X0_init_25 : decode cX0_init 25 = .ok (.putfield 18, 3) ∧ 28 = 25 + 3 := by decide +kernel
theorem d_X0_init_28 : decode cX0_init 28 = .ok (.aload_n 0, 1) ∧ 29 = 28 + 1 := by decide +kernel
theorem d_X0_init_29 : decode cX0_init 29 = .ok (.bipush 14, 2) ∧ 31 = 29 + 2 := by decide +kernel
theorem d_X0_init_31 : decode cX0_init 31 = .ok (.newarray .int, 2) ∧ 33 = 31 + 2 := by decide +kernel
theorem d_X0_init_33 : decode cX0_init 33 = .ok (.putfield 21, 3) ∧ 36 = 33 + 3 := by decide +kernel
theorem d_X0_init_36 : decode cX0_init 36 = .ok (.return_, 1) := by decide +kernel
theorem d_X0_add_0 : decode cX0_add 0 = .ok (.aload_n 0, 1) ∧ 1 = 0 + 1 := by decide +kernel
theorem d_X0_add_1 : decode cX0_add 1 = .ok (.getfield 24, 3) ∧ 4 = 1 + 3 := by decide +kernel
theorem d_X0_add_4 : decode cX0_add 4 = .ok (.bipush 14, 2) ∧ 6 = 4 + 2 := by decide +kernel
theorem d_X0_add_6 : decode cX0_add 6 = .ok (.if_icmp .lt 5, 3) ∧ 9 = 6 + 3 ∧ (6 : Int) + 5 = ((11 : Nat) : Int) := by decide +kernel
theorem d_X0_add_9 : decode cX0_add 9 = .ok (.iconst (-1), 1) ∧ 10 = 9 + 1 := by decide +kernel
theorem d_X0_add_10 : decode cX0_add 10 = .ok (.ireturn, 1) := by decide +kernel
theorem d_X0_add_11 : decode cX0_add 11 = .ok (.aload_n 0, 1) ∧ 12 = 11 + 1 := by decide +kernel
theorem d_X0_add_12 : decode cX0_add 12 = .ok (.getfield 9, 3) ∧ 15 = 12 + 3 := by decide +kernel
theorem d_X0_add_15 : decode cX0_add 15 = .ok (.aload_n 0, 1) ∧ 16 = 15 + 1 := by decide +kernel
theorem d_X0_add_16 : decode cX0_add 16 = .ok (.getfield 24, 3) ∧ 19 = 16 + 3 := by decide +kernel
theorem d_X0_add_19 : decode cX0_add 19 = .ok (.iload_n 1, 1) ∧ 20 = 19 + 1 := by decide +kernel
theorem d_X0_add_20 : decode cX0_add 20 = .ok (.iastore, 1) ∧ 21 = 20 + 1 := by decide +kernel
theorem d_X0_add_21 : decode cX0_add 21 = .ok (.aload_n 0, 1) ∧ 22 = 21 + 1 := by decide +kernel
theorem d_X0_add_22 : decode cX0_add 22 = .ok (.getfield 15, 3) ∧ 25 = 22 + 3 := by decide +kernel
theorem d_X0_add_25 : decode cX0_add 25 = .ok (.aload_n 0, 1) ∧ 26 = 25 + 1 := by decide +kernel
theorem d_X0_add_26 : decode cX0_add 26 = .ok (.getfield 24, 3) ∧ 29 = 26 + 3 := by decide +kernel
theorem d_X0_add_29 : decode cX0_add 29 = .ok (.iload_n 2, 1) ∧ 30 = 29 + 1 := by decide +kernel
theorem d_X0_add_30 : decode cX0_add 30 = .ok (.iastore, 1) ∧ 31 = 30 + 1 := by decide +kernel
theorem d_X0_add_31 : decode cX0_add 31 = .ok (.aload_n 0, 1) ∧ 32 = 31 + 1 := by decide +kernel
theorem d_X0_add_32 : decode cX0_add 32 = .ok (.getfield 18, 3) ∧ 35 = 32 + 3 := by decide +kernel
theorem d_X0_add_35 : decode cX0_add 35 = .ok (.aload_n 0, 1) ∧ 36 = 35 + 1 := by decide +kernel
theorem d_X0_add_36 : decode cX0_add 36 = .ok (.getfield 24, 3) ∧ 39 = 36 + 3 := by decide +kernel
theorem d_X0_add_39 : decode cX0_add 39 = .ok (.iload_n 3, 1) ∧ 40 = 39 + 1 := by decide +kernel
theorem d_X0_add_40 : decode cX0_add 40 = .ok (.iastore, 1) ∧ 41 = 40 + 1 := by decide +kernel
theorem d_X0_add_41 : decode cX0_add 41 = .ok (.aload_n 0, 1) ∧ 42 = 41 + 1 := by decide +kernel
theorem d_X0_add_42 : decode cX0_add 42 = .ok (.getfield 21, 3) ∧ 45 = 42 + 3 := by decide +kernel
theorem d_X0_add_45 : decode cX0_add 45 = .ok (.aload_n 0, 1) ∧ 46 = 45 + 1 := by decide +kernel
theorem d_X0_add_46 : decode cX0_add 46 = .ok (.getfield 24, 3) ∧ 49 = 46 + 3 := by decide +kernel
theorem d_X0_add_49 : decode cX0_add 49 = .ok (.iload 4, 2) ∧ 51 = 49 + 2 := by decide +kernel
theorem d_X0_add_51 : decode cX0_add 51 = .ok (.iastore, 1) ∧ 52 = 51 + 1 := by decide +kernel
theorem d_X0_add_52 : decode cX0_add 52 = .ok (.aload_n 0, 1) ∧ 53 = 52 + 1 := by decide +kernel
theorem d_X0_add_53 : decode cX0_add 53 = .ok (.dup, 1) ∧ 54 = 53 + 1 := by decide +kernel
theorem d_X0_add_54 : decode cX0_add 54 = .ok (.getfield 28, 3) ∧ 57 = 54 + 3 := by decide +kernel
theorem d_X0_add_57 : decode cX0_add 57 = .ok (.iload 5, 2) ∧ 59 = 57 + 2 := by decide +kernel
theorem d_X0_add_59 : decode cX0_add 59 = .ok (.ifCond .eq 12, 3) ∧ 62 = 59 + 3 ∧ (59 : Int) + 12 = ((71 : Nat) : Int) := by decide +kernel
theorem d_X0_add_62 : decode cX0_add 62 = .ok (.iconst 1, 1) ∧ 63 = 62 + 1 := by decide +kernel
theorem d_X0_add_63 : decode cX0_add 63 = .ok (.aload_n 0, 1) ∧ 64 = 63 + 1 := by decide +kernel
theorem d_X0_add_64 : decode cX0_add 64 = .ok (.getfield 24, 3) ∧ 67 = 64 + 3 := by decide +kernel
theorem d_X0_add_67 : decode cX0_add 67 = .ok (.ishl, 1) ∧ 68 = 67 + 1 := by decide +kernel
theorem d_X0_add_68 : decode cX0_add 68 = .ok (.goto 4, 3) ∧ (68 : Int) + (4) = ((72 : Nat) : Int) := by decide +kernel
theorem d_X0_add_71 : decode cX0_add 71 = .ok (.iconst 0, 1) ∧ 72 = 71 + 1 := by decide +kernel
theorem d_X0_add_72 : decode cX0_add 72 = .ok (.ior, 1) ∧ 73 = 72 + 1 := by decide +kernel
theorem d_X0_add_73 : decode cX0_add 73 = .ok (.putfield 28, 3) ∧ 76 = 73 + 3 := by decide +kernel
theorem d_X0_add_76 : decode cX0_add 76 = .ok (.aload_n 0, 1) ∧ 77 = 76 + 1 := by decide +kernel
theorem d_X0_add_77 : decode cX0_add 77 = .ok (.dup, 1) ∧ 78 = 77 + 1 := by decide +kernel
theorem d_X0_add_78 : decode cX0_add 78 = .ok (.getfield 31, 3) ∧ 81 = 78 + 3 := by decide +kernel
theorem d_X0_add_81 : decode cX0_add 81 = .ok (.iload 5, 2) ∧ 83 = 81 + 2 := by decide +kernel
theorem d_X0_add_83 : decode cX0_add 83 = .ok (.ifCond .eq 12, 3) ∧ 86 = 83 + 3 ∧ (83 : Int) + 12 = ((95 : Nat) : Int) := by decide +kernel
theorem d_X0_add_86 : decode cX0_add 86 = .ok (.iconst 1, 1) ∧ 87 = 86 + 1 := by decide +kernel
theorem d_X0_add_87 : decode cX0_add 87 = .ok (.aload_n 0, 1) ∧ 88 = 87 + 1 := by decide +kernel
theorem d_X0_add_88 : decode cX0_add 88 = .ok (.getfield 24, 3) ∧ 91 = 88 + 3 := by decide +kernel
theorem d_X0_add_91 : decode cX0_add 91 = .ok (.ishl, 1) ∧ 92 = 91 + 1 := by decide +kernel
theorem d_X0_add_92 : decode cX0_add 92 = .ok (.goto 4, 3) ∧ (92 : Int) + (4) = ((96 : Nat) : Int) := by decide +kernel
theorem d_X0_add_95 : decode cX0_add 95 = .ok (.iconst 0, 1) ∧ 96 = 95 + 1 := by decide +kernel
theorem d_X0_add_96 : decode cX0_add 96 = .ok (.ior, 1) ∧ 97 = 96 + 1 := by decide +kernel
theorem d_X0_add_97 : decode cX0_add 97 = .ok (.putfield 31, 3) ∧ 100 = 97 + 3 := by decide +kernel
theorem d_X0_add_100 : decode cX0_add 100 = .ok (.aload_n 0, 1) ∧ 101 = 100 + 1 := by decide +kernel
theorem d_X0_add_101 : decode cX0_add 101 = .ok (.dup, 1) ∧ 102 = 101 + 1 := by decide +kernel
theorem d_X0_add_102 : decode cX0_add 102 = .ok (.getfield 24, 3) ∧ 105 = 102 + 3 := by decide +kernel
theorem d_X0_add_105 : decode cX0_add 105 = .ok (.iconst 1, 1) ∧ 106 = 105 + 1 := by decide +kernel
theorem d_X0_add_106 : decode cX0_add 106 = .ok (.iadd, 1) ∧ 107 = 106 + 1 := by decide +kernel
theorem d_X0_add_107 : decode cX0_add 107 = .ok (.putfield 24, 3) ∧ 110 = 107 + 3 := by decide +kernel
theorem d_X0_add_110 : decode cX0_add 110 = .ok (.aload_n 0, 1) ∧ 111 = 110 + 1 := by decide +kernel
theorem d_X0_add_111 : decode cX0_add 111 = .ok (.getfield 24, 3) ∧ 114 = 111 + 3 := by decide +kernel
theorem d_X0_add_114 : decode cX0_add 114 = .ok (.iconst 1, 1) ∧ 115 = 114 + 1 := by decide +kernel
theorem d_X0_add_115 : decode cX0_add 115 = .ok (.isub, 1) ∧ 116 = 115 + 1 := by decide +kernel
theorem d_X0_add_116 : decode cX0_add 116 = .ok (.ireturn, 1) := by decide +kernel
theorem d_X0_has_0 : decode cX0_has 0 = .ok (.iload_n 1, 1) ∧ 1 = 0 + 1 := by decide +kernel
theorem d_X0_has_1 : decode cX0_has 1 = .ok (.ifCond .lt 15, 3) ∧ 4 = 1 + 3 ∧ (1 : Int) + 15 = ((16 : Nat) : Int) := by decide +kernel
theorem d_X0_has_4 : decode cX0_has 4 = .ok (.iload_n 1, 1) ∧ 5 = 4 + 1 := by decide +kernel
theorem d_X0_has_5 : decode cX0_has 5 = .ok (.aload_n 0, 1) ∧ 6 = 5 + 1 := by decide +kernel
theorem d_X0_has_6 : decode cX0_has 6 = .ok (.getfield 24, 3) ∧ 9 = 6 + 3 := by decide +kernel
theorem d_X0_has_9 : decode cX0_has 9 = .ok (.if_icmp .ge 7, 3) ∧ 12 = 9 + 3 ∧ (9 : Int) + 7 = ((16 : Nat) : Int) := by decide +kernel
theorem d_X0_has_12 : decode cX0_has 12 = .ok (.iconst 1, 1) ∧ 13 = 12 + 1 := by decide +kernel
theorem d_X0_has_13 : decode cX0_has 13 = .ok (.goto 4, 3) ∧ (13 : Int) + (4) = ((17 : Nat) : Int) := by decide +kernel
theorem d_X0_has_16 : decode cX0_has 16 = .ok (.iconst 0, 1) ∧ 17 = 16 + 1 := by decide +kernel
theorem d_X0_has_17 : decode cX0_has 17 = .ok (.ireturn, 1) := by decide +kernel
theorem d_X0_all_0 : decode cX0_all 0 = .ok (.iconst 1, 1) ∧ 1 = 0 + 1 := by decide +kernel
theorem d_X0_all_1 : decode cX0_all 1 = .ok (.aload_n 0, 1) ∧ 2 = 1 + 1 := by decide +kernel
theorem d_X0_all_2 : decode cX0_all 2 = .ok (.getfield 24, 3) ∧ 5 = 2 + 3 := by decide +kernel
theorem d_X0_all_5 : decode cX0_all 5 = .ok (.ishl, 1) ∧ 6 = 5 + 1 := by decide +kernel
theorem d_X0_all_6 : decode cX0_all 6 = .ok (.iconst 1, 1) ∧ 7 = 6 + 1 := by decide +kernel
theorem d_X0_all_7 : decode cX0_all 7 = .ok (.isub, 1) ∧ 8 = 7 + 1 := by decide +kernel
theorem d_X0_all_8 : decode cX0_all 8 = .ok (.ireturn, 1) := by decide +kernel
theorem d_X0_ofSex_0 : decode cX0_ofSex 0 = .ok (.iconst 0, 1) ∧ 1 = 0 + 1 := by decide +kernel
theorem d_X0_ofSex_1 : decode cX0_ofSex 1 = .ok (.istore_n 2, 1) ∧ 2 = 1 + 1 := by decide +kernel
theorem d_X0_ofSex_2 : decode cX0_ofSex 2 = .ok (.iconst 0, 1) ∧ 3 = 2 + 1 := by decide +kernel
theorem d_X0_ofSex_3 : decode cX0_ofSex 3 = .ok (.istore_n 3, 1) ∧ 4 = 3 + 1 := by decide +kernel
theorem d_X0_ofSex_4 : decode cX0_ofSex 4 = .ok (.iload_n 3, 1) ∧ 5 = 4 + 1 := by decide +kernel
theorem d_X0_ofSex_5 : decode cX0_ofSex 5 = .ok (.aload_n 0, 1) ∧ 6 = 5 + 1 := by decide +kernel
theorem d_X0_ofSex_6 : decode cX0_ofSex 6 = .ok (.getfield 24, 3) ∧ 9 = 6 + 3 := by decide +kernel
theorem d_X0_ofSex_9 : decode cX0_ofSex 9 = .ok (.if_icmp .ge 29, 3) ∧ 12 = 9 + 3 ∧ (9 : Int) + 29 = ((38 : Nat) : Int) := by decide +kernel
theorem d_X0_ofSex_12 : decode cX0_ofSex 12 = .ok (.iload_n 2, 1) ∧ 13 = 12 + 1 := by decide +kernel
theorem d_X0_ofSex_13 : decode cX0_ofSex 13 = .ok (.aload_n 0, 1) ∧ 14 = 13 + 1 := by decide +kernel
theorem d_X0_ofSex_14 : decode cX0_ofSex 14 = .ok (.getfield 9, 3) ∧ 17 = 14 + 3 := by decide +kernel
theorem d_X0_ofSex_17 : decode cX0_ofSex 17 = .ok (.iload_n 3, 1) ∧ 18 = 17 + 1 := by decide +kernel
theorem d_X0_ofSex_18 : decode cX0_ofSex 18 = .ok (.iaload, 1) ∧ 19 = 18 + 1 := by decide +kernel
theorem d_X0_ofSex_19 : decode cX0_ofSex 19 = .ok (.iload_n 1, 1) ∧ 20 = 19 + 1 := by decide +kernel
theorem d_X0_ofSex_20 : decode cX0_ofSex 20 = .ok (.if_icmp .ne 9, 3) ∧ 23 = 20 + 3 ∧ (20 : Int) + 9 = ((29 : Nat) : Int) := by decide +kernel
theorem d_X0_ofSex_23 : decode cX0_ofSex 23 = .ok (.iconst 1, 1) ∧ 24 = 23 + 1 := by decide +kernel
theorem d_X0_ofSex_24 : decode cX0_ofSex 24 = .ok (.iload_n 3, 1) ∧ 25 = 24 + 1 := by decide +kernel
theorem d_X0_ofSex_25 : decode cX0_ofSex 25 = .ok (.ishl, 1) ∧ 26 = 25 + 1 := by decide +kernel
theorem d_X0_ofSex_26 : decode cX0_ofSex 26 = .ok (.goto 4, 3) ∧ (26 : Int) + (4) = ((30 : Nat) : Int) := by decide +kernel
theorem d_X0_ofSex_29 : decode cX0_ofSex 29 = .ok (.iconst 0, 1) ∧ 30 = 29 + 1 := by decide +kernel
theorem d_X0_ofSex_30 : decode cX0_ofSex 30 = .ok (.ior, 1) ∧ 31 = 30 + 1 := by decide +kernel
theorem d_X0_ofSex_31 : decode cX0_ofSex 31 = .ok (.istore_n 2, 1) ∧ 32 = 31 + 1 := by decide +kernel
theorem d_X0_ofSex_32 : decode cX0_ofSex 32 = .ok (.iinc 3 1, 3) ∧ 35 = 32 + 3 := by decide +kernel
theorem d_X0_ofSex_35 : decode cX0_ofSex 35 = .ok (.goto (-31), 3) ∧ (35 : Int) + ((-31)) = ((4 : Nat) : Int) := by decide +kernel
theorem d_X0_ofSex_38 : decode cX0_ofSex 38 = .ok (.iload_n 2, 1) ∧ 39 = 38 + 1 := by decide +kernel
theorem d_X0_ofSex_39 : decode cX0_ofSex 39 = .ok (.ireturn, 1) := by decide +kernel
theorem d_X1_init_0 : decode cX1_init 0 = .ok (.aload_n 0, 1) ∧ 1 = 0 + 1 := by decide +kernel
theorem d_X1_init_1 : decode cX1_init 1 = .ok (.invokespecial 3, 3) ∧ 4 = 1 + 3 := by decide +kernel
theorem d_X1_init_4 : decode cX1_init 4 = .ok (.aload_n 0, 1) ∧ 5 = 4 + 1 := by decide +kernel
theorem d_X1_init_5 : decode cX1_init 5 = .ok (.bipush 14, 2) ∧ 7 = 5 + 2 := by decide +kernel
theorem d_X1_init_7 : decode cX1_init 7 = .ok (.newarray .int, 2) ∧ 9 = 7 + 2 := by decide +kernel
theorem d_X1_init_9 : decode cX1_init 9 = .ok (.putfield 9, 3) ∧ 12 = 9 + 3 := by decide +kernel
theorem d_X1_init_12 : decode cX1_init 12 = .ok (.aload_n 0, 1) ∧ 13 = 12 + 1 := by decide +kernel
theorem d_X1_init_13 : decode cX1_init 13 = .ok (.bipush 14, 2) ∧ 15 = 13 + 2 := by decide +kernel
theorem d_X1_init_15 : decode cX1_init 15 = .ok (.newarray .int, 2) ∧ 17 = 15 + 2 := by decide +kernel
theorem d_X1_init_17 : decode cX1_init 17 = .ok (.putfield 15, 3) ∧ 20 = 17 + 3 := by decide +kernel
theorem d_X1_init_20 : decode cX1_init 20 = .ok (.aload_n 0, 1) ∧ 21 = 20 + 1 := by decide +kernel
theorem d_X1_init_21 : decode cX1_init 21 = .ok (.iconst 1, 1) ∧ 22 = 21 + 1 := by decide +kernel
theorem d_X1_init_22 : decode cX1_init 22 = .ok (.newarray .int, 2) ∧ 24 = 22 + 2 := by decide +kernel
theorem d_X1_init_24 : decode cX1_init 24 = .ok (.putfield 18, 3) ∧ 27 = 24 + 3 := by decide +kernel
theorem d_X1_init_27 : decode cX1_init 27 = .ok (.aload_n 0, 1) ∧ 28 = 27 + 1 := by decide +kernel
theorem d_X1_init_28 : decode cX1_init 28 = .ok (.iconst (-1), 1) ∧ 29 = 28 + 1 := by decide +kernel
theorem d_X1_init_29 : decode cX1_init 29 = .ok (.putfield 21, 3) ∧ 32 = 29 + 3 := by decide +kernel
theorem d_X1_init_32 : decode cX1_init 32 = .ok (.return_, 1) := by decide +kernel
theorem d_X1_forget_0 : decode cX1_forget 0 = .ok (.aload_n 0, 1) ∧ 1 = 0 + 1 := by decide +kernel
theorem d_X1_forget_1 : decode cX1_forget 1 = .ok (.iconst (-1), 1) ∧ 2 = 1 + 1 := by decide +kernel
theorem d_X1_forget_2 : decode cX1_forget 2 = .ok (.putfield 21, 3) ∧ 5 = 2 + 3 := by decide +kernel
theorem d_X1_forget_5 : decode cX1_forget 5 = .ok (.return_, 1) := by decide +kernel
theorem d_X1_deal_0 : decode cX1_deal 0 = .ok (.aload_n 0, 1) ∧ 1 = 0 + 1 := by decide +kernel
theorem d_X1_deal_1 : decode cX1_deal 1 = .ok (.aload_n 1, 1) ∧ 2 = 1 + 1 := by decide +kernel
theorem d_X1_deal_2 : decode cX1_deal 2 = .ok (.aload_n 2, 1) ∧ 3 = 2 + 1 := by decide +kernel
theorem d_X1_deal_3 : decode cX1_deal 3 = .ok (.aload_n 3, 1) ∧ 4 = 3 + 1 := by decide +kernel
theorem d_X1_deal_4 : decode cX1_deal 4 = .ok (.invokevirtual 25, 3) ∧ 7 = 4 + 3 := by decide +kernel
theorem d_X1_deal_7 : decode cX1_deal 7 = .ok (.aload_n 1, 1) ∧ 8 = 7 + 1 := by decide +kernel
theorem d_X1_deal_8 : decode cX1_deal 8 = .ok (.aload_n 2, 1) ∧ 9 = 8 + 1 := by decide +kernel
theorem d_X1_deal_9 : decode cX1_deal 9 = .ok (.aload_n 3, 1) ∧ 10 = 9 + 1 := by decide +kernel
theorem d_X1_deal_10 : decode cX1_deal 10 = .ok (.invokestatic 29, 3) ∧ 13 = 10 + 3 := by decide +kernel
theorem d_X1_deal_13 : decode cX1_deal 13 = .ok (.istore 4, 2) ∧ 15 = 13 + 2 := by decide +kernel
theorem d_X1_deal_15 : decode cX1_deal 15 = .ok (.iconst 1, 1) ∧ 16 = 15 + 1 := by decide +kernel
theorem d_X1_deal_16 : decode cX1_deal 16 = .ok (.aload_n 2, 1) ∧ 17 = 16 + 1 := by decide +kernel
theorem d_X1_deal_17 : decode cX1_deal 17 = .ok (.getfield 33, 3) ∧ 20 = 17 + 3 := by decide +kernel
theorem d_X1_deal_20 : decode cX1_deal 20 = .ok (.ishl, 1) ∧ 21 = 20 + 1 := by decide +kernel
theorem d_X1_deal_21 : decode cX1_deal 21 = .ok (.istore 5, 2) ∧ 23 = 21 + 2 := by decide +kernel
theorem d_X1_deal_23 : decode cX1_deal 23 = .ok (.aload_n 0, 1) ∧ 24 = 23 + 1 := by decide +kernel
theorem d_X1_deal_24 : decode cX1_deal 24 = .ok (.getfield 18, 3) ∧ 27 = 24 + 3 := by decide +kernel
theorem d_X1_deal_27 : decode cX1_deal 27 = .ok (.arraylength, 1) ∧ 28 = 27 + 1 := by decide +kernel
theorem d_X1_deal_28 : decode cX1_deal 28 = .ok (.iload 5, 2) ∧ 30 = 28 + 2 := by decide +kernel
theorem d_X1_deal_30 : decode cX1_deal 30 = .ok (.if_icmp .ge 11, 3) ∧ 33 = 30 + 3 ∧ (30 : Int) + 11 = ((41 : Nat) : Int) := by decide +kernel
theorem d_X1_deal_33 : decode cX1_deal 33 = .ok (.aload_n 0, 1) ∧ 34 = 33 + 1 := by decide +kernel
theorem d_X1_deal_34 : decode cX1_deal 34 = .ok (.iload 5, 2) ∧ 36 = 34 + 2 := by decide +kernel
theorem d_X1_deal_36 : decode cX1_deal 36 = .ok (.newarray .int, 2) ∧ 38 = 36 + 2 := by decide +kernel
theorem d_X1_deal_38 : decode cX1_deal 38 = .ok (.putfield 18, 3) ∧ 41 = 38 + 3 := by decide +kernel
theorem d_X1_deal_41 : decode cX1_deal 41 = .ok (.aload_n 0, 1) ∧ 42 = 41 + 1 := by decide +kernel
theorem d_X1_deal_42 : decode cX1_deal 42 = .ok (.iconst 0, 1) ∧ 43 = 42 + 1 := by decide +kernel
theorem d_X1_deal_43 : decode cX1_deal 43 = .ok (.putfield 38, 3) ∧ 46 = 43 + 3 := by decide +kernel
theorem d_X1_deal_46 : decode cX1_deal 46 = .ok (.iconst 0, 1) ∧ 47 = 46 + 1 := by decide +kernel
theorem d_X1_deal_47 : decode cX1_deal 47 = .ok (.istore 6, 2) ∧ 49 = 47 + 2 := by decide +kernel
theorem d_X1_deal_49 : decode cX1_deal 49 = .ok (.iload 6, 2) ∧ 51 = 49 + 2 := by decide +kernel
theorem d_X1_deal_51 : decode cX1_deal 51 = .ok (.iload 5, 2) ∧ 53 = 51 + 2 := by decide +kernel
theorem d_X1_deal_53 : decode cX1_deal 53 = .ok (.if_icmp .ge 58, 3) ∧ 56 = 53 + 3 ∧ (53 : Int) + 58 = ((111 : Nat) : Int) := by decide +kernel
theorem d_X1_deal_56 : decode cX1_deal 56 = .ok (.aload_n 0, 1) ∧ 57 = 56 + 1 := by decide +kernel
theorem d_X1_deal_57 : decode cX1_deal 57 = .ok (.iload 6, 2) ∧ 59 = 57 + 2 := by decide +kernel
theorem d_X1_deal_59 : decode cX1_deal 59 = .ok (.aload_n 1, 1) ∧ 60 = 59 + 1 := by decide +kernel
theorem d_X1_deal_60 : decode cX1_deal 60 = .ok (.aload_n 2, 1) ∧ 61 = 60 + 1 := by decide +kernel
theorem d_X1_deal_61 : decode cX1_deal 61 = .ok (.invokevirtual 39, 3) ∧ 64 = 61 + 3 := by decide +kernel
theorem d_X1_deal_64 : decode cX1_deal 64 = .ok (.ifCond .eq 41, 3) ∧ 67 = 64 + 3 ∧ (64 : Int) + 41 = ((105 : Nat) : Int) := by decide +kernel
theorem d_X1_deal_67 : decode cX1_deal 67 = .ok (.aload_n 0, 1) ∧ 68 = 67 + 1 := by decide +kernel
theorem d_X1_deal_68 : decode cX1_deal 68 = .ok (.getfield 38, 3) ∧ 71 = 68 + 3 := by decide +kernel
theorem d_X1_deal_71 : decode cX1_deal 71 = .ok (.aload_n 0, 1) ∧ 72 = 71 + 1 := by decide +kernel
theorem d_X1_deal_72 : decode cX1_deal 72 = .ok (.getfield 18, 3) ∧ 75 = 72 + 3 := by decide +kernel
theorem d_X1_deal_75 : decode cX1_deal 75 = .ok (.arraylength, 1) ∧ 76 = 75 + 1 := by decide +kernel
theorem d_X1_deal_76 : decode cX1_deal 76 = .ok (.if_icmp .ge 29, 3) ∧ 79 = 76 + 3 ∧ (76 : Int) + 29 = ((105 : Nat) : Int) := by decide +kernel
theorem d_X1_deal_79 : decode cX1_deal 79 = .ok (.aload_n 0, 1) ∧ 80 = 79 + 1 := by decide +kernel
theorem d_X1_deal_80 : decode cX1_deal 80 = .ok (.getfield 18, 3) ∧ 83 = 80 + 3 := by decide +kernel
theorem d_X1_deal_83 : decode cX1_deal 83 = .ok (.aload_n 0, 1) ∧ 84 = 83 + 1 := by decide +kernel
theorem d_X1_deal_84 : decode cX1_deal 84 = .ok (.getfield 38, 3) ∧ 87 = 84 + 3 := by decide +kernel
theorem d_X1_deal_87 : decode cX1_deal 87 = .ok (.iload 6, 2) ∧ 89 = 87 + 2 := by decide +kernel
theorem d_X1_deal_89 : decode cX1_deal 89 = .ok (.iload 4, 2) ∧ 91 = 89 + 2 := by decide +kernel
theorem d_X1_deal_91 : decode cX1_deal 91 = .ok (.iconst (-1), 1) ∧ 92 = 91 + 1 := by decide +kernel
theorem d_X1_deal_92 : decode cX1_deal 92 = .ok (.ixor, 1) ∧ 93 = 92 + 1 := by decide +kernel
theorem d_X1_deal_93 : decode cX1_deal 93 = .ok (.iand, 1) ∧ 94 = 93 + 1 := by decide +kernel
theorem d_X1_deal_94 : decode cX1_deal 94 = .ok (.iastore, 1) ∧ 95 = 94 + 1 := by decide +kernel
theorem d_X1_deal_95 : decode cX1_deal 95 = .ok (.aload_n 0, 1) ∧ 96 = 95 + 1 := by decide +kernel
theorem d_X1_deal_96 : decode cX1_deal 96 = .ok (.dup, 1) ∧ 97 = 96 + 1 := by decide +kernel
theorem d_X1_deal_97 : decode cX1_deal 97 = .ok (.getfield 38, 3) ∧ 100 = 97 + 3 := by decide +kernel
theorem d_X1_deal_100 : decode cX1_deal 100 = .ok (.iconst 1, 1) ∧ 101 = 100 + 1 := by decide +kernel
theorem d_X1_deal_101 : decode cX1_deal 101 = .ok (.iadd, 1) ∧ 102 = 101 + 1 := by decide +kernel
theorem d_X1_deal_102 : decode cX1_deal 102 = .ok (.putfield 38, 3) ∧ 105 = 102 + 3 := by decide +kernel
theorem d_X1_deal_105 : decode cX1_deal 105 = .ok (.iinc 6 1, 3) ∧ 108 = 105 + 3 := by decide +kernel
theorem d_X1_deal_108 : decode cX1_deal 108 = .ok (.goto (-59), 3) ∧ (108 : Int) + ((-59)) = ((49 : Nat) : Int) := by decide +kernel
theorem d_X1_deal_111 : decode cX1_deal 111 = .ok (.return_, 1) := by decide +kernel
theorem d_X1_bind_0 : decode cX1_bind 0 = .ok (.iconst 0, 1) ∧ 1 = 0 + 1 := by decide +kernel
theorem d_X1_bind_1 : decode cX1_bind 1 = .ok (.istore 4, 2) ∧ 3 = 1 + 2 := by decide +kernel
theorem d_X1_bind_3 : decode cX1_bind 3 = .ok (.iload 4, 2) ∧ 5 = 3 + 2 := by decide +kernel
theorem d_X1_bind_5 : decode cX1_bind 5 = .ok (.aload_n 2, 1) ∧ 6 = 5 + 1 := by decide +kernel
theorem d_X1_bind_6 : decode cX1_bind 6 = .ok (.getfield 33, 3) ∧ 9 = 6 + 3 := by decide +kernel
theorem d_X1_bind_9 : decode cX1_bind 9 = .ok (.if_icmp .ge 118, 3) ∧ 12 = 9 + 3 ∧ (9 : Int) + 118 = ((127 : Nat) : Int) := by decide +kernel
theorem d_X1_bind_12 : decode cX1_bind 12 = .ok (.aload_n 0, 1) ∧ 13 = 12 + 1 := by decide +kernel
theorem d_X1_bind_13 : decode cX1_bind 13 = .ok (.getfield 9, 3) ∧ 16 = 13 + 3 := by decide +kernel
theorem d_X1_bind_16 : decode cX1_bind 16 = .ok (.iload 4, 2) ∧ 18 = 16 + 2 := by decide +kernel
theorem d_X1_bind_18 : decode cX1_bind 18 = .ok (.iconst 0, 1) ∧ 19 = 18 + 1 := by decide +kernel
theorem d_X1_bind_19 : decode cX1_bind 19 = .ok (.iastore, 1) ∧ 20 = 19 + 1 := by decide +kernel
theorem d_X1_bind_20 : decode cX1_bind 20 = .ok (.aload_n 0, 1) ∧ 21 = 20 + 1 := by decide +kernel
theorem d_X1_bind_21 : decode cX1_bind 21 = .ok (.getfield 15, 3) ∧ 24 = 21 + 3 := by decide +kernel
theorem d_X1_bind_24 : decode cX1_bind 24 = .ok (.iload 4, 2) ∧ 26 = 24 + 2 := by decide +kernel
theorem d_X1_bind_26 : decode cX1_bind 26 = .ok (.iconst 0, 1) ∧ 27 = 26 + 1 := by decide +kernel
theorem d_X1_bind_27 : decode cX1_bind 27 = .ok (.iastore, 1) ∧ 28 = 27 + 1 := by decide +kernel
theorem d_X1_bind_28 : decode cX1_bind 28 = .ok (.aload_n 3, 1) ∧ 29 = 28 + 1 := by decide +kernel
theorem d_X1_bind_29 : decode cX1_bind 29 = .ok (.aload_n 2, 1) ∧ 30 = 29 + 1 := by decide +kernel
theorem d_X1_bind_30 : decode cX1_bind 30 = .ok (.iload 4, 2) ∧ 32 = 30 + 2 := by decide +kernel
theorem d_X1_bind_32 : decode cX1_bind 32 = .ok (.iconst 0, 1) ∧ 33 = 32 + 1 := by decide +kernel
theorem d_X1_bind_33 : decode cX1_bind 33 = .ok (.invokevirtual 43, 3) ∧ 36 = 33 + 3 := by decide +kernel
theorem d_X1_bind_36 : decode cX1_bind 36 = .ok (.iload 4, 2) ∧ 38 = 36 + 2 := by decide +kernel
theorem d_X1_bind_38 : decode cX1_bind 38 = .ok (.iconst 1, 1) ∧ 39 = 38 + 1 := by decide +kernel
theorem d_X1_bind_39 : decode cX1_bind 39 = .ok (.iadd, 1) ∧ 40 = 39 + 1 := by decide +kernel
theorem d_X1_bind_40 : decode cX1_bind 40 = .ok (.istore 5, 2) ∧ 42 = 40 + 2 := by decide +kernel
theorem d_X1_bind_42 : decode cX1_bind 42 = .ok (.iload 5, 2) ∧ 44 = 42 + 2 := by decide +kernel
theorem d_X1_bind_44 : decode cX1_bind 44 = .ok (.aload_n 2, 1) ∧ 45 = 44 + 1 := by decide +kernel
theorem d_X1_bind_45 : decode cX1_bind 45 = .ok (.getfield 33, 3) ∧ 48 = 45 + 3 := by decide +kernel
theorem d_X1_bind_48 : decode cX1_bind 48 = .ok (.if_icmp .ge 73, 3) ∧ 51 = 48 + 3 ∧ (48 : Int) + 73 = ((121 : Nat) : Int) := by decide +kernel
theorem d_X1_bind_51 : decode cX1_bind 51 = .ok (.aload_n 3, 1) ∧ 52 = 51 + 1 := by decide +kernel
theorem d_X1_bind_52 : decode cX1_bind 52 = .ok (.aload_n 2, 1) ∧ 53 = 52 + 1 := by decide +kernel
theorem d_X1_bind_53 : decode cX1_bind 53 = .ok (.iload 5, 2) ∧ 55 = 53 + 2 := by decide +kernel
theorem d_X1_bind_55 : decode cX1_bind 55 = .ok (.iconst 4, 1) ∧ 56 = 55 + 1 := by decide +kernel
theorem d_X1_bind_56 : decode cX1_bind 56 = .ok (.invokevirtual 43, 3) ∧ 59 = 56 + 3 := by decide +kernel
theorem d_X1_bind_59 : decode cX1_bind 59 = .ok (.aload_n 0, 1) ∧ 60 = 59 + 1 := by decide +kernel
theorem d_X1_bind_60 : decode cX1_bind 60 = .ok (.getfield 9, 3) ∧ 63 = 60 + 3 := by decide +kernel
theorem d_X1_bind_63 : decode cX1_bind 63 = .ok (.iload 4, 2) ∧ 65 = 63 + 2 := by decide +kernel
theorem d_X1_bind_65 : decode cX1_bind 65 = .ok (.dup2, 1) ∧ 66 = 65 + 1 := by decide +kernel
theorem d_X1_bind_66 : decode cX1_bind 66 = .ok (.iaload, 1) ∧ 67 = 66 + 1 := by decide +kernel
theorem d_X1_bind_67 : decode cX1_bind 67 = .ok (.aload_n 3, 1) ∧ 68 = 67 + 1 := by decide +kernel
theorem d_X1_bind_68 : decode cX1_bind 68 = .ok (.aload_n 1, 1) ∧ 69 = 68 + 1 := by decide +kernel
theorem d_X1_bind_69 : decode cX1_bind 69 = .ok (.bipush 17, 2) ∧ 71 = 69 + 2 := by decide +kernel
theorem d_X1_bind_71 : decode cX1_bind 71 = .ok (.invokevirtual 49, 3) ∧ 74 = 71 + 3 := by decide +kernel
theorem d_X1_bind_74 : decode cX1_bind 74 = .ok (.ifCond .eq 10, 3) ∧ 77 = 74 + 3 ∧ (74 : Int) + 10 = ((84 : Nat) : Int) := by decide +kernel
theorem d_X1_bind_77 : decode cX1_bind 77 = .ok (.iconst 1, 1) ∧ 78 = 77 + 1 := by decide +kernel
theorem d_X1_bind_78 : decode cX1_bind 78 = .ok (.iload 5, 2) ∧ 80 = 78 + 2 := by decide +kernel
theorem d_X1_bind_80 : decode cX1_bind 80 = .ok (.ishl, 1) ∧ 81 = 80 + 1 := by decide +kernel
theorem d_X1_bind_81 : decode cX1_bind 81 = .ok (.goto 4, 3) ∧ (81 : Int) + (4) = ((85 : Nat) : Int) := by decide +kernel
theorem d_X1_bind_84 : decode cX1_bind 84 = .ok (.iconst 0, 1) ∧ 85 = 84 + 1 := by decide +kernel
theorem d_X1_bind_85 : decode cX1_bind 85 = .ok (.ior, 1) ∧ 86 = 85 + 1 := by decide +kernel
theorem d_X1_bind_86 : decode cX1_bind 86 = .ok (.iastore, 1) ∧ 87 = 86 + 1 := by decide +kernel
theorem d_X1_bind_87 : decode cX1_bind 87 = .ok (.aload_n 0, 1) ∧ 88 = 87 + 1 := by decide +kernel
theorem d_X1_bind_88 : decode cX1_bind 88 = .ok (.getfield 15, 3) ∧ 91 = 88 + 3 := by decide +kernel
theorem d_X1_bind_91 : decode cX1_bind 91 = .ok (.iload 4, 2) ∧ 93 = 91 + 2 := by decide +kernel
theorem d_X1_bind_93 : decode cX1_bind 93 = .ok (.dup2, 1) ∧ 94 = 93 + 1 := by decide +kernel
theorem d_X1_bind_94 : decode cX1_bind 94 = .ok (.iaload, 1) ∧ 95 = 94 + 1 := by decide +kernel
theorem d_X1_bind_95 : decode cX1_bind 95 = .ok (.aload_n 3, 1) ∧ 96 = 95 + 1 := by decide +kernel
theorem d_X1_bind_96 : decode cX1_bind 96 = .ok (.aload_n 1, 1) ∧ 97 = 96 + 1 := by decide +kernel
theorem d_X1_bind_97 : decode cX1_bind 97 = .ok (.bipush 18, 2) ∧ 99 = 97 + 2 := by decide +kernel
theorem d_X1_bind_99 : decode cX1_bind 99 = .ok (.invokevirtual 49, 3) ∧ 102 = 99 + 3 := by decide +kernel
theorem d_X1_bind_102 : decode cX1_bind 102 = .ok (.ifCond .eq 10, 3) ∧ 105 = 102 + 3 ∧ (102 : Int) + 10 = ((112 : Nat) : Int) := by decide +kernel
theorem d_X1_bind_105 : decode cX1_bind 105 = .ok (.iconst 1, 1) ∧ 106 = 105 + 1 := by decide +kernel
theorem d_X1_bind_106 : decode cX1_bind 106 = .ok (.iload 5, 2) ∧ 108 = 106 + 2 := by decide +kernel
theorem d_X1_bind_108 : decode cX1_bind 108 = .ok (.ishl, 1) ∧ 109 = 108 + 1 := by decide +kernel
theorem d_X1_bind_109 : decode cX1_bind 109 = .ok (.goto 4, 3) ∧ (109 : Int) + (4) = ((113 : Nat) : Int) := by decide +kernel
theorem d_X1_bind_112 : decode cX1_bind 112 = .ok (.iconst 0, 1) ∧ 113 = 112 + 1 := by decide +kernel
theorem d_X1_bind_113 : decode cX1_bind 113 = .ok (.ior, 1) ∧ 114 = 113 + 1 := by decide +kernel
theorem d_X1_bind_114 : decode cX1_bind 114 = .ok (.iastore, 1) ∧ 115 = 114 + 1 := by decide +kernel
theorem d_X1_bind_115 : decode cX1_bind 115 = .ok (.iinc 5 1, 3) ∧ 118 = 115 + 3 := by decide +kernel
theorem d_X1_bind_118 : decode cX1_bind 118 = .ok (.goto (-76), 3) ∧ (118 : Int) + ((-76)) = ((42 : Nat) : Int) := by decide +kernel
theorem d_X1_bind_121 : decode cX1_bind 121 = .ok (.iinc 4 1, 3) ∧ 124 = 121 + 3 := by decide +kernel
theorem d_X1_bind_124 : decode cX1_bind 124 = .ok (.goto (-121), 3) ∧ (124 : Int) + ((-121)) = ((3 : Nat) : Int) := by decide +kernel
theorem d_X1_bind_127 : decode cX1_bind 127 = .ok (.return_, 1) := by decide +kernel
theorem d_X1_over_0 : decode cX1_over 0 = .ok (.iconst 0, 1) ∧ 1 = 0 + 1 := by decide +kernel
theorem d_X1_over_1 : decode cX1_over 1 = .ok (.istore_n 3, 1) ∧ 2 = 1 + 1 := by decide +kernel
theorem d_X1_over_2 : decode cX1_over 2 = .ok (.iconst 0, 1) ∧ 3 = 2 + 1 := by decide +kernel
theorem d_X1_over_3 : decode cX1_over 3 = .ok (.istore 4, 2) ∧ 5 = 3 + 2 := by decide +kernel
theorem d_X1_over_5 : decode cX1_over 5 = .ok (.iload 4, 2) ∧ 7 = 5 + 2 := by decide +kernel
theorem d_X1_over_7 : decode cX1_over 7 = .ok (.aload_n 1, 1) ∧ 8 = 7 + 1 := by decide +kernel
theorem d_X1_over_8 : decode cX1_over 8 = .ok (.getfield 33, 3) ∧ 11 = 8 + 3 := by decide +kernel
theorem d_X1_over_11 : decode cX1_over 11 = .ok (.if_icmp .ge 38, 3) ∧ 14 = 11 + 3 ∧ (11 : Int) + 38 = ((49 : Nat) : Int) := by decide +kernel
theorem d_X1_over_14 : decode cX1_over 14 = .ok (.aload_n 2, 1) ∧ 15 = 14 + 1 := by decide +kernel
theorem d_X1_over_15 : decode cX1_over 15 = .ok (.aload_n 1, 1) ∧ 16 = 15 + 1 := by decide +kernel
theorem d_X1_over_16 : decode cX1_over 16 = .ok (.iload 4, 2) ∧ 18 = 16 + 2 := by decide +kernel
theorem d_X1_over_18 : decode cX1_over 18 = .ok (.iconst 0, 1) ∧ 19 = 18 + 1 := by decide +kernel
theorem d_X1_over_19 : decode cX1_over 19 = .ok (.invokevirtual 43, 3) ∧ 22 = 19 + 3 := by decide +kernel
theorem d_X1_over_22 : decode cX1_over 22 = .ok (.iload_n 3, 1) ∧ 23 = 22 + 1 := by decide +kernel
theorem d_X1_over_23 : decode cX1_over 23 = .ok (.aload_n 2, 1) ∧ 24 = 23 + 1 := by decide +kernel
theorem d_X1_over_24 : decode cX1_over 24 = .ok (.aload_n 0, 1) ∧ 25 = 24 + 1 := by decide +kernel
theorem d_X1_over_25 : decode cX1_over 25 = .ok (.bipush 19, 2) ∧ 27 = 25 + 2 := by decide +kernel
theorem d_X1_over_27 : decode cX1_over 27 = .ok (.invokevirtual 49, 3) ∧ 30 = 27 + 3 := by decide +kernel
theorem d_X1_over_30 : decode cX1_over 30 = .ok (.ifCond .eq 10, 3) ∧ 33 = 30 + 3 ∧ (30 : Int) + 10 = ((40 : Nat) : Int) := by decide +kernel
theorem d_X1_over_33 : decode cX1_over 33 = .ok (.iconst 1, 1) ∧ 34 = 33 + 1 := by decide +kernel
theorem d_X1_over_34 : decode cX1_over 34 = .ok (.iload 4, 2) ∧ 36 = 34 + 2 := by decide +kernel
theorem d_X1_over_36 : decode cX1_over 36 = .ok (.ishl, 1) ∧ 37 = 36 + 1 := by decide +kernel
theorem d_X1_over_37 : decode cX1_over 37 = .ok (.goto 4, 3) ∧ (37 : Int) + (4) = ((41 : Nat) : Int) := by decide +kernel
theorem d_X1_over_40 : decode cX1_over 40 = .ok (.iconst 0, 1) ∧ 41 = 40 + 1 := by decide +kernel
theorem d_X1_over_41 : decode cX1_over 41 = .ok (.ior, 1) ∧ 42 = 41 + 1 := by decide +kernel
theorem d_X1_over_42 : decode cX1_over 42 = .ok (.istore_n 3, 1) ∧ 43 = 42 + 1 := by decide +kernel
theorem d_X1_over_43 : decode cX1_over 43 = .ok (.iinc 4 1, 3) ∧ 46 = 43 + 3 := by decide +kernel
theorem d_X1_over_46 : decode cX1_over 46 = .ok (.goto (-41), 3) ∧ (46 : Int) + ((-41)) = ((5 : Nat) : Int) := by decide +kernel
theorem d_X1_over_49 : decode cX1_over 49 = .ok (.iload_n 3, 1) ∧ 50 = 49 + 1 := by decide +kernel
theorem d_X1_over_50 : decode cX1_over 50 = .ok (.ireturn, 1) := by decide +kernel
theorem d_X1_fits_0 : decode cX1_fits 0 = .ok (.aload_n 2, 1) ∧ 1 = 0 + 1 := by decide +kernel
theorem d_X1_fits_1 : decode cX1_fits 1 = .ok (.getfield 53, 3) ∧ 4 = 1 + 3 := by decide +kernel
theorem d_X1_fits_4 : decode cX1_fits 4 = .ok (.iconst (-1), 1) ∧ 5 = 4 + 1 := by decide +kernel
theorem d_X1_fits_5 : decode cX1_fits 5 = .ok (.if_icmp .eq 16, 3) ∧ 8 = 5 + 3 ∧ (5 : Int) + 16 = ((21 : Nat) : Int) := by decide +kernel
theorem d_X1_fits_8 : decode cX1_fits 8 = .ok (.iload_n 1, 1) ∧ 9 = 8 + 1 := by decide +kernel
theorem d_X1_fits_9 : decode cX1_fits 9 = .ok (.invokestatic 58, 3) ∧ 12 = 9 + 3 := by decide +kernel
theorem d_X1_fits_12 : decode cX1_fits 12 = .ok (.aload_n 2, 1) ∧ 13 = 12 + 1 := by decide +kernel
theorem d_X1_fits_13 : decode cX1_fits 13 = .ok (.getfield 53, 3) ∧ 16 = 13 + 3 := by decide +kernel
theorem d_X1_fits_16 : decode cX1_fits 16 = .ok (.if_icmp .eq 5, 3) ∧ 19 = 16 + 3 ∧ (16 : Int) + 5 = ((21 : Nat) : Int) := by decide +kernel
theorem d_X1_fits_19 : decode cX1_fits 19 = .ok (.iconst 0, 1) ∧ 20 = 19 + 1 := by decide +kernel
theorem d_X1_fits_20 : decode cX1_fits 20 = .ok (.ireturn, 1) := by decide +kernel
theorem d_X1_fits_21 : decode cX1_fits 21 = .ok (.aload_n 2, 1) ∧ 22 = 21 + 1 := by decide +kernel
theorem d_X1_fits_22 : decode cX1_fits 22 = .ok (.getfield 64, 3) ∧ 25 = 22 + 3 := by decide +kernel
theorem d_X1_fits_25 : decode cX1_fits 25 = .ok (.iconst (-1), 1) ∧ 26 = 25 + 1 := by decide +kernel
theorem d_X1_fits_26 : decode cX1_fits 26 = .ok (.if_icmp .eq 17, 3) ∧ 29 = 26 + 3 ∧ (26 : Int) + 17 = ((43 : Nat) : Int) := by decide +kernel
theorem d_X1_fits_29 : decode cX1_fits 29 = .ok (.iload_n 1, 1) ∧ 30 = 29 + 1 := by decide +kernel
theorem d_X1_fits_30 : decode cX1_fits 30 = .ok (.aload_n 3, 1) ∧ 31 = 30 + 1 := by decide +kernel
theorem d_X1_fits_31 : decode cX1_fits 31 = .ok (.invokestatic 67, 3) ∧ 34 = 31 + 3 := by decide +kernel
theorem d_X1_fits_34 : decode cX1_fits 34 = .ok (.aload_n 2, 1) ∧ 35 = 34 + 1 := by decide +kernel
theorem d_X1_fits_35 : decode cX1_fits 35 = .ok (.getfield 64, 3) ∧ 38 = 35 + 3 := by decide +kernel
theorem d_X1_fits_38 : decode cX1_fits 38 = .ok (.if_icmp .le 5, 3) ∧ 41 = 38 + 3 ∧ (38 : Int) + 5 = ((43 : Nat) : Int) := by decide +kernel
theorem d_X1_fits_41 : decode cX1_fits 41 = .ok (.iconst 0, 1) ∧ 42 = 41 + 1 := by decide +kernel
theorem d_X1_fits_42 : decode cX1_fits 42 = .ok (.ireturn, 1) := by decide +kernel
theorem d_X1_fits_43 : decode cX1_fits 43 = .ok (.iconst 0, 1) ∧ 44 = 43 + 1 := by decide +kernel
theorem d_X1_fits_44 : decode cX1_fits 44 = .ok (.istore 4, 2) ∧ 46 = 44 + 2 := by decide +kernel
theorem d_X1_fits_46 : decode cX1_fits 46 = .ok (.iload 4, 2) ∧ 48 = 46 + 2 := by decide +kernel
theorem d_X1_fits_48 : decode cX1_fits 48 = .ok (.aload_n 3, 1) ∧ 49 = 48 + 1 := by decide +kernel
theorem d_X1_fits_49 : decode cX1_fits 49 = .ok (.getfield 33, 3) ∧ 52 = 49 + 3 := by decide +kernel
theorem d_X1_fits_52 : decode cX1_fits 52 = .ok (.if_icmp .ge 58, 3) ∧ 55 = 52 + 3 ∧ (52 : Int) + 58 = ((110 : Nat) : Int) := by decide +kernel
theorem d_X1_fits_55 : decode cX1_fits 55 = .ok (.iload_n 1, 1) ∧ 56 = 55 + 1 := by decide +kernel
theorem d_X1_fits_56 : decode cX1_fits 56 = .ok (.iload 4, 2) ∧ 58 = 56 + 2 := by decide +kernel
theorem d_X1_fits_58 : decode cX1_fits 58 = .ok (.ishr, 1) ∧ 59 = 58 + 1 := by decide +kernel
theorem d_X1_fits_59 : decode cX1_fits 59 = .ok (.iconst 1, 1) ∧ 60 = 59 + 1 := by decide +kernel
theorem d_X1_fits_60 : decode cX1_fits 60 = .ok (.iand, 1) ∧ 61 = 60 + 1 := by decide +kernel
theorem d_X1_fits_61 : decode cX1_fits 61 = .ok (.iconst 1, 1) ∧ 62 = 61 + 1 := by decide +kernel
theorem d_X1_fits_62 : decode cX1_fits 62 = .ok (.if_icmp .ne 7, 3) ∧ 65 = 62 + 3 ∧ (62 : Int) + 7 = ((69 : Nat) : Int) := by decide +kernel
theorem d_X1_fits_65 : decode cX1_fits 65 = .ok (.iload_n 1, 1) ∧ 66 = 65 + 1 := by decide +kernel
theorem d_X1_fits_66 : decode cX1_fits 66 = .ok (.goto 6, 3) ∧ (66 : Int) + (6) = ((72 : Nat) : Int) := by decide +kernel
theorem d_X1_fits_69 : decode cX1_fits 69 = .ok (.iload_n 1, 1) ∧ 70 = 69 + 1 := by decide +kernel
theorem d_X1_fits_70 : decode cX1_fits 70 = .ok (.iconst (-1), 1) ∧ 71 = 70 + 1 := by decide +kernel
theorem d_X1_fits_71 : decode cX1_fits 71 = .ok (.ixor, 1) ∧ 72 = 71 + 1 := by decide +kernel
theorem d_X1_fits_72 : decode cX1_fits 72 = .ok (.istore 5, 2) ∧ 74 = 72 + 2 := by decide +kernel
theorem d_X1_fits_74 : decode cX1_fits 74 = .ok (.aload_n 0, 1) ∧ 75 = 74 + 1 := by decide +kernel
theorem d_X1_fits_75 : decode cX1_fits 75 = .ok (.getfield 9, 3) ∧ 78 = 75 + 3 := by decide +kernel
theorem d_X1_fits_78 : decode cX1_fits 78 = .ok (.iload 4, 2) ∧ 80 = 78 + 2 := by decide +kernel
theorem d_X1_fits_80 : decode cX1_fits 80 = .ok (.iaload, 1) ∧ 81 = 80 + 1 := by decide +kernel
theorem d_X1_fits_81 : decode cX1_fits 81 = .ok (.iload 5, 2) ∧ 83 = 81 + 2 := by decide +kernel
theorem d_X1_fits_83 : decode cX1_fits 83 = .ok (.iconst (-1), 1) ∧ 84 = 83 + 1 := by decide +kernel
theorem d_X1_fits_84 : decode cX1_fits 84 = .ok (.ixor, 1) ∧ 85 = 84 + 1 := by decide +kernel
theorem d_X1_fits_85 : decode cX1_fits 85 = .ok (.iand, 1) ∧ 86 = 85 + 1 := by decide +kernel
theorem d_X1_fits_86 : decode cX1_fits 86 = .ok (.ifCond .ne 16, 3) ∧ 89 = 86 + 3 ∧ (86 : Int) + 16 = ((102 : Nat) : Int) := by decide +kernel
theorem d_X1_fits_89 : decode cX1_fits 89 = .ok (.aload_n 0, 1) ∧ 90 = 89 + 1 := by decide +kernel
theorem d_X1_fits_90 : decode cX1_fits 90 = .ok (.getfield 15, 3) ∧ 93 = 90 + 3 := by decide +kernel
theorem d_X1_fits_93 : decode cX1_fits 93 = .ok (.iload 4, 2) ∧ 95 = 93 + 2 := by decide +kernel
theorem d_X1_fits_95 : decode cX1_fits 95 = .ok (.iaload, 1) ∧ 96 = 95 + 1 := by decide +kernel
theorem d_X1_fits_96 : decode cX1_fits 96 = .ok (.iload 5, 2) ∧ 98 = 96 + 2 := by decide +kernel
theorem d_X1_fits_98 : decode cX1_fits 98 = .ok (.iand, 1) ∧ 99 = 98 + 1 := by decide +kernel
theorem d_X1_fits_99 : decode cX1_fits 99 = .ok (.ifCond .eq 5, 3) ∧ 102 = 99 + 3 ∧ (99 : Int) + 5 = ((104 : Nat) : Int) := by decide +kernel
theorem d_X1_fits_102 : decode cX1_fits 102 = .ok (.iconst 0, 1) ∧ 103 = 102 + 1 := by decide +kernel
theorem d_X1_fits_103 : decode cX1_fits 103 = .ok (.ireturn, 1) := by decide +kernel
theorem d_X1_fits_104 : decode cX1_fits 104 = .ok (.iinc 4 1, 3) ∧ 107 = 104 + 3 := by decide +kernel
theorem d_X1_fits_107 : decode cX1_fits 107 = .ok (.goto (-61), 3) ∧ (107 : Int) + ((-61)) = ((46 : Nat) : Int) := by decide +kernel
theorem d_X1_fits_110 : decode cX1_fits 110 = .ok (.iconst 1, 1) ∧ 111 = 110 + 1 := by decide +kernel
theorem d_X1_fits_111 : decode cX1_fits 111 = .ok (.ireturn, 1) := by decide +kernel
theorem d_X1_unlikeness_0 : decode cX1_unlikeness 0 = .ok (.iconst 0, 1) ∧ 1 = 0 + 1 := by decide +kernel
theorem d_X1_unlikeness_1 : decode cX1_unlikeness 1 = .ok (.istore_n 2, 1) ∧ 2 = 1 + 1 := by decide +kernel
theorem d_X1_unlikeness_2 : decode cX1_unlikeness 2 = .ok (.iconst 0, 1) ∧ 3 = 2 + 1 := by decide +kernel
theorem d_X1_unlikeness_3 : decode cX1_unlikeness 3 = .ok (.istore_n 3, 1) ∧ 4 = 3 + 1 := by decide +kernel
theorem d_X1_unlikeness_4 : decode cX1_unlikeness 4 = .ok (.iload_n 3, 1) ∧ 5 = 4 + 1 := by decide +kernel
theorem d_X1_unlikeness_5 : decode cX1_unlikeness 5 = .ok (.aload_n 1, 1) ∧ 6 = 5 + 1 := by decide +kernel
theorem d_X1_unlikeness_6 : decode cX1_unlikeness 6 = .ok (.getfield 33, 3) ∧ 9 = 6 + 3 := by decide +kernel
theorem d_X1_unlikeness_9 : decode cX1_unlikeness 9 = .ok (.if_icmp .ge 37, 3) ∧ 12 = 9 + 3 ∧ (9 : Int) + 37 = ((46 : Nat) : Int) := by decide +kernel
theorem d_X1_unlikeness_12 : decode cX1_unlikeness 12 = .ok (.iload_n 2, 1) ∧ 13 = 12 + 1 := by decide +kernel
theorem d_X1_unlikeness_13 : decode cX1_unlikeness 13 = .ok (.iload_n 0, 1) ∧ 14 = 13 + 1 := by decide +kernel
theorem d_X1_unlikeness_14 : decode cX1_unlikeness 14 = .ok (.iload_n 3, 1) ∧ 15 = 14 + 1 := by decide +kernel
theorem d_X1_unlikeness_15 : decode cX1_unlikeness 15 = .ok (.ishr, 1) ∧ 16 = 15 + 1 := by decide +kernel
theorem d_X1_unlikeness_16 : decode cX1_unlikeness 16 = .ok (.iconst 1, 1) ∧ 17 = 16 + 1 := by decide +kernel
theorem d_X1_unlikeness_17 : decode cX1_unlikeness 17 = .ok (.iand, 1) ∧ 18 = 17 + 1 := by decide +kernel
theorem d_X1_unlikeness_18 : decode cX1_unlikeness 18 = .ok (.iconst 1, 1) ∧ 19 = 18 + 1 := by decide +kernel
theorem d_X1_unlikeness_19 : decode cX1_unlikeness 19 = .ok (.if_icmp .ne 12, 3) ∧ 22 = 19 + 3 ∧ (19 : Int) + 12 = ((31 : Nat) : Int) := by decide +kernel
theorem d_X1_unlikeness_22 : decode cX1_unlikeness 22 = .ok (.aload_n 1, 1) ∧ 23 = 22 + 1 := by decide +kernel
theorem d_X1_unlikeness_23 : decode cX1_unlikeness 23 = .ok (.getfield 71, 3) ∧ 26 = 23 + 3 := by decide +kernel
theorem d_X1_unlikeness_26 : decode cX1_unlikeness 26 = .ok (.iload_n 3, 1) ∧ 27 = 26 + 1 := by decide +kernel
theorem d_X1_unlikeness_27 : decode cX1_unlikeness 27 = .ok (.iaload, 1) ∧ 28 = 27 + 1 := by decide +kernel
theorem d_X1_unlikeness_28 : decode cX1_unlikeness 28 = .ok (.goto 10, 3) ∧ (28 : Int) + (10) = ((38 : Nat) : Int) := by decide +kernel
theorem d_X1_unlikeness_31 : decode cX1_unlikeness 31 = .ok (.aload_n 1, 1) ∧ 32 = 31 + 1 := by decide +kernel
theorem d_X1_unlikeness_32 : decode cX1_unlikeness 32 = .ok (.getfield 71, 3) ∧ 35 = 32 + 3 := by decide +kernel
theorem d_X1_unlikeness_35 : decode cX1_unlikeness 35 = .ok (.iload_n 3, 1) ∧ 36 = 35 + 1 := by decide +kernel
theorem d_X1_unlikeness_36 : decode cX1_unlikeness 36 = .ok (.iaload, 1) ∧ 37 = 36 + 1 := by decide +kernel
theorem d_X1_unlikeness_37 : decode cX1_unlikeness 37 = .ok (.ineg, 1) ∧ 38 = 37 + 1 := by decide +kernel
theorem d_X1_unlikeness_38 : decode cX1_unlikeness 38 = .ok (.iadd, 1) ∧ 39 = 38 + 1 := by decide +kernel
theorem d_X1_unlikeness_39 : decode cX1_unlikeness 39 = .ok (.istore_n 2, 1) ∧ 40 = 39 + 1 := by decide +kernel
theorem d_X1_unlikeness_40 : decode cX1_unlikeness 40 = .ok (.iinc 3 1, 3) ∧ 43 = 40 + 3 := by decide +kernel
theorem d_X1_unlikeness_43 : decode cX1_unlikeness 43 = .ok (.goto (-39), 3) ∧ (43 : Int) + ((-39)) = ((4 : Nat) : Int) := by decide +kernel
theorem d_X1_unlikeness_46 : decode cX1_unlikeness 46 = .ok (.iload_n 2, 1) ∧ 47 = 46 + 1 := by decide +kernel
theorem d_X1_unlikeness_47 : decode cX1_unlikeness 47 = .ok (.invokestatic 74, 3) ∧ 50 = 47 + 3 := by decide +kernel
theorem d_X1_unlikeness_50 : decode cX1_unlikeness 50 = .ok (.ireturn, 1) := by decide +kernel
theorem d_X2_init_0 : decode cX2_init 0 = .ok (.aload_n 0, 1) ∧ 1 = 0 + 1 := by decide +kernel
theorem d_X2_init_1 : decode cX2_init 1 = .ok (.invokespecial 3, 3) ∧ 4 = 1 + 3 := by decide +kernel
theorem d_X2_init_4 : decode cX2_init 4 = .ok (.aload_n 0, 1) ∧ 5 = 4 + 1 := by decide +kernel
theorem d_X2_init_5 : decode cX2_init 5 = .ok (.sipush 168, 3) ∧ 8 = 5 + 3 := by decide +kernel
theorem d_X2_init_8 : decode cX2_init 8 = .ok (.newarray .int, 2) ∧ 10 = 8 + 2 := by decide +kernel
theorem d_X2_init_10 : decode cX2_init 10 = .ok (.putfield 9, 3) ∧ 13 = 10 + 3 := by decide +kernel
theorem d_X2_init_13 : decode cX2_init 13 = .ok (.aload_n 0, 1) ∧ 14 = 13 + 1 := by decide +kernel
theorem d_X2_init_14 : decode cX2_init 14 = .ok (.sipush 1000, 3) ∧ 17 = 14 + 3 := by decide +kernel
theorem d_X2_init_17 : decode cX2_init 17 = .ok (.putfield 15, 3) ∧ 20 = 17 + 3 := by decide +kernel
theorem d_X2_init_20 : decode cX2_init 20 = .ok (.aload_n 0, 1) ∧ 21 = 20 + 1 := by decide +kernel
theorem d_X2_init_21 : decode cX2_init 21 = .ok (.getfield 9, 3) ∧ 24 = 21 + 3 := by decide +kernel
theorem d_X2_init_24 : decode cX2_init 24 = .ok (.iconst (-1), 1) ∧ 25 = 24 + 1 := by decide +kernel
theorem d_X2_init_25 : decode cX2_init 25 = .ok (.invokestatic 19, 3) ∧ 28 = 25 + 3 := by decide +kernel
theorem d_X2_init_28 : decode cX2_init 28 = .ok (.return_, 1) := by decide +kernel
theorem d_X3_init_0 : decode cX3_init 0 = .ok (.aload_n 0, 1) ∧ 1 = 0 + 1 := by decide +kernel
theorem d_X3_init_1 : decode cX3_init 1 = .ok (.invokespecial 3, 3) ∧ 4 = 1 + 3 := by decide +kernel
theorem d_X3_init_4 : decode cX3_init 4 = .ok (.aload_n 0, 1) ∧ 5 = 4 + 1 := by decide +kernel
theorem d_X3_init_5 : decode cX3_init 5 = .ok (.bipush 11, 2) ∧ 7 = 5 + 2 := by decide +kernel
theorem d_X3_init_7 : decode cX3_init 7 = .ok (.newarray .int, 2) ∧ 9 = 7 + 2 := by decide +kernel
theorem d_X3_init_9 : decode cX3_init 9 = .ok (.putfield 9, 3) ∧ 12 = 9 + 3 := by decide +kernel
theorem d_X3_init_12 : decode cX3_init 12 = .ok (.aload_n 0, 1) ∧ 13 = 12 + 1 := by decide +kernel
theorem d_X3_init_13 : decode cX3_init 13 = .ok (.bipush 32, 2) ∧ 15 = 13 + 2 := by decide +kernel
theorem d_X3_init_15 : decode cX3_init 15 = .ok (.newarray .int, 2) ∧ 17 = 15 + 2 := by decide +kernel
theorem d_X3_init_17 : decode cX3_init 17 = .ok (.putfield 15, 3) ∧ 20 = 17 + 3 := by decide +kernel
theorem d_X3_init_20 : decode cX3_init 20 = .ok (.return_, 1) := by decide +kernel
theorem d_X3_see_0 : decode cX3_see 0 = .ok (.aload_n 1, 1) ∧ 1 = 0 + 1 := by decide +kernel
theorem d_X3_see_1 : decode cX3_see 1 = .ok (.iload_n 2, 1) ∧ 2 = 1 + 1 := by decide +kernel
theorem d_X3_see_2 : decode cX3_see 2 = .ok (.invokevirtual 18, 3) ∧ 5 = 2 + 3 := by decide +kernel
theorem d_X3_see_5 : decode cX3_see 5 = .ok (.ifCond .eq 12, 3) ∧ 8 = 5 + 3 ∧ (5 : Int) + 12 = ((17 : Nat) : Int) := by decide +kernel
theorem d_X3_see_8 : decode cX3_see 8 = .ok (.iload_n 3, 1) ∧ 9 = 8 + 1 := by decide +kernel
theorem d_X3_see_9 : decode cX3_see 9 = .ok (.ifCond .lt 8, 3) ∧ 12 = 9 + 3 ∧ (9 : Int) + 8 = ((17 : Nat) : Int) := by decide +kernel
theorem d_X3_see_12 : decode cX3_see 12 = .ok (.iload_n 3, 1) ∧ 13 = 12 + 1 := by decide +kernel
theorem d_X3_see_13 : decode cX3_see 13 = .ok (.iconst 4, 1) ∧ 14 = 13 + 1 := by decide +kernel
theorem d_X3_see_14 : decode cX3_see 14 = .ok (.if_icmp .le 4, 3) ∧ 17 = 14 + 3 ∧ (14 : Int) + 4 = ((18 : Nat) : Int) := by decide +kernel
theorem d_X3_see_17 : decode cX3_see 17 = .ok (.return_, 1) := by decide +kernel
theorem d_X3_see_18 : decode cX3_see 18 = .ok (.aload_n 0, 1) ∧ 19 = 18 + 1 := by decide +kernel
theorem d_X3_see_19 : decode cX3_see 19 = .ok (.getfield 9, 3) ∧ 22 = 19 + 3 := by decide +kernel
theorem d_X3_see_22 : decode cX3_see 22 = .ok (.iload_n 3, 1) ∧ 23 = 22 + 1 := by decide +kernel
theorem d_X3_see_23 : decode cX3_see 23 = .ok (.iconst 0, 1) ∧ 24 = 23 + 1 := by decide +kernel
theorem d_X3_see_24 : decode cX3_see 24 = .ok (.iadd, 1) ∧ 25 = 24 + 1 := by decide +kernel
theorem d_X3_see_25 : decode cX3_see 25 = .ok (.aload_n 1, 1) ∧ 26 = 25 + 1 := by decide +kernel
theorem d_X3_see_26 : decode cX3_see 26 = .ok (.getfield 24, 3) ∧ 29 = 26 + 3 := by decide +kernel
theorem d_X3_see_29 : decode cX3_see 29 = .ok (.iload_n 2, 1) ∧ 30 = 29 + 1 := by decide +kernel
theorem d_X3_see_30 : decode cX3_see 30 = .ok (.iaload, 1) ∧ 31 = 30 + 1 := by decide +kernel
theorem d_X3_see_31 : decode cX3_see 31 = .ok (.iastore, 1) ∧ 32 = 31 + 1 := by decide +kernel
theorem d_X3_see_32 : decode cX3_see 32 = .ok (.aload_n 0, 1) ∧ 33 = 32 + 1 := by decide +kernel
theorem d_X3_see_33 : decode cX3_see 33 = .ok (.getfield 9, 3) ∧ 36 = 33 + 3 := by decide +kernel
theorem d_X3_see_36 : decode cX3_see 36 = .ok (.iload_n 3, 1) ∧ 37 = 36 + 1 := by decide +kernel
theorem d_X3_see_37 : decode cX3_see 37 = .ok (.iconst 1, 1) ∧ 38 = 37 + 1 := by decide +kernel
theorem d_X3_see_38 : decode cX3_see 38 = .ok (.iadd, 1) ∧ 39 = 38 + 1 := by decide +kernel
theorem d_X3_see_39 : decode cX3_see 39 = .ok (.aload_n 1, 1) ∧ 40 = 39 + 1 := by decide +kernel
theorem d_X3_see_40 : decode cX3_see 40 = .ok (.getfield 27, 3) ∧ 43 = 40 + 3 := by decide +kernel
theorem d_X3_see_43 : decode cX3_see 43 = .ok (.iload_n 2, 1) ∧ 44 = 43 + 1 := by decide +kernel
theorem d_X3_see_44 : decode cX3_see 44 = .ok (.iaload, 1) ∧ 45 = 44 + 1 := by decide +kernel
theorem d_X3_see_45 : decode cX3_see 45 = .ok (.iastore, 1) ∧ 46 = 45 + 1 := by decide +kernel
theorem d_X3_see_46 : decode cX3_see 46 = .ok (.aload_n 0, 1) ∧ 47 = 46 + 1 := by decide +kernel
theorem d_X3_see_47 : decode cX3_see 47 = .ok (.getfield 9, 3) ∧ 50 = 47 + 3 := by decide +kernel
theorem d_X3_see_50 : decode cX3_see 50 = .ok (.iload_n 3, 1) ∧ 51 = 50 + 1 := by decide +kernel
theorem d_X3_see_51 : decode cX3_see 51 = .ok (.iconst 2, 1) ∧ 52 = 51 + 1 := by decide +kernel
theorem d_X3_see_52 : decode cX3_see 52 = .ok (.iadd, 1) ∧ 53 = 52 + 1 := by decide +kernel
theorem d_X3_see_53 : decode cX3_see 53 = .ok (.aload_n 1, 1) ∧ 54 = 53 + 1 := by decide +kernel
theorem d_X3_see_54 : decode cX3_see 54 = .ok (.getfield 30, 3) ∧ 57 = 54 + 3 := by decide +kernel
theorem d_X3_see_57 : decode cX3_see 57 = .ok (.iload_n 2, 1) ∧ 58 = 57 + 1 := by decide +kernel
theorem d_X3_see_58 : decode cX3_see 58 = .ok (.iaload, 1) ∧ 59 = 58 + 1 := by decide +kernel
theorem d_X3_see_59 : decode cX3_see 59 = .ok (.iastore, 1) ∧ 60 = 59 + 1 := by decide +kernel
theorem d_X3_see_60 : decode cX3_see 60 = .ok (.aload_n 0, 1) ∧ 61 = 60 + 1 := by decide +kernel
theorem d_X3_see_61 : decode cX3_see 61 = .ok (.getfield 9, 3) ∧ 64 = 61 + 3 := by decide +kernel
theorem d_X3_see_64 : decode cX3_see 64 = .ok (.iload_n 3, 1) ∧ 65 = 64 + 1 := by decide +kernel
theorem d_X3_see_65 : decode cX3_see 65 = .ok (.iconst 3, 1) ∧ 66 = 65 + 1 := by decide +kernel
theorem d_X3_see_66 : decode cX3_see 66 = .ok (.iadd, 1) ∧ 67 = 66 + 1 := by decide +kernel
theorem d_X3_see_67 : decode cX3_see 67 = .ok (.aload_n 1, 1) ∧ 68 = 67 + 1 := by decide +kernel
theorem d_X3_see_68 : decode cX3_see 68 = .ok (.getfield 33, 3) ∧ 71 = 68 + 3 := by decide +kernel
theorem d_X3_see_71 : decode cX3_see 71 = .ok (.iload_n 2, 1) ∧ 72 = 71 + 1 := by decide +kernel
theorem d_X3_see_72 : decode cX3_see 72 = .ok (.iaload, 1) ∧ 73 = 72 + 1 := by decide +kernel
theorem d_X3_see_73 : decode cX3_see 73 = .ok (.iastore, 1) ∧ 74 = 73 + 1 := by decide +kernel
theorem d_X3_see_74 : decode cX3_see 74 = .ok (.return_, 1) := by decide +kernel
theorem d_X3_seeLife_0 : decode cX3_seeLife 0 = .ok (.aload_n 0, 1) ∧ 1 = 0 + 1 := by decide +kernel
theorem d_X3_seeLife_1 : decode cX3_seeLife 1 = .ok (.getfield 9, 3) ∧ 4 = 1 + 3 := by decide +kernel
theorem d_X3_seeLife_4 : decode cX3_seeLife 4 = .ok (.bipush 8, 2) ∧ 6 = 4 + 2 := by decide +kernel
theorem d_X3_seeLife_6 : decode cX3_seeLife 6 = .ok (.iload_n 1, 1) ∧ 7 = 6 + 1 := by decide +kernel
theorem d_X3_seeLife_7 : decode cX3_seeLife 7 = .ok (.iastore, 1) ∧ 8 = 7 + 1 := by decide +kernel
theorem d_X3_seeLife_8 : decode cX3_seeLife 8 = .ok (.aload_n 0, 1) ∧ 9 = 8 + 1 := by decide +kernel
theorem d_X3_seeLife_9 : decode cX3_seeLife 9 = .ok (.getfield 9, 3) ∧ 12 = 9 + 3 := by decide +kernel
theorem d_X3_seeLife_12 : decode cX3_seeLife 12 = .ok (.bipush 9, 2) ∧ 14 = 12 + 2 := by decide +kernel
theorem d_X3_seeLife_14 : decode cX3_seeLife 14 = .ok (.iload_n 2, 1) ∧ 15 = 14 + 1 := by decide +kernel
theorem d_X3_seeLife_15 : decode cX3_seeLife 15 = .ok (.iastore, 1) ∧ 16 = 15 + 1 := by decide +kernel
theorem d_X3_seeLife_16 : decode cX3_seeLife 16 = .ok (.aload_n 0, 1) ∧ 17 = 16 + 1 := by decide +kernel
theorem d_X3_seeLife_17 : decode cX3_seeLife 17 = .ok (.getfield 9, 3) ∧ 20 = 17 + 3 := by decide +kernel
theorem d_X3_seeLife_20 : decode cX3_seeLife 20 = .ok (.bipush 10, 2) ∧ 22 = 20 + 2 := by decide +kernel
theorem d_X3_seeLife_22 : decode cX3_seeLife 22 = .ok (.iload_n 3, 1) ∧ 23 = 22 + 1 := by decide +kernel
theorem d_X3_seeLife_23 : decode cX3_seeLife 23 = .ok (.iastore, 1) ∧ 24 = 23 + 1 := by decide +kernel
theorem d_X3_seeLife_24 : decode cX3_seeLife 24 = .ok (.return_, 1) := by decide +kernel
theorem d_X3_some_0 : decode cX3_some 0 = .ok (.iconst 0, 1) ∧ 1 = 0 + 1 := by decide +kernel
theorem d_X3_some_1 : decode cX3_some 1 = .ok (.istore_n 3, 1) ∧ 2 = 1 + 1 := by decide +kernel
theorem d_X3_some_2 : decode cX3_some 2 = .ok (.iload_n 3, 1) ∧ 3 = 2 + 1 := by decide +kernel
theorem d_X3_some_3 : decode cX3_some 3 = .ok (.aload_n 1, 1) ∧ 4 = 3 + 1 := by decide +kernel
theorem d_X3_some_4 : decode cX3_some 4 = .ok (.getfield 36, 3) ∧ 7 = 4 + 3 := by decide +kernel
theorem d_X3_some_7 : decode cX3_some 7 = .ok (.if_icmp .ge 30, 3) ∧ 10 = 7 + 3 ∧ (7 : Int) + 30 = ((37 : Nat) : Int) := by decide +kernel
theorem d_X3_some_10 : decode cX3_some 10 = .ok (.aload_n 1, 1) ∧ 11 = 10 + 1 := by decide +kernel
theorem d_X3_some_11 : decode cX3_some 11 = .ok (.getfield 42, 3) ∧ 14 = 11 + 3 := by decide +kernel
theorem d_X3_some_14 : decode cX3_some 14 = .ok (.iload_n 3, 1) ∧ 15 = 14 + 1 := by decide +kernel
theorem d_X3_some_15 : decode cX3_some 15 = .ok (.iaload, 1) ∧ 16 = 15 + 1 := by decide +kernel
theorem d_X3_some_16 : decode cX3_some 16 = .ok (.iload_n 2, 1) ∧ 17 = 16 + 1 := by decide +kernel
theorem d_X3_some_17 : decode cX3_some 17 = .ok (.if_icmp .ne 14, 3) ∧ 20 = 17 + 3 ∧ (17 : Int) + 14 = ((31 : Nat) : Int) := by decide +kernel
theorem d_X3_some_20 : decode cX3_some 20 = .ok (.aload_n 0, 1) ∧ 21 = 20 + 1 := by decide +kernel
theorem d_X3_some_21 : decode cX3_some 21 = .ok (.aload_n 1, 1) ∧ 22 = 21 + 1 := by decide +kernel
theorem d_X3_some_22 : decode cX3_some 22 = .ok (.iload_n 3, 1) ∧ 23 = 22 + 1 := by decide +kernel
theorem d_X3_some_23 : decode cX3_some 23 = .ok (.invokevirtual 45, 3) ∧ 26 = 23 + 3 := by decide +kernel
theorem d_X3_some_26 : decode cX3_some 26 = .ok (.ifCond .eq 5, 3) ∧ 29 = 26 + 3 ∧ (26 : Int) + 5 = ((31 : Nat) : Int) := by decide +kernel
theorem d_X3_some_29 : decode cX3_some 29 = .ok (.iconst 1, 1) ∧ 30 = 29 + 1 := by decide +kernel
theorem d_X3_some_30 : decode cX3_some 30 = .ok (.ireturn, 1) := by decide +kernel
theorem d_X3_some_31 : decode cX3_some 31 = .ok (.iinc 3 1, 3) ∧ 34 = 31 + 3 := by decide +kernel
theorem d_X3_some_34 : decode cX3_some 34 = .ok (.goto (-32), 3) ∧ (34 : Int) + ((-32)) = ((2 : Nat) : Int) := by decide +kernel
theorem d_X3_some_37 : decode cX3_some 37 = .ok (.iconst 0, 1) ∧ 38 = 37 + 1 := by decide +kernel
theorem d_X3_some_38 : decode cX3_some 38 = .ok (.ireturn, 1) := by decide +kernel
theorem d_X3_value_0 : decode cX3_value 0 = .ok (.iconst 0, 1) ∧ 1 = 0 + 1 := by decide +kernel
theorem d_X3_value_1 : decode cX3_value 1 = .ok (.istore_n 2, 1) ∧ 2 = 1 + 1 := by decide +kernel
theorem d_X3_value_2 : decode cX3_value 2 = .ok (.iload_n 2, 1) ∧ 3 = 2 + 1 := by decide +kernel
theorem d_X3_value_3 : decode cX3_value 3 = .ok (.aload_n 1, 1) ∧ 4 = 3 + 1 := by decide +kernel
theorem d_X3_value_4 : decode cX3_value 4 = .ok (.getfield 36, 3) ∧ 7 = 4 + 3 := by decide +kernel
theorem d_X3_value_7 : decode cX3_value 7 = .ok (.if_icmp .ge 27, 3) ∧ 10 = 7 + 3 ∧ (7 : Int) + 27 = ((34 : Nat) : Int) := by decide +kernel
theorem d_X3_value_10 : decode cX3_value 10 = .ok (.aload_n 1, 1) ∧ 11 = 10 + 1 := by decide +kernel
theorem d_X3_value_11 : decode cX3_value 11 = .ok (.getfield 42, 3) ∧ 14 = 11 + 3 := by decide +kernel
theorem d_X3_value_14 : decode cX3_value 14 = .ok (.iload_n 2, 1) ∧ 15 = 14 + 1 := by decide +kernel
theorem d_X3_value_15 : decode cX3_value 15 = .ok (.iaload, 1) ∧ 16 = 15 + 1 := by decide +kernel
theorem d_X3_value_16 : decode cX3_value 16 = .ok (.bipush 16, 2) ∧ 18 = 16 + 2 := by decide +kernel
theorem d_X3_value_18 : decode cX3_value 18 = .ok (.if_icmp .ne 10, 3) ∧ 21 = 18 + 3 ∧ (18 : Int) + 10 = ((28 : Nat) : Int) := by decide +kernel
theorem d_X3_value_21 : decode cX3_value 21 = .ok (.aload_n 0, 1) ∧ 22 = 21 + 1 := by decide +kernel
theorem d_X3_value_22 : decode cX3_value 22 = .ok (.aload_n 1, 1) ∧ 23 = 22 + 1 := by decide +kernel
theorem d_X3_value_23 : decode cX3_value 23 = .ok (.iload_n 2, 1) ∧ 24 = 23 + 1 := by decide +kernel
theorem d_X3_value_24 : decode cX3_value 24 = .ok (.invokevirtual 45, 3) ∧ 27 = 24 + 3 := by decide +kernel
theorem d_X3_value_27 : decode cX3_value 27 = .ok (.ireturn, 1) := by decide +kernel
theorem d_X3_value_28 : decode cX3_value 28 = .ok (.iinc 2 1, 3) ∧ 31 = 28 + 3 := by decide +kernel
theorem d_X3_value_31 : decode cX3_value 31 = .ok (.goto (-29), 3) ∧ (31 : Int) + ((-29)) = ((2 : Nat) : Int) := by decide +kernel
theorem d_X3_value_34 : decode cX3_value 34 = .ok (.iconst 0, 1) ∧ 35 = 34 + 1 := by decide +kernel
theorem d_X3_value_35 : decode cX3_value 35 = .ok (.ireturn, 1) := by decide +kernel
theorem d_X3_run_0 : decode cX3_run 0 = .ok (.iconst 0, 1) ∧ 1 = 0 + 1 := by decide +kernel
theorem d_X3_run_1 : decode cX3_run 1 = .ok (.istore_n 3, 1) ∧ 2 = 1 + 1 := by decide +kernel
theorem d_X3_run_2 : decode cX3_run 2 = .ok (.aload_n 1, 1) ∧ 3 = 2 + 1 := by decide +kernel
theorem d_X3_run_3 : decode cX3_run 3 = .ok (.getfield 49, 3) ∧ 6 = 3 + 3 := by decide +kernel
theorem d_X3_run_6 : decode cX3_run 6 = .ok (.iload_n 2, 1) ∧ 7 = 6 + 1 := by decide +kernel
theorem d_X3_run_7 : decode cX3_run 7 = .ok (.iaload, 1) ∧ 8 = 7 + 1 := by decide +kernel
theorem d_X3_run_8 : decode cX3_run 8 = .ok (.istore 4, 2) ∧ 10 = 8 + 2 := by decide +kernel
theorem d_X3_run_10 : decode cX3_run 10 = .ok (.iload 4, 2) ∧ 12 = 10 + 2 := by decide +kernel
theorem d_X3_run_12 : decode cX3_run 12 = .ok (.aload_n 1, 1) ∧ 13 = 12 + 1 := by decide +kernel
theorem d_X3_run_13 : decode cX3_run 13 = .ok (.getfield 49, 3) ∧ 16 = 13 + 3 := by decide +kernel
theorem d_X3_run_16 : decode cX3_run 16 = .ok (.iload_n 2, 1) ∧ 17 = 16 + 1 := by decide +kernel
theorem d_X3_run_17 : decode cX3_run 17 = .ok (.iconst 1, 1) ∧ 18 = 17 + 1 := by decide +kernel
theorem d_X3_run_18 : decode cX3_run 18 = .ok (.iadd, 1) ∧ 19 = 18 + 1 := by decide +kernel
theorem d_X3_run_19 : decode cX3_run 19 = .ok (.iaload, 1) ∧ 20 = 19 + 1 := by decide +kernel
theorem d_X3_run_20 : decode cX3_run 20 = .ok (.if_icmp .ge 214, 3) ∧ 23 = 20 + 3 ∧ (20 : Int) + 214 = ((234 : Nat) : Int) := by decide +kernel
theorem d_X3_run_23 : decode cX3_run 23 = .ok (.iload 4, 2) ∧ 25 = 23 + 2 := by decide +kernel
theorem d_X3_run_25 : decode cX3_run 25 = .ok (.aload_n 1, 1) ∧ 26 = 25 + 1 := by decide +kernel
theorem d_X3_run_26 : decode cX3_run 26 = .ok (.getfield 52, 3) ∧ 29 = 26 + 3 := by decide +kernel
theorem d_X3_run_29 : decode cX3_run 29 = .ok (.arraylength, 1) ∧ 30 = 29 + 1 := by decide +kernel
theorem d_X3_run_30 : decode cX3_run 30 = .ok (.if_icmp .ge 204, 3) ∧ 33 = 30 + 3 ∧ (30 : Int) + 204 = ((234 : Nat) : Int) := by decide +kernel
theorem d_X3_run_33 : decode cX3_run 33 = .ok (.aload_n 1, 1) ∧ 34 = 33 + 1 := by decide +kernel
theorem d_X3_run_34 : decode cX3_run 34 = .ok (.getfield 52, 3) ∧ 37 = 34 + 3 := by decide +kernel
theorem d_X3_run_37 : decode cX3_run 37 = .ok (.iload 4, 2) ∧ 39 = 37 + 2 := by decide +kernel
theorem d_X3_run_39 : decode cX3_run 39 = .ok (.iaload, 1) ∧ 40 = 39 + 1 := by decide +kernel
theorem d_X3_run_40 : decode cX3_run 40 = .ok (.istore 5, 2) ∧ 42 = 40 + 2 := by decide +kernel
theorem d_X3_run_42 : decode cX3_run 42 = .ok (.iload 5, 2) ∧ 44 = 42 + 2 := by decide +kernel
theorem d_X3_run_44 : decode cX3_run 44 = .ok (.bipush 100, 2) ∧ 46 = 44 + 2 := by decide +kernel
theorem d_X3_run_46 : decode cX3_run 46 = .ok (.if_icmp .ge 10, 3) ∧ 49 = 46 + 3 ∧ (46 : Int) + 10 = ((56 : Nat) : Int) := by decide +kernel
theorem d_X3_run_49 : decode cX3_run 49 = .ok (.iload 5, 2) ∧ 51 = 49 + 2 := by decide +kernel
theorem d_X3_run_51 : decode cX3_run 51 = .ok (.bipush 11, 2) ∧ 53 = 51 + 2 := by decide +kernel
theorem d_X3_run_53 : decode cX3_run 53 = .ok (.if_icmp .ge 7, 3) ∧ 56 = 53 + 3 ∧ (53 : Int) + 7 = ((60 : Nat) : Int) := by decide +kernel
theorem d_X3_run_56 : decode cX3_run 56 = .ok (.iconst 1, 1) ∧ 57 = 56 + 1 := by decide +kernel
theorem d_X3_run_57 : decode cX3_run 57 = .ok (.goto 4, 3) ∧ (57 : Int) + (4) = ((61 : Nat) : Int) := by decide +kernel
theorem d_X3_run_60 : decode cX3_run 60 = .ok (.iconst 0, 1) ∧ 61 = 60 + 1 := by decide +kernel
theorem d_X3_run_61 : decode cX3_run 61 = .ok (.istore 6, 2) ∧ 63 = 61 + 2 := by decide +kernel
theorem d_X3_run_63 : decode cX3_run 63 = .ok (.iload 6, 2) ∧ 65 = 63 + 2 := by decide +kernel
theorem d_X3_run_65 : decode cX3_run 65 = .ok (.ifCond .eq 46, 3) ∧ 68 = 65 + 3 ∧ (65 : Int) + 46 = ((111 : Nat) : Int) := by decide +kernel
theorem d_X3_run_68 : decode cX3_run 68 = .ok (.iload_n 3, 1) ∧ 69 = 68 + 1 := by decide +kernel
theorem d_X3_run_69 : decode cX3_run 69 = .ok (.aload_n 0, 1) ∧ 70 = 69 + 1 := by decide +kernel
theorem d_X3_run_70 : decode cX3_run 70 = .ok (.getfield 15, 3) ∧ 73 = 70 + 3 := by decide +kernel
theorem d_X3_run_73 : decode cX3_run 73 = .ok (.arraylength, 1) ∧ 74 = 73 + 1 := by decide +kernel
theorem d_X3_run_74 : decode cX3_run 74 = .ok (.if_icmp .ge 37, 3) ∧ 77 = 74 + 3 ∧ (74 : Int) + 37 = ((111 : Nat) : Int) := by decide +kernel
theorem d_X3_run_77 : decode cX3_run 77 = .ok (.aload_n 0, 1) ∧ 78 = 77 + 1 := by decide +kernel
theorem d_X3_run_78 : decode cX3_run 78 = .ok (.getfield 15, 3) ∧ 81 = 78 + 3 := by decide +kernel
theorem d_X3_run_81 : decode cX3_run 81 = .ok (.iload_n 3, 1) ∧ 82 = 81 + 1 := by decide +kernel
theorem d_X3_run_82 : decode cX3_run 82 = .ok (.iload 5, 2) ∧ 84 = 82 + 2 := by decide +kernel
theorem d_X3_run_84 : decode cX3_run 84 = .ok (.bipush 100, 2) ∧ 86 = 84 + 2 := by decide +kernel
theorem d_X3_run_86 : decode cX3_run 86 = .ok (.if_icmp .lt 11, 3) ∧ 89 = 86 + 3 ∧ (86 : Int) + 11 = ((97 : Nat) : Int) := by decide +kernel
theorem d_X3_run_89 : decode cX3_run 89 = .ok (.iload 5, 2) ∧ 91 = 89 + 2 := by decide +kernel
theorem d_X3_run_91 : decode cX3_run 91 = .ok (.bipush 100, 2) ∧ 93 = 91 + 2 := by decide +kernel
theorem d_X3_run_93 : decode cX3_run 93 = .ok (.isub, 1) ∧ 94 = 93 + 1 := by decide +kernel
theorem d_X3_run_94 : decode cX3_run 94 = .ok (.goto 10, 3) ∧ (94 : Int) + (10) = ((104 : Nat) : Int) := by decide +kernel
theorem d_X3_run_97 : decode cX3_run 97 = .ok (.aload_n 0, 1) ∧ 98 = 97 + 1 := by decide +kernel
theorem d_X3_run_98 : decode cX3_run 98 = .ok (.getfield 9, 3) ∧ 101 = 98 + 3 := by decide +kernel
theorem d_X3_run_101 : decode cX3_run 101 = .ok (.iload 5, 2) ∧ 103 = 101 + 2 := by decide +kernel
theorem d_X3_run_103 : decode cX3_run 103 = .ok (.iaload, 1) ∧ 104 = 103 + 1 := by decide +kernel
theorem d_X3_run_104 : decode cX3_run 104 = .ok (.iastore, 1) ∧ 105 = 104 + 1 := by decide +kernel
theorem d_X3_run_105 : decode cX3_run 105 = .ok (.iinc 3 1, 3) ∧ 108 = 105 + 3 := by decide +kernel
theorem d_X3_run_108 : decode cX3_run 108 = .ok (.goto 120, 3) ∧ (108 : Int) + (120) = ((228 : Nat) : Int) := by decide +kernel
theorem d_X3_run_111 : decode cX3_run 111 = .ok (.iload 5, 2) ∧ 113 = 111 + 2 := by decide +kernel
theorem d_X3_run_113 : decode cX3_run 113 = .ok (.bipush 11, 2) ∧ 115 = 113 + 2 := by decide +kernel
theorem d_X3_run_115 : decode cX3_run 115 = .ok (.if_icmp .eq 10, 3) ∧ 118 = 115 + 3 ∧ (115 : Int) + 10 = ((125 : Nat) : Int) := by decide +kernel
theorem d_X3_run_118 : decode cX3_run 118 = .ok (.iload 5, 2) ∧ 120 = 118 + 2 := by decide +kernel
theorem d_X3_run_120 : decode cX3_run 120 = .ok (.bipush 31, 2) ∧ 122 = 120 + 2 := by decide +kernel
theorem d_X3_run_122 : decode cX3_run 122 = .ok (.if_icmp .ne 47, 3) ∧ 125 = 122 + 3 ∧ (122 : Int) + 47 = ((169 : Nat) : Int) := by decide +kernel
theorem d_X3_run_125 : decode cX3_run 125 = .ok (.iload_n 3, 1) ∧ 126 = 125 + 1 := by decide +kernel
theorem d_X3_run_126 : decode cX3_run 126 = .ok (.ifCond .le 43, 3) ∧ 129 = 126 + 3 ∧ (126 : Int) + 43 = ((169 : Nat) : Int) := by decide +kernel
theorem d_X3_run_129 : decode cX3_run 129 = .ok (.aload_n 0, 1) ∧ 130 = 129 + 1 := by decide +kernel
theorem d_X3_run_130 : decode cX3_run 130 = .ok (.getfield 15, 3) ∧ 133 = 130 + 3 := by decide +kernel
theorem d_X3_run_133 : decode cX3_run 133 = .ok (.iload_n 3, 1) ∧ 134 = 133 + 1 := by decide +kernel
theorem d_X3_run_134 : decode cX3_run 134 = .ok (.iconst 1, 1) ∧ 135 = 134 + 1 := by decide +kernel
theorem d_X3_run_135 : decode cX3_run 135 = .ok (.isub, 1) ∧ 136 = 135 + 1 := by decide +kernel
theorem d_X3_run_136 : decode cX3_run 136 = .ok (.iload 5, 2) ∧ 138 = 136 + 2 := by decide +kernel
theorem d_X3_run_138 : decode cX3_run 138 = .ok (.bipush 11, 2) ∧ 140 = 138 + 2 := by decide +kernel
theorem d_X3_run_140 : decode cX3_run 140 = .ok (.if_icmp .ne 16, 3) ∧ 143 = 140 + 3 ∧ (140 : Int) + 16 = ((156 : Nat) : Int) := by decide +kernel
theorem d_X3_run_143 : decode cX3_run 143 = .ok (.iconst 1, 1) ∧ 144 = 143 + 1 := by decide +kernel
theorem d_X3_run_144 : decode cX3_run 144 = .ok (.aload_n 0, 1) ∧ 145 = 144 + 1 := by decide +kernel
theorem d_X3_run_145 : decode cX3_run 145 = .ok (.getfield 15, 3) ∧ 148 = 145 + 3 := by decide +kernel
theorem d_X3_run_148 : decode cX3_run 148 = .ok (.iload_n 3, 1) ∧ 149 = 148 + 1 := by decide +kernel
theorem d_X3_run_149 : decode cX3_run 149 = .ok (.iconst 1, 1) ∧ 150 = 149 + 1 := by decide +kernel
theorem d_X3_run_150 : decode cX3_run 150 = .ok (.isub, 1) ∧ 151 = 150 + 1 := by decide +kernel
theorem d_X3_run_151 : decode cX3_run 151 = .ok (.iaload, 1) ∧ 152 = 151 + 1 := by decide +kernel
theorem d_X3_run_152 : decode cX3_run 152 = .ok (.isub, 1) ∧ 153 = 152 + 1 := by decide +kernel
theorem d_X3_run_153 : decode cX3_run 153 = .ok (.goto 12, 3) ∧ (153 : Int) + (12) = ((165 : Nat) : Int) := by decide +kernel
theorem d_X3_run_156 : decode cX3_run 156 = .ok (.aload_n 0, 1) ∧ 157 = 156 + 1 := by decide +kernel
theorem d_X3_run_157 : decode cX3_run 157 = .ok (.getfield 15, 3) ∧ 160 = 157 + 3 := by decide +kernel
theorem d_X3_run_160 : decode cX3_run 160 = .ok (.iload_n 3, 1) ∧ 161 = 160 + 1 := by decide +kernel
theorem d_X3_run_161 : decode cX3_run 161 = .ok (.iconst 1, 1) ∧ 162 = 161 + 1 := by decide +kernel
theorem d_X3_run_162 : decode cX3_run 162 = .ok (.isub, 1) ∧ 163 = 162 + 1 := by decide +kernel
theorem d_X3_run_163 : decode cX3_run 163 = .ok (.iaload, 1) ∧ 164 = 163 + 1 := by decide +kernel
theorem d_X3_run_164 : decode cX3_run 164 = .ok (.ineg, 1) ∧ 165 = 164 + 1 := by decide +kernel
theorem d_X3_run_165 : decode cX3_run 165 = .ok (.iastore, 1) ∧ 166 = 165 + 1 := by decide +kernel
theorem d_X3_run_166 : decode cX3_run 166 = .ok (.goto 62, 3) ∧ (166 : Int) + (62) = ((228 : Nat) : Int) := by decide +kernel
theorem d_X3_run_169 : decode cX3_run 169 = .ok (.iload 6, 2) ∧ 171 = 169 + 2 := by decide +kernel
theorem d_X3_run_171 : decode cX3_run 171 = .ok (.ifCond .ne 57, 3) ∧ 174 = 171 + 3 ∧ (171 : Int) + 57 = ((228 : Nat) : Int) := by decide +kernel
theorem d_X3_run_174 : decode cX3_run 174 = .ok (.iload_n 3, 1) ∧ 175 = 174 + 1 := by decide +kernel
theorem d_X3_run_175 : decode cX3_run 175 = .ok (.iconst 1, 1) ∧ 176 = 175 + 1 := by decide +kernel
theorem d_X3_run_176 : decode cX3_run 176 = .ok (.if_icmp .le 52, 3) ∧ 179 = 176 + 3 ∧ (176 : Int) + 52 = ((228 : Nat) : Int) := by decide +kernel
theorem d_X3_run_179 : decode cX3_run 179 = .ok (.iinc 3 (-1), 3) ∧ 182 = 179 + 3 := by decide +kernel
theorem d_X3_run_182 : decode cX3_run 182 = .ok (.iload 5, 2) ∧ 184 = 182 + 2 := by decide +kernel
theorem d_X3_run_184 : decode cX3_run 184 = .ok (.aload_n 0, 1) ∧ 185 = 184 + 1 := by decide +kernel
theorem d_X3_run_185 : decode cX3_run 185 = .ok (.getfield 15, 3) ∧ 188 = 185 + 3 := by decide +kernel
theorem d_X3_run_188 : decode cX3_run 188 = .ok (.iload_n 3, 1) ∧ 189 = 188 + 1 := by decide +kernel
theorem d_X3_run_189 : decode cX3_run 189 = .ok (.iconst 1, 1) ∧ 190 = 189 + 1 := by decide +kernel
theorem d_X3_run_190 : decode cX3_run 190 = .ok (.isub, 1) ∧ 191 = 190 + 1 := by decide +kernel
theorem d_X3_run_191 : decode cX3_run 191 = .ok (.iaload, 1) ∧ 192 = 191 + 1 := by decide +kernel
theorem d_X3_run_192 : decode cX3_run 192 = .ok (.i2l, 1) ∧ 193 = 192 + 1 := by decide +kernel
theorem d_X3_run_193 : decode cX3_run 193 = .ok (.aload_n 0, 1) ∧ 194 = 193 + 1 := by decide +kernel
theorem d_X3_run_194 : decode cX3_run 194 = .ok (.getfield 15, 3) ∧ 197 = 194 + 3 := by decide +kernel
theorem d_X3_run_197 : decode cX3_run 197 = .ok (.iload_n 3, 1) ∧ 198 = 197 + 1 := by decide +kernel
theorem d_X3_run_198 : decode cX3_run 198 = .ok (.iaload, 1) ∧ 199 = 198 + 1 := by decide +kernel
theorem d_X3_run_199 : decode cX3_run 199 = .ok (.i2l, 1) ∧ 200 = 199 + 1 := by decide +kernel
theorem d_X3_run_200 : decode cX3_run 200 = .ok (.invokestatic 55, 3) ∧ 203 = 200 + 3 := by decide +kernel
theorem d_X3_run_203 : decode cX3_run 203 = .ok (.lstore 7, 2) ∧ 205 = 203 + 2 := by decide +kernel
theorem d_X3_run_205 : decode cX3_run 205 = .ok (.aload_n 0, 1) ∧ 206 = 205 + 1 := by decide +kernel
theorem d_X3_run_206 : decode cX3_run 206 = .ok (.getfield 15, 3) ∧ 209 = 206 + 3 := by decide +kernel
theorem d_X3_run_209 : decode cX3_run 209 = .ok (.iload_n 3, 1) ∧ 210 = 209 + 1 := by decide +kernel
theorem d_X3_run_210 : decode cX3_run 210 = .ok (.iconst 1, 1) ∧ 211 = 210 + 1 := by decide +kernel
theorem d_X3_run_211 : decode cX3_run 211 = .ok (.isub, 1) ∧ 212 = 211 + 1 := by decide +kernel
theorem d_X3_run_212 : decode cX3_run 212 = .ok (.ldc2_w 59, 3) ∧ 215 = 212 + 3 := by decide +kernel
theorem d_X3_run_215 : decode cX3_run 215 = .ok (.lload 7, 2) ∧ 217 = 215 + 2 := by decide +kernel
theorem d_X3_run_217 : decode cX3_run 217 = .ok (.ldc2_w 61, 3) ∧ 220 = 217 + 3 := by decide +kernel
theorem d_X3_run_220 : decode cX3_run 220 = .ok (.invokestatic 63, 3) ∧ 223 = 220 + 3 := by decide +kernel
theorem d_X3_run_223 : decode cX3_run 223 = .ok (.invokestatic 69, 3) ∧ 226 = 223 + 3 := by decide +kernel
theorem d_X3_run_226 : decode cX3_run 226 = .ok (.l2i, 1) ∧ 227 = 226 + 1 := by decide +kernel
theorem d_X3_run_227 : decode cX3_run 227 = .ok (.iastore, 1) ∧ 228 = 227 + 1 := by decide +kernel
theorem d_X3_run_228 : decode cX3_run 228 = .ok (.iinc 4 1, 3) ∧ 231 = 228 + 3 := by decide +kernel
theorem d_X3_run_231 : decode cX3_run 231 = .ok (.goto (-221), 3) ∧ (231 : Int) + ((-221)) = ((10 : Nat) : Int) := by decide +kernel
theorem d_X3_run_234 : decode cX3_run 234 = .ok (.iload_n 3, 1) ∧ 235 = 234 + 1 := by decide +kernel
theorem d_X3_run_235 : decode cX3_run 235 = .ok (.ifCond .le 12, 3) ∧ 238 = 235 + 3 ∧ (235 : Int) + 12 = ((247 : Nat) : Int) := by decide +kernel
theorem d_X3_run_238 : decode cX3_run 238 = .ok (.aload_n 0, 1) ∧ 239 = 238 + 1 := by decide +kernel
theorem d_X3_run_239 : decode cX3_run 239 = .ok (.getfield 15, 3) ∧ 242 = 239 + 3 := by decide +kernel
theorem d_X3_run_242 : decode cX3_run 242 = .ok (.iconst 0, 1) ∧ 243 = 242 + 1 := by decide +kernel
theorem d_X3_run_243 : decode cX3_run 243 = .ok (.iaload, 1) ∧ 244 = 243 + 1 := by decide +kernel
theorem d_X3_run_244 : decode cX3_run 244 = .ok (.goto 4, 3) ∧ (244 : Int) + (4) = ((248 : Nat) : Int) := by decide +kernel
theorem d_X3_run_247 : decode cX3_run 247 = .ok (.iconst 0, 1) ∧ 248 = 247 + 1 := by decide +kernel
theorem d_X3_run_248 : decode cX3_run 248 = .ok (.ireturn, 1) := by decide +kernel
theorem d_X3_joined_0 : decode cX3_joined 0 = .ok (.iload_n 0, 1) ∧ 1 = 0 + 1 := by decide +kernel
theorem d_X3_joined_1 : decode cX3_joined 1 = .ok (.tableswitch 179 12 29 #[87, 91, 179, 179, 179, 179, 179, 179, 179, 95, 107, 119, 131, 143, 155, 167, 171, 175], 87) := by decide +kernel
theorem d_X3_joined_88 : decode cX3_joined 88 = .ok (.lload_n 1, 1) ∧ 89 = 88 + 1 := by decide +kernel
theorem d_X3_joined_89 : decode cX3_joined 89 = .ok (.lload_n 3, 1) ∧ 90 = 89 + 1 := by decide +kernel
theorem d_X3_joined_90 : decode cX3_joined 90 = .ok (.land, 1) ∧ 91 = 90 + 1 := by decide +kernel
theorem d_X3_joined_91 : decode cX3_joined 91 = .ok (.lreturn, 1) := by decide +kernel
theorem d_X3_joined_92 : decode cX3_joined 92 = .ok (.lload_n 1, 1) ∧ 93 = 92 + 1 := by decide +kernel
theorem d_X3_joined_93 : decode cX3_joined 93 = .ok (.lload_n 3, 1) ∧ 94 = 93 + 1 := by decide +kernel
theorem d_X3_joined_94 : decode cX3_joined 94 = .ok (.lor, 1) ∧ 95 = 94 + 1 := by decide +kernel
theorem d_X3_joined_95 : decode cX3_joined 95 = .ok (.lreturn, 1) := by decide +kernel
theorem d_X3_joined_96 : decode cX3_joined 96 = .ok (.lload_n 1, 1) ∧ 97 = 96 + 1 := by decide +kernel
theorem d_X3_joined_97 : decode cX3_joined 97 = .ok (.lload_n 3, 1) ∧ 98 = 97 + 1 := by decide +kernel
theorem d_X3_joined_98 : decode cX3_joined 98 = .ok (.lcmp, 1) ∧ 99 = 98 + 1 := by decide +kernel
theorem d_X3_joined_99 : decode cX3_joined 99 = .ok (.ifCond .gt 7, 3) ∧ 102 = 99 + 3 ∧ (99 : Int) + 7 = ((106 : Nat) : Int) := by decide +kernel
theorem d_X3_joined_102 : decode cX3_joined 102 = .ok (.lconst 1, 1) ∧ 103 = 102 + 1 := by decide +kernel
theorem d_X3_joined_103 : decode cX3_joined 103 = .ok (.goto 4, 3) ∧ (103 : Int) + (4) = ((107 : Nat) : Int) := by decide +kernel
theorem d_X3_joined_106 : decode cX3_joined 106 = .ok (.lconst 0, 1) ∧ 107 = 106 + 1 := by decide +kernel
theorem d_X3_joined_107 : decode cX3_joined 107 = .ok (.lreturn, 1) := by decide +kernel
theorem d_X3_joined_108 : decode cX3_joined 108 = .ok (.lload_n 1, 1) ∧ 109 = 108 + 1 := by decide +kernel
theorem d_X3_joined_109 : decode cX3_joined 109 = .ok (.lload_n 3, 1) ∧ 110 = 109 + 1 := by decide +kernel
theorem d_X3_joined_110 : decode cX3_joined 110 = .ok (.lcmp, 1) ∧ 111 = 110 + 1 := by decide +kernel
theorem d_X3_joined_111 : decode cX3_joined 111 = .ok (.ifCond .lt 7, 3) ∧ 114 = 111 + 3 ∧ (111 : Int) + 7 = ((118 : Nat) : Int) := by decide +kernel
theorem d_X3_joined_114 : decode cX3_joined 114 = .ok (.lconst 1, 1) ∧ 115 = 114 + 1 := by decide +kernel
theorem d_X3_joined_115 : decode cX3_joined 115 = .ok (.goto 4, 3) ∧ (115 : Int) + (4) = ((119 : Nat) : Int) := by decide +kernel
theorem d_X3_joined_118 : decode cX3_joined 118 = .ok (.lconst 0, 1) ∧ 119 = 118 + 1 := by decide +kernel
theorem d_X3_joined_119 : decode cX3_joined 119 = .ok (.lreturn, 1) := by decide +kernel
theorem d_X3_joined_120 : decode cX3_joined 120 = .ok (.lload_n 1, 1) ∧ 121 = 120 + 1 := by decide +kernel
theorem d_X3_joined_121 : decode cX3_joined 121 = .ok (.lload_n 3, 1) ∧ 122 = 121 + 1 := by decide +kernel
theorem d_X3_joined_122 : decode cX3_joined 122 = .ok (.lcmp, 1) ∧ 123 = 122 + 1 := by decide +kernel
theorem d_X3_joined_123 : decode cX3_joined 123 = .ok (.ifCond .ge 7, 3) ∧ 126 = 123 + 3 ∧ (123 : Int) + 7 = ((130 : Nat) : Int) := by decide +kernel
theorem d_X3_joined_126 : decode cX3_joined 126 = .ok (.lconst 1, 1) ∧ 127 = 126 + 1 := by decide +kernel
theorem d_X3_joined_127 : decode cX3_joined 127 = .ok (.goto 4, 3) ∧ (127 : Int) + (4) = ((131 : Nat) : Int) := by decide +kernel
theorem d_X3_joined_130 : decode cX3_joined 130 = .ok (.lconst 0, 1) ∧ 131 = 130 + 1 := by decide +kernel
theorem d_X3_joined_131 : decode cX3_joined 131 = .ok (.lreturn, 1) := by decide +kernel
theorem d_X3_joined_132 : decode cX3_joined 132 = .ok (.lload_n 1, 1) ∧ 133 = 132 + 1 := by decide +kernel
theorem d_X3_joined_133 : decode cX3_joined 133 = .ok (.lload_n 3, 1) ∧ 134 = 133 + 1 := by decide +kernel
theorem d_X3_joined_134 : decode cX3_joined 134 = .ok (.lcmp, 1) ∧ 135 = 134 + 1 := by decide +kernel
theorem d_X3_joined_135 : decode cX3_joined 135 = .ok (.ifCond .le 7, 3) ∧ 138 = 135 + 3 ∧ (135 : Int) + 7 = ((142 : Nat) : Int) := by decide +kernel
theorem d_X3_joined_138 : decode cX3_joined 138 = .ok (.lconst 1, 1) ∧ 139 = 138 + 1 := by decide +kernel
theorem d_X3_joined_139 : decode cX3_joined 139 = .ok (.goto 4, 3) ∧ (139 : Int) + (4) = ((143 : Nat) : Int) := by decide +kernel
theorem d_X3_joined_142 : decode cX3_joined 142 = .ok (.lconst 0, 1) ∧ 143 = 142 + 1 := by decide +kernel
theorem d_X3_joined_143 : decode cX3_joined 143 = .ok (.lreturn, 1) := by decide +kernel
theorem d_X3_joined_144 : decode cX3_joined 144 = .ok (.lload_n 1, 1) ∧ 145 = 144 + 1 := by decide +kernel
theorem d_X3_joined_145 : decode cX3_joined 145 = .ok (.lload_n 3, 1) ∧ 146 = 145 + 1 := by decide +kernel
theorem d_X3_joined_146 : decode cX3_joined 146 = .ok (.lcmp, 1) ∧ 147 = 146 + 1 := by decide +kernel
theorem d_X3_joined_147 : decode cX3_joined 147 = .ok (.ifCond .ne 7, 3) ∧ 150 = 147 + 3 ∧ (147 : Int) + 7 = ((154 : Nat) : Int) := by decide +kernel
theorem d_X3_joined_150 : decode cX3_joined 150 = .ok (.lconst 1, 1) ∧ 151 = 150 + 1 := by decide +kernel
theorem d_X3_joined_151 : decode cX3_joined 151 = .ok (.goto 4, 3) ∧ (151 : Int) + (4) = ((155 : Nat) : Int) := by decide +kernel
theorem d_X3_joined_154 : decode cX3_joined 154 = .ok (.lconst 0, 1) ∧ 155 = 154 + 1 := by decide +kernel
theorem d_X3_joined_155 : decode cX3_joined 155 = .ok (.lreturn, 1) := by decide +kernel
theorem d_X3_joined_156 : decode cX3_joined 156 = .ok (.lload_n 1, 1) ∧ 157 = 156 + 1 := by decide +kernel
theorem d_X3_joined_157 : decode cX3_joined 157 = .ok (.lload_n 3, 1) ∧ 158 = 157 + 1 := by decide +kernel
theorem d_X3_joined_158 : decode cX3_joined 158 = .ok (.lcmp, 1) ∧ 159 = 158 + 1 := by decide +kernel
theorem d_X3_joined_159 : decode cX3_joined 159 = .ok (.ifCond .eq 7, 3) ∧ 162 = 159 + 3 ∧ (159 : Int) + 7 = ((166 : Nat) : Int) := by decide +kernel
theorem d_X3_joined_162 : decode cX3_joined 162 = .ok (.lconst 1, 1) ∧ 163 = 162 + 1 := by decide +kernel
theorem d_X3_joined_163 : decode cX3_joined 163 = .ok (.goto 4, 3) ∧ (163 : Int) + (4) = ((167 : Nat) : Int) := by decide +kernel
theorem d_X3_joined_166 : decode cX3_joined 166 = .ok (.lconst 0, 1) ∧ 167 = 166 + 1 := by decide +kernel
theorem d_X3_joined_167 : decode cX3_joined 167 = .ok (.lreturn, 1) := by decide +kernel
theorem d_X3_joined_168 : decode cX3_joined 168 = .ok (.lload_n 1, 1) ∧ 169 = 168 + 1 := by decide +kernel
theorem d_X3_joined_169 : decode cX3_joined 169 = .ok (.lload_n 3, 1) ∧ 170 = 169 + 1 := by decide +kernel
theorem d_X3_joined_170 : decode cX3_joined 170 = .ok (.ladd, 1) ∧ 171 = 170 + 1 := by decide +kernel
theorem d_X3_joined_171 : decode cX3_joined 171 = .ok (.lreturn, 1) := by decide +kernel
theorem d_X3_joined_172 : decode cX3_joined 172 = .ok (.lload_n 1, 1) ∧ 173 = 172 + 1 := by decide +kernel
theorem d_X3_joined_173 : decode cX3_joined 173 = .ok (.lload_n 3, 1) ∧ 174 = 173 + 1 := by decide +kernel
theorem d_X3_joined_174 : decode cX3_joined 174 = .ok (.lsub, 1) ∧ 175 = 174 + 1 := by decide +kernel
theorem d_X3_joined_175 : decode cX3_joined 175 = .ok (.lreturn, 1) := by decide +kernel
theorem d_X3_joined_176 : decode cX3_joined 176 = .ok (.lload_n 1, 1) ∧ 177 = 176 + 1 := by decide +kernel
theorem d_X3_joined_177 : decode cX3_joined 177 = .ok (.lload_n 3, 1) ∧ 178 = 177 + 1 := by decide +kernel
theorem d_X3_joined_178 : decode cX3_joined 178 = .ok (.lmul, 1) ∧ 179 = 178 + 1 := by decide +kernel
theorem d_X3_joined_179 : decode cX3_joined 179 = .ok (.lreturn, 1) := by decide +kernel
theorem d_X3_joined_180 : decode cX3_joined 180 = .ok (.lload_n 3, 1) ∧ 181 = 180 + 1 := by decide +kernel
theorem d_X3_joined_181 : decode cX3_joined 181 = .ok (.lconst 0, 1) ∧ 182 = 181 + 1 := by decide +kernel
theorem d_X3_joined_182 : decode cX3_joined 182 = .ok (.lcmp, 1) ∧ 183 = 182 + 1 := by decide +kernel
theorem d_X3_joined_183 : decode cX3_joined 183 = .ok (.ifCond .ne 7, 3) ∧ 186 = 183 + 3 ∧ (183 : Int) + 7 = ((190 : Nat) : Int) := by decide +kernel
theorem d_X3_joined_186 : decode cX3_joined 186 = .ok (.lconst 0, 1) ∧ 187 = 186 + 1 := by decide +kernel
theorem d_X3_joined_187 : decode cX3_joined 187 = .ok (.goto 6, 3) ∧ (187 : Int) + (6) = ((193 : Nat) : Int) := by decide +kernel
theorem d_X3_joined_190 : decode cX3_joined 190 = .ok (.lload_n 1, 1) ∧ 191 = 190 + 1 := by decide +kernel
theorem d_X3_joined_191 : decode cX3_joined 191 = .ok (.lload_n 3, 1) ∧ 192 = 191 + 1 := by decide +kernel
theorem d_X3_joined_192 : decode cX3_joined 192 = .ok (.ldiv, 1) ∧ 193 = 192 + 1 := by decide +kernel
theorem d_X3_joined_193 : decode cX3_joined 193 = .ok (.lreturn, 1) := by decide +kernel
theorem d_X4_init_0 : decode cX4_init 0 = .ok (.aload_n 0, 1) ∧ 1 = 0 + 1 := by decide +kernel
theorem d_X4_init_1 : decode cX4_init 1 = .ok (.invokespecial 3, 3) ∧ 4 = 1 + 3 := by decide +kernel
theorem d_X4_init_4 : decode cX4_init 4 = .ok (.aload_n 0, 1) ∧ 5 = 4 + 1 := by decide +kernel
theorem d_X4_init_5 : decode cX4_init 5 = .ok (.bipush 8, 2) ∧ 7 = 5 + 2 := by decide +kernel
theorem d_X4_init_7 : decode cX4_init 7 = .ok (.newarray .int, 2) ∧ 9 = 7 + 2 := by decide +kernel
theorem d_X4_init_9 : decode cX4_init 9 = .ok (.putfield 9, 3) ∧ 12 = 9 + 3 := by decide +kernel
theorem d_X4_init_12 : decode cX4_init 12 = .ok (.aload_n 0, 1) ∧ 13 = 12 + 1 := by decide +kernel
theorem d_X4_init_13 : decode cX4_init 13 = .ok (.bipush 8, 2) ∧ 15 = 13 + 2 := by decide +kernel
theorem d_X4_init_15 : decode cX4_init 15 = .ok (.newarray .int, 2) ∧ 17 = 15 + 2 := by decide +kernel
theorem d_X4_init_17 : decode cX4_init 17 = .ok (.putfield 15, 3) ∧ 20 = 17 + 3 := by decide +kernel
theorem d_X4_init_20 : decode cX4_init 20 = .ok (.return_, 1) := by decide +kernel
theorem d_X4_add_0 : decode cX4_add 0 = .ok (.aload_n 0, 1) ∧ 1 = 0 + 1 := by decide +kernel
theorem d_X4_add_1 : decode cX4_add 1 = .ok (.getfield 18, 3) ∧ 4 = 1 + 3 := by decide +kernel
theorem d_X4_add_4 : decode cX4_add 4 = .ok (.bipush 8, 2) ∧ 6 = 4 + 2 := by decide +kernel
theorem d_X4_add_6 : decode cX4_add 6 = .ok (.if_icmp .lt 5, 3) ∧ 9 = 6 + 3 ∧ (6 : Int) + 5 = ((11 : Nat) : Int) := by decide +kernel
theorem d_X4_add_9 : decode cX4_add 9 = .ok (.iconst (-1), 1) ∧ 10 = 9 + 1 := by decide +kernel
theorem d_X4_add_10 : decode cX4_add 10 = .ok (.ireturn, 1) := by decide +kernel
theorem d_X4_add_11 : decode cX4_add 11 = .ok (.aload_n 0, 1) ∧ 12 = 11 + 1 := by decide +kernel
theorem d_X4_add_12 : decode cX4_add 12 = .ok (.getfield 9, 3) ∧ 15 = 12 + 3 := by decide +kernel
theorem d_X4_add_15 : decode cX4_add 15 = .ok (.aload_n 0, 1) ∧ 16 = 15 + 1 := by decide +kernel
theorem d_X4_add_16 : decode cX4_add 16 = .ok (.getfield 18, 3) ∧ 19 = 16 + 3 := by decide +kernel
theorem d_X4_add_19 : decode cX4_add 19 = .ok (.iload_n 1, 1) ∧ 20 = 19 + 1 := by decide +kernel
theorem d_X4_add_20 : decode cX4_add 20 = .ok (.iastore, 1) ∧ 21 = 20 + 1 := by decide +kernel
theorem d_X4_add_21 : decode cX4_add 21 = .ok (.aload_n 0, 1) ∧ 22 = 21 + 1 := by decide +kernel
theorem d_X4_add_22 : decode cX4_add 22 = .ok (.getfield 15, 3) ∧ 25 = 22 + 3 := by decide +kernel
theorem d_X4_add_25 : decode cX4_add 25 = .ok (.aload_n 0, 1) ∧ 26 = 25 + 1 := by decide +kernel
theorem d_X4_add_26 : decode cX4_add 26 = .ok (.getfield 18, 3) ∧ 29 = 26 + 3 := by decide +kernel
theorem d_X4_add_29 : decode cX4_add 29 = .ok (.iload_n 2, 1) ∧ 30 = 29 + 1 := by decide +kernel
theorem d_X4_add_30 : decode cX4_add 30 = .ok (.iastore, 1) ∧ 31 = 30 + 1 := by decide +kernel
theorem d_X4_add_31 : decode cX4_add 31 = .ok (.aload_n 0, 1) ∧ 32 = 31 + 1 := by decide +kernel
theorem d_X4_add_32 : decode cX4_add 32 = .ok (.dup, 1) ∧ 33 = 32 + 1 := by decide +kernel
theorem d_X4_add_33 : decode cX4_add 33 = .ok (.getfield 18, 3) ∧ 36 = 33 + 3 := by decide +kernel
theorem d_X4_add_36 : decode cX4_add 36 = .ok (.iconst 1, 1) ∧ 37 = 36 + 1 := by decide +kernel
theorem d_X4_add_37 : decode cX4_add 37 = .ok (.iadd, 1) ∧ 38 = 37 + 1 := by decide +kernel
theorem d_X4_add_38 : decode cX4_add 38 = .ok (.putfield 18, 3) ∧ 41 = 38 + 3 := by decide +kernel
theorem d_X4_add_41 : decode cX4_add 41 = .ok (.aload_n 0, 1) ∧ 42 = 41 + 1 := by decide +kernel
theorem d_X4_add_42 : decode cX4_add 42 = .ok (.getfield 18, 3) ∧ 45 = 42 + 3 := by decide +kernel
theorem d_X4_add_45 : decode cX4_add 45 = .ok (.ireturn, 1) := by decide +kernel
theorem d_X4_through_0 : decode cX4_through 0 = .ok (.iload_n 1, 1) ∧ 1 = 0 + 1 := by decide +kernel
theorem d_X4_through_1 : decode cX4_through 1 = .ok (.i2l, 1) ∧ 2 = 1 + 1 := by decide +kernel
theorem d_X4_through_2 : decode cX4_through 2 = .ok (.lstore_n 3, 1) ∧ 3 = 2 + 1 := by decide +kernel
theorem d_X4_through_3 : decode cX4_through 3 = .ok (.iload_n 1, 1) ∧ 4 = 3 + 1 := by decide +kernel
theorem d_X4_through_4 : decode cX4_through 4 = .ok (.i2l, 1) ∧ 5 = 4 + 1 := by decide +kernel
theorem d_X4_through_5 : decode cX4_through 5 = .ok (.lstore 5, 2) ∧ 7 = 5 + 2 := by decide +kernel
theorem d_X4_through_7 : decode cX4_through 7 = .ok (.iconst 0, 1) ∧ 8 = 7 + 1 := by decide +kernel
theorem d_X4_through_8 : decode cX4_through 8 = .ok (.istore 7, 2) ∧ 10 = 8 + 2 := by decide +kernel
theorem d_X4_through_10 : decode cX4_through 10 = .ok (.iload 7, 2) ∧ 12 = 10 + 2 := by decide +kernel
theorem d_X4_through_12 : decode cX4_through 12 = .ok (.aload_n 0, 1) ∧ 13 = 12 + 1 := by decide +kernel
theorem d_X4_through_13 : decode cX4_through 13 = .ok (.getfield 18, 3) ∧ 16 = 13 + 3 := by decide +kernel
theorem d_X4_through_16 : decode cX4_through 16 = .ok (.if_icmp .ge 112, 3) ∧ 19 = 16 + 3 ∧ (16 : Int) + 112 = ((128 : Nat) : Int) := by decide +kernel
theorem d_X4_through_19 : decode cX4_through 19 = .ok (.lload_n 3, 1) ∧ 20 = 19 + 1 := by decide +kernel
theorem d_X4_through_20 : decode cX4_through 20 = .ok (.aload_n 0, 1) ∧ 21 = 20 + 1 := by decide +kernel
theorem d_X4_through_21 : decode cX4_through 21 = .ok (.getfield 9, 3) ∧ 24 = 21 + 3 := by decide +kernel
theorem d_X4_through_24 : decode cX4_through 24 = .ok (.iload 7, 2) ∧ 26 = 24 + 2 := by decide +kernel
theorem d_X4_through_26 : decode cX4_through 26 = .ok (.iaload, 1) ∧ 27 = 26 + 1 := by decide +kernel
theorem d_X4_through_27 : decode cX4_through 27 = .ok (.i2l, 1) ∧ 28 = 27 + 1 := by decide +kernel
theorem d_X4_through_28 : decode cX4_through 28 = .ok (.lmul, 1) ∧ 29 = 28 + 1 := by decide +kernel
theorem d_X4_through_29 : decode cX4_through 29 = .ok (.ldc2_w 22, 3) ∧ 32 = 29 + 3 := by decide +kernel
theorem d_X4_through_32 : decode cX4_through 32 = .ok (.ldiv, 1) ∧ 33 = 32 + 1 := by decide +kernel
theorem d_X4_through_33 : decode cX4_through 33 = .ok (.lstore 8, 2) ∧ 35 = 33 + 2 := by decide +kernel
theorem d_X4_through_35 : decode cX4_through 35 = .ok (.lload_n 3, 1) ∧ 36 = 35 + 1 := by decide +kernel
theorem d_X4_through_36 : decode cX4_through 36 = .ok (.aload_n 0, 1) ∧ 37 = 36 + 1 := by decide +kernel
theorem d_X4_through_37 : decode cX4_through 37 = .ok (.getfield 15, 3) ∧ 40 = 37 + 3 := by decide +kernel
theorem d_X4_through_40 : decode cX4_through 40 = .ok (.iload 7, 2) ∧ 42 = 40 + 2 := by decide +kernel
theorem d_X4_through_42 : decode cX4_through 42 = .ok (.iaload, 1) ∧ 43 = 42 + 1 := by decide +kernel
theorem d_X4_through_43 : decode cX4_through 43 = .ok (.i2l, 1) ∧ 44 = 43 + 1 := by decide +kernel
theorem d_X4_through_44 : decode cX4_through 44 = .ok (.lmul, 1) ∧ 45 = 44 + 1 := by decide +kernel
theorem d_X4_through_45 : decode cX4_through 45 = .ok (.ldc2_w 22, 3) ∧ 48 = 45 + 3 := by decide +kernel
theorem d_X4_through_48 : decode cX4_through 48 = .ok (.ldiv, 1) ∧ 49 = 48 + 1 := by decide +kernel
theorem d_X4_through_49 : decode cX4_through 49 = .ok (.lstore 10, 2) ∧ 51 = 49 + 2 := by decide +kernel
theorem d_X4_through_51 : decode cX4_through 51 = .ok (.lload 5, 2) ∧ 53 = 51 + 2 := by decide +kernel
theorem d_X4_through_53 : decode cX4_through 53 = .ok (.aload_n 0, 1) ∧ 54 = 53 + 1 := by decide +kernel
theorem d_X4_through_54 : decode cX4_through 54 = .ok (.getfield 9, 3) ∧ 57 = 54 + 3 := by decide +kernel
theorem d_X4_through_57 : decode cX4_through 57 = .ok (.iload 7, 2) ∧ 59 = 57 + 2 := by decide +kernel
theorem d_X4_through_59 : decode cX4_through 59 = .ok (.iaload, 1) ∧ 60 = 59 + 1 := by decide +kernel
theorem d_X4_through_60 : decode cX4_through 60 = .ok (.i2l, 1) ∧ 61 = 60 + 1 := by decide +kernel
theorem d_X4_through_61 : decode cX4_through 61 = .ok (.lmul, 1) ∧ 62 = 61 + 1 := by decide +kernel
theorem d_X4_through_62 : decode cX4_through 62 = .ok (.ldc2_w 22, 3) ∧ 65 = 62 + 3 := by decide +kernel
theorem d_X4_through_65 : decode cX4_through 65 = .ok (.ldiv, 1) ∧ 66 = 65 + 1 := by decide +kernel
theorem d_X4_through_66 : decode cX4_through 66 = .ok (.lstore 12, 2) ∧ 68 = 66 + 2 := by decide +kernel
theorem d_X4_through_68 : decode cX4_through 68 = .ok (.lload 5, 2) ∧ 70 = 68 + 2 := by decide +kernel
theorem d_X4_through_70 : decode cX4_through 70 = .ok (.aload_n 0, 1) ∧ 71 = 70 + 1 := by decide +kernel
theorem d_X4_through_71 : decode cX4_through 71 = .ok (.getfield 15, 3) ∧ 74 = 71 + 3 := by decide +kernel
theorem d_X4_through_74 : decode cX4_through 74 = .ok (.iload 7, 2) ∧ 76 = 74 + 2 := by decide +kernel
theorem d_X4_through_76 : decode cX4_through 76 = .ok (.iaload, 1) ∧ 77 = 76 + 1 := by decide +kernel
theorem d_X4_through_77 : decode cX4_through 77 = .ok (.i2l, 1) ∧ 78 = 77 + 1 := by decide +kernel
theorem d_X4_through_78 : decode cX4_through 78 = .ok (.lmul, 1) ∧ 79 = 78 + 1 := by decide +kernel
theorem d_X4_through_79 : decode cX4_through 79 = .ok (.ldc2_w 22, 3) ∧ 82 = 79 + 3 := by decide +kernel
theorem d_X4_through_82 : decode cX4_through 82 = .ok (.ldiv, 1) ∧ 83 = 82 + 1 := by decide +kernel
theorem d_X4_through_83 : decode cX4_through 83 = .ok (.lstore 14, 2) ∧ 85 = 83 + 2 := by decide +kernel
theorem d_X4_through_85 : decode cX4_through 85 = .ok (.lload 8, 2) ∧ 87 = 85 + 2 := by decide +kernel
theorem d_X4_through_87 : decode cX4_through 87 = .ok (.lload 10, 2) ∧ 89 = 87 + 2 := by decide +kernel
theorem d_X4_through_89 : decode cX4_through 89 = .ok (.invokestatic 24, 3) ∧ 92 = 89 + 3 := by decide +kernel
theorem d_X4_through_92 : decode cX4_through 92 = .ok (.lload 12, 2) ∧ 94 = 92 + 2 := by decide +kernel
theorem d_X4_through_94 : decode cX4_through 94 = .ok (.lload 14, 2) ∧ 96 = 94 + 2 := by decide +kernel
theorem d_X4_through_96 : decode cX4_through 96 = .ok (.invokestatic 24, 3) ∧ 99 = 96 + 3 := by decide +kernel
theorem d_X4_through_99 : decode cX4_through 99 = .ok (.invokestatic 24, 3) ∧ 102 = 99 + 3 := by decide +kernel
theorem d_X4_through_102 : decode cX4_through 102 = .ok (.lstore_n 3, 1) ∧ 103 = 102 + 1 := by decide +kernel
theorem d_X4_through_103 : decode cX4_through 103 = .ok (.lload 8, 2) ∧ 105 = 103 + 2 := by decide +kernel
theorem d_X4_through_105 : decode cX4_through 105 = .ok (.lload 10, 2) ∧ 107 = 105 + 2 := by decide +kernel
theorem d_X4_through_107 : decode cX4_through 107 = .ok (.invokestatic 30, 3) ∧ 110 = 107 + 3 := by decide +kernel
theorem d_X4_through_110 : decode cX4_through 110 = .ok (.lload 12, 2) ∧ 112 = 110 + 2 := by decide +kernel
theorem d_X4_through_112 : decode cX4_through 112 = .ok (.lload 14, 2) ∧ 114 = 112 + 2 := by decide +kernel
theorem d_X4_through_114 : decode cX4_through 114 = .ok (.invokestatic 30, 3) ∧ 117 = 114 + 3 := by decide +kernel
theorem d_X4_through_117 : decode cX4_through 117 = .ok (.invokestatic 30, 3) ∧ 120 = 117 + 3 := by decide +kernel
theorem d_X4_through_120 : decode cX4_through 120 = .ok (.lstore 5, 2) ∧ 122 = 120 + 2 := by decide +kernel
theorem d_X4_through_122 : decode cX4_through 122 = .ok (.iinc 7 1, 3) ∧ 125 = 122 + 3 := by decide +kernel
theorem d_X4_through_125 : decode cX4_through 125 = .ok (.goto (-115), 3) ∧ (125 : Int) + ((-115)) = ((10 : Nat) : Int) := by decide +kernel
theorem d_X4_through_128 : decode cX4_through 128 = .ok (.iload_n 2, 1) ∧ 129 = 128 + 1 := by decide +kernel
theorem d_X4_through_129 : decode cX4_through 129 = .ok (.ifCond .eq 8, 3) ∧ 132 = 129 + 3 ∧ (129 : Int) + 8 = ((137 : Nat) : Int) := by decide +kernel
theorem d_X4_through_132 : decode cX4_through 132 = .ok (.lload 5, 2) ∧ 134 = 132 + 2 := by decide +kernel
theorem d_X4_through_134 : decode cX4_through 134 = .ok (.goto 4, 3) ∧ (134 : Int) + (4) = ((138 : Nat) : Int) := by decide +kernel
theorem d_X4_through_137 : decode cX4_through 137 = .ok (.lload_n 3, 1) ∧ 138 = 137 + 1 := by decide +kernel
theorem d_X4_through_138 : decode cX4_through 138 = .ok (.l2i, 1) ∧ 139 = 138 + 1 := by decide +kernel
theorem d_X4_through_139 : decode cX4_through 139 = .ok (.ireturn, 1) := by decide +kernel
theorem d_X5_init_0 : decode cX5_init 0 = .ok (.aload_n 0, 1) ∧ 1 = 0 + 1 := by decide +kernel
theorem d_X5_init_1 : decode cX5_init 1 = .ok (.invokespecial 3, 3) ∧ 4 = 1 + 3 := by decide +kernel
theorem d_X5_init_4 : decode cX5_init 4 = .ok (.aload_n 0, 1) ∧ 5 = 4 + 1 := by decide +kernel
theorem d_X5_init_5 : decode cX5_init 5 = .ok (.bipush 20, 2) ∧ 7 = 5 + 2 := by decide +kernel
theorem d_X5_init_7 : decode cX5_init 7 = .ok (.newarray .int, 2) ∧ 9 = 7 + 2 := by decide +kernel
theorem d_X5_init_9 : decode cX5_init 9 = .ok (.putfield 9, 3) ∧ 12 = 9 + 3 := by decide +kernel
theorem d_X5_init_12 : decode cX5_init 12 = .ok (.aload_n 0, 1) ∧ 13 = 12 + 1 := by decide +kernel
theorem d_X5_init_13 : decode cX5_init 13 = .ok (.bipush 20, 2) ∧ 15 = 13 + 2 := by decide +kernel
theorem d_X5_init_15 : decode cX5_init 15 = .ok (.newarray .int, 2) ∧ 17 = 15 + 2 := by decide +kernel
theorem d_X5_init_17 : decode cX5_init 17 = .ok (.putfield 15, 3) ∧ 20 = 17 + 3 := by decide +kernel
theorem d_X5_init_20 : decode cX5_init 20 = .ok (.aload_n 0, 1) ∧ 21 = 20 + 1 := by decide +kernel
theorem d_X5_init_21 : decode cX5_init 21 = .ok (.bipush 12, 2) ∧ 23 = 21 + 2 := by decide +kernel
theorem d_X5_init_23 : decode cX5_init 23 = .ok (.newarray .int, 2) ∧ 25 = 23 + 2 := by decide +kernel
theorem d_X5_init_25 : decode cX5_init 25 = .ok (.putfield 18, 3) ∧ 28 = 25 + 3 := by decide +kernel
theorem d_X5_init_28 : decode cX5_init 28 = .ok (.aload_n 0, 1) ∧ 29 = 28 + 1 := by decide +kernel
theorem d_X5_init_29 : decode cX5_init 29 = .ok (.bipush 12, 2) ∧ 31 = 29 + 2 := by decide +kernel
theorem d_X5_init_31 : decode cX5_init 31 = .ok (.newarray .int, 2) ∧ 33 = 31 + 2 := by decide +kernel
theorem d_X5_init_33 : decode cX5_init 33 = .ok (.putfield 21, 3) ∧ 36 = 33 + 3 := by decide +kernel
theorem d_X5_init_36 : decode cX5_init 36 = .ok (.return_, 1) := by decide +kernel
theorem d_X5_add_0 : decode cX5_add 0 = .ok (.aload_n 0, 1) ∧ 1 = 0 + 1 := by decide +kernel
theorem d_X5_add_1 : decode cX5_add 1 = .ok (.getfield 24, 3) ∧ 4 = 1 + 3 := by decide +kernel
theorem d_X5_add_4 : decode cX5_add 4 = .ok (.bipush 20, 2) ∧ 6 = 4 + 2 := by decide +kernel
theorem d_X5_add_6 : decode cX5_add 6 = .ok (.if_icmp .lt 5, 3) ∧ 9 = 6 + 3 ∧ (6 : Int) + 5 = ((11 : Nat) : Int) := by decide +kernel
theorem d_X5_add_9 : decode cX5_add 9 = .ok (.iconst (-1), 1) ∧ 10 = 9 + 1 := by decide +kernel
theorem d_X5_add_10 : decode cX5_add 10 = .ok (.ireturn, 1) := by decide +kernel
theorem d_X5_add_11 : decode cX5_add 11 = .ok (.iconst 0, 1) ∧ 12 = 11 + 1 := by decide +kernel
theorem d_X5_add_12 : decode cX5_add 12 = .ok (.istore_n 3, 1) ∧ 13 = 12 + 1 := by decide +kernel
theorem d_X5_add_13 : decode cX5_add 13 = .ok (.iload_n 3, 1) ∧ 14 = 13 + 1 := by decide +kernel
theorem d_X5_add_14 : decode cX5_add 14 = .ok (.aload_n 0, 1) ∧ 15 = 14 + 1 := by decide +kernel
theorem d_X5_add_15 : decode cX5_add 15 = .ok (.getfield 24, 3) ∧ 18 = 15 + 3 := by decide +kernel
theorem d_X5_add_18 : decode cX5_add 18 = .ok (.if_icmp .ge 31, 3) ∧ 21 = 18 + 3 ∧ (18 : Int) + 31 = ((49 : Nat) : Int) := by decide +kernel
theorem d_X5_add_21 : decode cX5_add 21 = .ok (.aload_n 0, 1) ∧ 22 = 21 + 1 := by decide +kernel
theorem d_X5_add_22 : decode cX5_add 22 = .ok (.getfield 9, 3) ∧ 25 = 22 + 3 := by decide +kernel
theorem d_X5_add_25 : decode cX5_add 25 = .ok (.iload_n 3, 1) ∧ 26 = 25 + 1 := by decide +kernel
theorem d_X5_add_26 : decode cX5_add 26 = .ok (.iaload, 1) ∧ 27 = 26 + 1 := by decide +kernel
theorem d_X5_add_27 : decode cX5_add 27 = .ok (.iload_n 1, 1) ∧ 28 = 27 + 1 := by decide +kernel
theorem d_X5_add_28 : decode cX5_add 28 = .ok (.if_icmp .ne 15, 3) ∧ 31 = 28 + 3 ∧ (28 : Int) + 15 = ((43 : Nat) : Int) := by decide +kernel
theorem d_X5_add_31 : decode cX5_add 31 = .ok (.aload_n 0, 1) ∧ 32 = 31 + 1 := by decide +kernel
theorem d_X5_add_32 : decode cX5_add 32 = .ok (.getfield 15, 3) ∧ 35 = 32 + 3 := by decide +kernel
theorem d_X5_add_35 : decode cX5_add 35 = .ok (.iload_n 3, 1) ∧ 36 = 35 + 1 := by decide +kernel
theorem d_X5_add_36 : decode cX5_add 36 = .ok (.iaload, 1) ∧ 37 = 36 + 1 := by decide +kernel
theorem d_X5_add_37 : decode cX5_add 37 = .ok (.iload_n 2, 1) ∧ 38 = 37 + 1 := by decide +kernel
theorem d_X5_add_38 : decode cX5_add 38 = .ok (.if_icmp .ne 5, 3) ∧ 41 = 38 + 3 ∧ (38 : Int) + 5 = ((43 : Nat) : Int) := by decide +kernel
theorem d_X5_add_41 : decode cX5_add 41 = .ok (.iconst (-1), 1) ∧ 42 = 41 + 1 := by decide +kernel
theorem d_X5_add_42 : decode cX5_add 42 = .ok (.ireturn, 1) := by decide +kernel
theorem d_X5_add_43 : decode cX5_add 43 = .ok (.iinc 3 1, 3) ∧ 46 = 43 + 3 := by decide +kernel
theorem d_X5_add_46 : decode cX5_add 46 = .ok (.goto (-33), 3) ∧ (46 : Int) + ((-33)) = ((13 : Nat) : Int) := by decide +kernel
theorem d_X5_add_49 : decode cX5_add 49 = .ok (.aload_n 0, 1) ∧ 50 = 49 + 1 := by decide +kernel
theorem d_X5_add_50 : decode cX5_add 50 = .ok (.getfield 9, 3) ∧ 53 = 50 + 3 := by decide +kernel
theorem d_X5_add_53 : decode cX5_add 53 = .ok (.aload_n 0, 1) ∧ 54 = 53 + 1 := by decide +kernel
theorem d_X5_add_54 : decode cX5_add 54 = .ok (.getfield 24, 3) ∧ 57 = 54 + 3 := by decide +kernel
theorem d_X5_add_57 : decode cX5_add 57 = .ok (.iload_n 1, 1) ∧ 58 = 57 + 1 := by decide +kernel
theorem d_X5_add_58 : decode cX5_add 58 = .ok (.iastore, 1) ∧ 59 = 58 + 1 := by decide +kernel
theorem d_X5_add_59 : decode cX5_add 59 = .ok (.aload_n 0, 1) ∧ 60 = 59 + 1 := by decide +kernel
theorem d_X5_add_60 : decode cX5_add 60 = .ok (.getfield 15, 3) ∧ 63 = 60 + 3 := by decide +kernel
theorem d_X5_add_63 : decode cX5_add 63 = .ok (.aload_n 0, 1) ∧ 64 = 63 + 1 := by decide +kernel
theorem d_X5_add_64 : decode cX5_add 64 = .ok (.getfield 24, 3) ∧ 67 = 64 + 3 := by decide +kernel
theorem d_X5_add_67 : decode cX5_add 67 = .ok (.iload_n 2, 1) ∧ 68 = 67 + 1 := by decide +kernel
theorem d_X5_add_68 : decode cX5_add 68 = .ok (.iastore, 1) ∧ 69 = 68 + 1 := by decide +kernel
theorem d_X5_add_69 : decode cX5_add 69 = .ok (.aload_n 0, 1) ∧ 70 = 69 + 1 := by decide +kernel
theorem d_X5_add_70 : decode cX5_add 70 = .ok (.dup, 1) ∧ 71 = 70 + 1 := by decide +kernel
theorem d_X5_add_71 : decode cX5_add 71 = .ok (.getfield 24, 3) ∧ 74 = 71 + 3 := by decide +kernel
theorem d_X5_add_74 : decode cX5_add 74 = .ok (.iconst 1, 1) ∧ 75 = 74 + 1 := by decide +kernel
theorem d_X5_add_75 : decode cX5_add 75 = .ok (.iadd, 1) ∧ 76 = 75 + 1 := by decide +kernel
theorem d_X5_add_76 : decode cX5_add 76 = .ok (.putfield 24, 3) ∧ 79 = 76 + 3 := by decide +kernel
theorem d_X5_add_79 : decode cX5_add 79 = .ok (.aload_n 0, 1) ∧ 80 = 79 + 1 := by decide +kernel
theorem d_X5_add_80 : decode cX5_add 80 = .ok (.getfield 24, 3) ∧ 83 = 80 + 3 := by decide +kernel
theorem d_X5_add_83 : decode cX5_add 83 = .ok (.ireturn, 1) := by decide +kernel
theorem d_X5_walk_0 : decode cX5_walk 0 = .ok (.aload_n 0, 1) ∧ 1 = 0 + 1 := by decide +kernel
theorem d_X5_walk_1 : decode cX5_walk 1 = .ok (.iconst (-1), 1) ∧ 2 = 1 + 1 := by decide +kernel
theorem d_X5_walk_2 : decode cX5_walk 2 = .ok (.putfield 28, 3) ∧ 5 = 2 + 3 := by decide +kernel
theorem d_X5_walk_5 : decode cX5_walk 5 = .ok (.aload_n 0, 1) ∧ 6 = 5 + 1 := by decide +kernel
theorem d_X5_walk_6 : decode cX5_walk 6 = .ok (.iconst 0, 1) ∧ 7 = 6 + 1 := by decide +kernel
theorem d_X5_walk_7 : decode cX5_walk 7 = .ok (.putfield 31, 3) ∧ 10 = 7 + 3 := by decide +kernel
theorem d_X5_walk_10 : decode cX5_walk 10 = .ok (.aload_n 0, 1) ∧ 11 = 10 + 1 := by decide +kernel
theorem d_X5_walk_11 : decode cX5_walk 11 = .ok (.getfield 18, 3) ∧ 14 = 11 + 3 := by decide +kernel
theorem d_X5_walk_14 : decode cX5_walk 14 = .ok (.iconst 0, 1) ∧ 15 = 14 + 1 := by decide +kernel
theorem d_X5_walk_15 : decode cX5_walk 15 = .ok (.invokestatic 34, 3) ∧ 18 = 15 + 3 := by decide +kernel
theorem d_X5_walk_18 : decode cX5_walk 18 = .ok (.iload_n 1, 1) ∧ 19 = 18 + 1 := by decide +kernel
theorem d_X5_walk_19 : decode cX5_walk 19 = .ok (.ifCond .lt 25, 3) ∧ 22 = 19 + 3 ∧ (19 : Int) + 25 = ((44 : Nat) : Int) := by decide +kernel
theorem d_X5_walk_22 : decode cX5_walk 22 = .ok (.iload_n 1, 1) ∧ 23 = 22 + 1 := by decide +kernel
theorem d_X5_walk_23 : decode cX5_walk 23 = .ok (.aload_n 0, 1) ∧ 24 = 23 + 1 := by decide +kernel
theorem d_X5_walk_24 : decode cX5_walk 24 = .ok (.getfield 18, 3) ∧ 27 = 24 + 3 := by decide +kernel
theorem d_X5_walk_27 : decode cX5_walk 27 = .ok (.arraylength, 1) ∧ 28 = 27 + 1 := by decide +kernel
theorem d_X5_walk_28 : decode cX5_walk 28 = .ok (.if_icmp .ge 16, 3) ∧ 31 = 28 + 3 ∧ (28 : Int) + 16 = ((44 : Nat) : Int) := by decide +kernel
theorem d_X5_walk_31 : decode cX5_walk 31 = .ok (.iload_n 2, 1) ∧ 32 = 31 + 1 := by decide +kernel
theorem d_X5_walk_32 : decode cX5_walk 32 = .ok (.ifCond .lt 12, 3) ∧ 35 = 32 + 3 ∧ (32 : Int) + 12 = ((44 : Nat) : Int) := by decide +kernel
theorem d_X5_walk_35 : decode cX5_walk 35 = .ok (.iload_n 2, 1) ∧ 36 = 35 + 1 := by decide +kernel
theorem d_X5_walk_36 : decode cX5_walk 36 = .ok (.aload_n 0, 1) ∧ 37 = 36 + 1 := by decide +kernel
theorem d_X5_walk_37 : decode cX5_walk 37 = .ok (.getfield 18, 3) ∧ 40 = 37 + 3 := by decide +kernel
theorem d_X5_walk_40 : decode cX5_walk 40 = .ok (.arraylength, 1) ∧ 41 = 40 + 1 := by decide +kernel
theorem d_X5_walk_41 : decode cX5_walk 41 = .ok (.if_icmp .lt 4, 3) ∧ 44 = 41 + 3 ∧ (41 : Int) + 4 = ((45 : Nat) : Int) := by decide +kernel
theorem d_X5_walk_44 : decode cX5_walk 44 = .ok (.return_, 1) := by decide +kernel
theorem d_X5_walk_45 : decode cX5_walk 45 = .ok (.aload_n 0, 1) ∧ 46 = 45 + 1 := by decide +kernel
theorem d_X5_walk_46 : decode cX5_walk 46 = .ok (.getfield 18, 3) ∧ 49 = 46 + 3 := by decide +kernel
theorem d_X5_walk_49 : decode cX5_walk 49 = .ok (.iload_n 1, 1) ∧ 50 = 49 + 1 := by decide +kernel
theorem d_X5_walk_50 : decode cX5_walk 50 = .ok (.iconst 1, 1) ∧ 51 = 50 + 1 := by decide +kernel
theorem d_X5_walk_51 : decode cX5_walk 51 = .ok (.iastore, 1) ∧ 52 = 51 + 1 := by decide +kernel
theorem d_X5_walk_52 : decode cX5_walk 52 = .ok (.iconst 0, 1) ∧ 53 = 52 + 1 := by decide +kernel
theorem d_X5_walk_53 : decode cX5_walk 53 = .ok (.istore_n 3, 1) ∧ 54 = 53 + 1 := by decide +kernel
theorem d_X5_walk_54 : decode cX5_walk 54 = .ok (.iload_n 3, 1) ∧ 55 = 54 + 1 := by decide +kernel
theorem d_X5_walk_55 : decode cX5_walk 55 = .ok (.bipush 12, 2) ∧ 57 = 55 + 2 := by decide +kernel
theorem d_X5_walk_57 : decode cX5_walk 57 = .ok (.if_icmp .ge 57, 3) ∧ 60 = 57 + 3 ∧ (57 : Int) + 57 = ((114 : Nat) : Int) := by decide +kernel
theorem d_X5_walk_60 : decode cX5_walk 60 = .ok (.aload_n 0, 1) ∧ 61 = 60 + 1 := by decide +kernel
theorem d_X5_walk_61 : decode cX5_walk 61 = .ok (.dup, 1) ∧ 62 = 61 + 1 := by decide +kernel
theorem d_X5_walk_62 : decode cX5_walk 62 = .ok (.getfield 31, 3) ∧ 65 = 62 + 3 := by decide +kernel
theorem d_X5_walk_65 : decode cX5_walk 65 = .ok (.aload_n 0, 1) ∧ 66 = 65 + 1 := by decide +kernel
theorem d_X5_walk_66 : decode cX5_walk 66 = .ok (.getfield 18, 3) ∧ 69 = 66 + 3 := by decide +kernel
theorem d_X5_walk_69 : decode cX5_walk 69 = .ok (.iload_n 2, 1) ∧ 70 = 69 + 1 := by decide +kernel
theorem d_X5_walk_70 : decode cX5_walk 70 = .ok (.iaload, 1) ∧ 71 = 70 + 1 := by decide +kernel
theorem d_X5_walk_71 : decode cX5_walk 71 = .ok (.iadd, 1) ∧ 72 = 71 + 1 := by decide +kernel
theorem d_X5_walk_72 : decode cX5_walk 72 = .ok (.putfield 31, 3) ∧ 75 = 72 + 3 := by decide +kernel
theorem d_X5_walk_75 : decode cX5_walk 75 = .ok (.aload_n 0, 1) ∧ 76 = 75 + 1 := by decide +kernel
theorem d_X5_walk_76 : decode cX5_walk 76 = .ok (.aload_n 0, 1) ∧ 77 = 76 + 1 := by decide +kernel
theorem d_X5_walk_77 : decode cX5_walk 77 = .ok (.getfield 28, 3) ∧ 80 = 77 + 3 := by decide +kernel
theorem d_X5_walk_80 : decode cX5_walk 80 = .ok (.iconst (-1), 1) ∧ 81 = 80 + 1 := by decide +kernel
theorem d_X5_walk_81 : decode cX5_walk 81 = .ok (.if_icmp .ne 16, 3) ∧ 84 = 81 + 3 ∧ (81 : Int) + 16 = ((97 : Nat) : Int) := by decide +kernel
theorem d_X5_walk_84 : decode cX5_walk 84 = .ok (.aload_n 0, 1) ∧ 85 = 84 + 1 := by decide +kernel
theorem d_X5_walk_85 : decode cX5_walk 85 = .ok (.getfield 18, 3) ∧ 88 = 85 + 3 := by decide +kernel
theorem d_X5_walk_88 : decode cX5_walk 88 = .ok (.iload_n 2, 1) ∧ 89 = 88 + 1 := by decide +kernel
theorem d_X5_walk_89 : decode cX5_walk 89 = .ok (.iaload, 1) ∧ 90 = 89 + 1 := by decide +kernel
theorem d_X5_walk_90 : decode cX5_walk 90 = .ok (.ifCond .le 7, 3) ∧ 93 = 90 + 3 ∧ (90 : Int) + 7 = ((97 : Nat) : Int) := by decide +kernel
theorem d_X5_walk_93 : decode cX5_walk 93 = .ok (.iload_n 3, 1) ∧ 94 = 93 + 1 := by decide +kernel
theorem d_X5_walk_94 : decode cX5_walk 94 = .ok (.goto 7, 3) ∧ (94 : Int) + (7) = ((101 : Nat) : Int) := by decide +kernel
theorem d_X5_walk_97 : decode cX5_walk 97 = .ok (.aload_n 0, 1) ∧ 98 = 97 + 1 := by decide +kernel
theorem d_X5_walk_98 : decode cX5_walk 98 = .ok (.getfield 28, 3) ∧ 101 = 98 + 3 := by decide +kernel
theorem d_X5_walk_101 : decode cX5_walk 101 = .ok (.putfield 28, 3) ∧ 104 = 101 + 3 := by decide +kernel
theorem d_X5_walk_104 : decode cX5_walk 104 = .ok (.aload_n 0, 1) ∧ 105 = 104 + 1 := by decide +kernel
theorem d_X5_walk_105 : decode cX5_walk 105 = .ok (.invokevirtual 40, 3) ∧ 108 = 105 + 3 := by decide +kernel
theorem d_X5_walk_108 : decode cX5_walk 108 = .ok (.iinc 3 1, 3) ∧ 111 = 108 + 3 := by decide +kernel
theorem d_X5_walk_111 : decode cX5_walk 111 = .ok (.goto (-57), 3) ∧ (111 : Int) + ((-57)) = ((54 : Nat) : Int) := by decide +kernel
theorem d_X5_walk_114 : decode cX5_walk 114 = .ok (.return_, 1) := by decide +kernel
theorem d_X5_goOn_0 : decode cX5_goOn 0 = .ok (.aload_n 0, 1) ∧ 1 = 0 + 1 := by decide +kernel
theorem d_X5_goOn_1 : decode cX5_goOn 1 = .ok (.getfield 21, 3) ∧ 4 = 1 + 3 := by decide +kernel
theorem d_X5_goOn_4 : decode cX5_goOn 4 = .ok (.iconst 0, 1) ∧ 5 = 4 + 1 := by decide +kernel
theorem d_X5_goOn_5 : decode cX5_goOn 5 = .ok (.invokestatic 34, 3) ∧ 8 = 5 + 3 := by decide +kernel
theorem d_X5_goOn_8 : decode cX5_goOn 8 = .ok (.iconst 0, 1) ∧ 9 = 8 + 1 := by decide +kernel
theorem d_X5_goOn_9 : decode cX5_goOn 9 = .ok (.istore_n 1, 1) ∧ 10 = 9 + 1 := by decide +kernel
theorem d_X5_goOn_10 : decode cX5_goOn 10 = .ok (.iload_n 1, 1) ∧ 11 = 10 + 1 := by decide +kernel
theorem d_X5_goOn_11 : decode cX5_goOn 11 = .ok (.aload_n 0, 1) ∧ 12 = 11 + 1 := by decide +kernel
theorem d_X5_goOn_12 : decode cX5_goOn 12 = .ok (.getfield 24, 3) ∧ 15 = 12 + 3 := by decide +kernel
theorem d_X5_goOn_15 : decode cX5_goOn 15 = .ok (.if_icmp .ge 64, 3) ∧ 18 = 15 + 3 ∧ (15 : Int) + 64 = ((79 : Nat) : Int) := by decide +kernel
theorem d_X5_goOn_18 : decode cX5_goOn 18 = .ok (.aload_n 0, 1) ∧ 19 = 18 + 1 := by decide +kernel
theorem d_X5_goOn_19 : decode cX5_goOn 19 = .ok (.getfield 9, 3) ∧ 22 = 19 + 3 := by decide +kernel
theorem d_X5_goOn_22 : decode cX5_goOn 22 = .ok (.iload_n 1, 1) ∧ 23 = 22 + 1 := by decide +kernel
theorem d_X5_goOn_23 : decode cX5_goOn 23 = .ok (.iaload, 1) ∧ 24 = 23 + 1 := by decide +kernel
theorem d_X5_goOn_24 : decode cX5_goOn 24 = .ok (.istore_n 2, 1) ∧ 25 = 24 + 1 := by decide +kernel
theorem d_X5_goOn_25 : decode cX5_goOn 25 = .ok (.aload_n 0, 1) ∧ 26 = 25 + 1 := by decide +kernel
theorem d_X5_goOn_26 : decode cX5_goOn 26 = .ok (.getfield 15, 3) ∧ 29 = 26 + 3 := by decide +kernel
theorem d_X5_goOn_29 : decode cX5_goOn 29 = .ok (.iload_n 1, 1) ∧ 30 = 29 + 1 := by decide +kernel
theorem d_X5_goOn_30 : decode cX5_goOn 30 = .ok (.iaload, 1) ∧ 31 = 30 + 1 := by decide +kernel
theorem d_X5_goOn_31 : decode cX5_goOn 31 = .ok (.istore_n 3, 1) ∧ 32 = 31 + 1 := by decide +kernel
theorem d_X5_goOn_32 : decode cX5_goOn 32 = .ok (.iload_n 2, 1) ∧ 33 = 32 + 1 := by decide +kernel
theorem d_X5_goOn_33 : decode cX5_goOn 33 = .ok (.ifCond .lt 40, 3) ∧ 36 = 33 + 3 ∧ (33 : Int) + 40 = ((73 : Nat) : Int) := by decide +kernel
theorem d_X5_goOn_36 : decode cX5_goOn 36 = .ok (.iload_n 2, 1) ∧ 37 = 36 + 1 := by decide +kernel
theorem d_X5_goOn_37 : decode cX5_goOn 37 = .ok (.aload_n 0, 1) ∧ 38 = 37 + 1 := by decide +kernel
theorem d_X5_goOn_38 : decode cX5_goOn 38 = .ok (.getfield 18, 3) ∧ 41 = 38 + 3 := by decide +kernel
theorem d_X5_goOn_41 : decode cX5_goOn 41 = .ok (.arraylength, 1) ∧ 42 = 41 + 1 := by decide +kernel
theorem d_X5_goOn_42 : decode cX5_goOn 42 = .ok (.if_icmp .ge 31, 3) ∧ 45 = 42 + 3 ∧ (42 : Int) + 31 = ((73 : Nat) : Int) := by decide +kernel
theorem d_X5_goOn_45 : decode cX5_goOn 45 = .ok (.iload_n 3, 1) ∧ 46 = 45 + 1 := by decide +kernel
theorem d_X5_goOn_46 : decode cX5_goOn 46 = .ok (.ifCond .lt 27, 3) ∧ 49 = 46 + 3 ∧ (46 : Int) + 27 = ((73 : Nat) : Int) := by decide +kernel
theorem d_X5_goOn_49 : decode cX5_goOn 49 = .ok (.iload_n 3, 1) ∧ 50 = 49 + 1 := by decide +kernel
theorem d_X5_goOn_50 : decode cX5_goOn 50 = .ok (.aload_n 0, 1) ∧ 51 = 50 + 1 := by decide +kernel
theorem d_X5_goOn_51 : decode cX5_goOn 51 = .ok (.getfield 21, 3) ∧ 54 = 51 + 3 := by decide +kernel
theorem d_X5_goOn_54 : decode cX5_goOn 54 = .ok (.arraylength, 1) ∧ 55 = 54 + 1 := by decide +kernel
theorem d_X5_goOn_55 : decode cX5_goOn 55 = .ok (.if_icmp .ge 18, 3) ∧ 58 = 55 + 3 ∧ (55 : Int) + 18 = ((73 : Nat) : Int) := by decide +kernel
theorem d_X5_goOn_58 : decode cX5_goOn 58 = .ok (.aload_n 0, 1) ∧ 59 = 58 + 1 := by decide +kernel
theorem d_X5_goOn_59 : decode cX5_goOn 59 = .ok (.getfield 21, 3) ∧ 62 = 59 + 3 := by decide +kernel
theorem d_X5_goOn_62 : decode cX5_goOn 62 = .ok (.iload_n 3, 1) ∧ 63 = 62 + 1 := by decide +kernel
theorem d_X5_goOn_63 : decode cX5_goOn 63 = .ok (.dup2, 1) ∧ 64 = 63 + 1 := by decide +kernel
theorem d_X5_goOn_64 : decode cX5_goOn 64 = .ok (.iaload, 1) ∧ 65 = 64 + 1 := by decide +kernel
theorem d_X5_goOn_65 : decode cX5_goOn 65 = .ok (.aload_n 0, 1) ∧ 66 = 65 + 1 := by decide +kernel
theorem d_X5_goOn_66 : decode cX5_goOn 66 = .ok (.getfield 18, 3) ∧ 69 = 66 + 3 := by decide +kernel
theorem d_X5_goOn_69 : decode cX5_goOn 69 = .ok (.iload_n 2, 1) ∧ 70 = 69 + 1 := by decide +kernel
theorem d_X5_goOn_70 : decode cX5_goOn 70 = .ok (.iaload, 1) ∧ 71 = 70 + 1 := by decide +kernel
theorem d_X5_goOn_71 : decode cX5_goOn 71 = .ok (.iadd, 1) ∧ 72 = 71 + 1 := by decide +kernel
theorem d_X5_goOn_72 : decode cX5_goOn 72 = .ok (.iastore, 1) ∧ 73 = 72 + 1 := by decide +kernel
theorem d_X5_goOn_73 : decode cX5_goOn 73 = .ok (.iinc 1 1, 3) ∧ 76 = 73 + 3 := by decide +kernel
theorem d_X5_goOn_76 : decode cX5_goOn 76 = .ok (.goto (-66), 3) ∧ (76 : Int) + ((-66)) = ((10 : Nat) : Int) := by decide +kernel
theorem d_X5_goOn_79 : decode cX5_goOn 79 = .ok (.aload_n 0, 1) ∧ 80 = 79 + 1 := by decide +kernel
theorem d_X5_goOn_80 : decode cX5_goOn 80 = .ok (.getfield 18, 3) ∧ 83 = 80 + 3 := by decide +kernel
theorem d_X5_goOn_83 : decode cX5_goOn 83 = .ok (.astore_n 1, 1) ∧ 84 = 83 + 1 := by decide +kernel
theorem d_X5_goOn_84 : decode cX5_goOn 84 = .ok (.aload_n 0, 1) ∧ 85 = 84 + 1 := by decide +kernel
theorem d_X5_goOn_85 : decode cX5_goOn 85 = .ok (.aload_n 0, 1) ∧ 86 = 85 + 1 := by decide +kernel
theorem d_X5_goOn_86 : decode cX5_goOn 86 = .ok (.getfield 21, 3) ∧ 89 = 86 + 3 := by decide +kernel
theorem d_X5_goOn_89 : decode cX5_goOn 89 = .ok (.putfield 18, 3) ∧ 92 = 89 + 3 := by decide +kernel
theorem d_X5_goOn_92 : decode cX5_goOn 92 = .ok (.aload_n 0, 1) ∧ 93 = 92 + 1 := by decide +kernel
theorem d_X5_goOn_93 : decode cX5_goOn 93 = .ok (.aload_n 1, 1) ∧ 94 = 93 + 1 := by decide +kernel
theorem d_X5_goOn_94 : decode cX5_goOn 94 = .ok (.putfield 21, 3) ∧ 97 = 94 + 3 := by decide +kernel
theorem d_X5_goOn_97 : decode cX5_goOn 97 = .ok (.return_, 1) := by decide +kernel
theorem d_X6_init_0 : decode cX6_init 0 = .ok (.aload_n 0, 1) ∧ 1 = 0 + 1 := by decide +kernel
theorem d_X6_init_1 : decode cX6_init 1 = .ok (.invokespecial 3, 3) ∧ 4 = 1 + 3 := by decide +kernel
theorem d_X6_init_4 : decode cX6_init 4 = .ok (.aload_n 0, 1) ∧ 5 = 4 + 1 := by decide +kernel
theorem d_X6_init_5 : decode cX6_init 5 = .ok (.bipush 32, 2) ∧ 7 = 5 + 2 := by decide +kernel
theorem d_X6_init_7 : decode cX6_init 7 = .ok (.newarray .int, 2) ∧ 9 = 7 + 2 := by decide +kernel
theorem d_X6_init_9 : decode cX6_init 9 = .ok (.putfield 9, 3) ∧ 12 = 9 + 3 := by decide +kernel
theorem d_X6_init_12 : decode cX6_init 12 = .ok (.return_, 1) := by decide +kernel
theorem d_X6_read_0 : decode cX6_read 0 = .ok (.aload_n 0, 1) ∧ 1 = 0 + 1 := by decide +kernel
theorem d_X6_read_1 : decode cX6_read 1 = .ok (.aload_n 1, 1) ∧ 2 = 1 + 1 := by decide +kernel
theorem d_X6_read_2 : decode cX6_read 2 = .ok (.putfield 15, 3) ∧ 5 = 2 + 3 := by decide +kernel
theorem d_X6_read_5 : decode cX6_read 5 = .ok (.aload_n 0, 1) ∧ 6 = 5 + 1 := by decide +kernel
theorem d_X6_read_6 : decode cX6_read 6 = .ok (.iload_n 2, 1) ∧ 7 = 6 + 1 := by decide +kernel
theorem d_X6_read_7 : decode cX6_read 7 = .ok (.aload_n 1, 1) ∧ 8 = 7 + 1 := by decide +kernel
theorem d_X6_read_8 : decode cX6_read 8 = .ok (.arraylength, 1) ∧ 9 = 8 + 1 := by decide +kernel
theorem d_X6_read_9 : decode cX6_read 9 = .ok (.invokestatic 18, 3) ∧ 12 = 9 + 3 := by decide +kernel
theorem d_X6_read_12 : decode cX6_read 12 = .ok (.putfield 24, 3) ∧ 15 = 12 + 3 := by decide +kernel
theorem d_X6_read_15 : decode cX6_read 15 = .ok (.aload_n 0, 1) ∧ 16 = 15 + 1 := by decide +kernel
theorem d_X6_read_16 : decode cX6_read 16 = .ok (.iconst 0, 1) ∧ 17 = 16 + 1 := by decide +kernel
theorem d_X6_read_17 : decode cX6_read 17 = .ok (.putfield 28, 3) ∧ 20 = 17 + 3 := by decide +kernel
theorem d_X6_read_20 : decode cX6_read 20 = .ok (.aload_n 0, 1) ∧ 21 = 20 + 1 := by decide +kernel
theorem d_X6_read_21 : decode cX6_read 21 = .ok (.iconst 0, 1) ∧ 22 = 21 + 1 := by decide +kernel
theorem d_X6_read_22 : decode cX6_read 22 = .ok (.putfield 31, 3) ∧ 25 = 22 + 3 := by decide +kernel
theorem d_X6_read_25 : decode cX6_read 25 = .ok (.aload_n 0, 1) ∧ 26 = 25 + 1 := by decide +kernel
theorem d_X6_read_26 : decode cX6_read 26 = .ok (.iconst 0, 1) ∧ 27 = 26 + 1 := by decide +kernel
theorem d_X6_read_27 : decode cX6_read 27 = .ok (.putfield 34, 3) ∧ 30 = 27 + 3 := by decide +kernel
theorem d_X6_read_30 : decode cX6_read 30 = .ok (.aload_n 0, 1) ∧ 31 = 30 + 1 := by decide +kernel
theorem d_X6_read_31 : decode cX6_read 31 = .ok (.iconst (-1), 1) ∧ 32 = 31 + 1 := by decide +kernel
theorem d_X6_read_32 : decode cX6_read 32 = .ok (.putfield 37, 3) ∧ 35 = 32 + 3 := by decide +kernel
theorem d_X6_read_35 : decode cX6_read 35 = .ok (.aload_n 0, 1) ∧ 36 = 35 + 1 := by decide +kernel
theorem d_X6_read_36 : decode cX6_read 36 = .ok (.aload_n 3, 1) ∧ 37 = 36 + 1 := by decide +kernel
theorem d_X6_read_37 : decode cX6_read 37 = .ok (.putfield 40, 3) ∧ 40 = 37 + 3 := by decide +kernel
theorem d_X6_read_40 : decode cX6_read 40 = .ok (.aload_n 3, 1) ∧ 41 = 40 + 1 := by decide +kernel
theorem d_X6_read_41 : decode cX6_read 41 = .ok (.invokevirtual 44, 3) ∧ 44 = 41 + 3 := by decide +kernel
theorem d_X6_read_44 : decode cX6_read 44 = .ok (.iconst 0, 1) ∧ 45 = 44 + 1 := by decide +kernel
theorem d_X6_read_45 : decode cX6_read 45 = .ok (.istore 4, 2) ∧ 47 = 45 + 2 := by decide +kernel
theorem d_X6_read_47 : decode cX6_read 47 = .ok (.iload 4, 2) ∧ 49 = 47 + 2 := by decide +kernel
theorem d_X6_read_49 : decode cX6_read 49 = .ok (.aload_n 0, 1) ∧ 50 = 49 + 1 := by decide +kernel
theorem d_X6_read_50 : decode cX6_read 50 = .ok (.getfield 24, 3) ∧ 53 = 50 + 3 := by decide +kernel
theorem d_X6_read_53 : decode cX6_read 53 = .ok (.if_icmp .gt 105, 3) ∧ 56 = 53 + 3 ∧ (53 : Int) + 105 = ((158 : Nat) : Int) := by decide +kernel
theorem d_X6_read_56 : decode cX6_read 56 = .ok (.aload_n 0, 1) ∧ 57 = 56 + 1 := by decide +kernel
theorem d_X6_read_57 : decode cX6_read 57 = .ok (.getfield 34, 3) ∧ 60 = 57 + 3 := by decide +kernel
theorem d_X6_read_60 : decode cX6_read 60 = .ok (.ifCond .ne 98, 3) ∧ 63 = 60 + 3 ∧ (60 : Int) + 98 = ((158 : Nat) : Int) := by decide +kernel
theorem d_X6_read_63 : decode cX6_read 63 = .ok (.aload_n 0, 1) ∧ 64 = 63 + 1 := by decide +kernel
theorem d_X6_read_64 : decode cX6_read 64 = .ok (.invokevirtual 49, 3) ∧ 67 = 64 + 3 := by decide +kernel
theorem d_X6_read_67 : decode cX6_read 67 = .ok (.aload_n 0, 1) ∧ 68 = 67 + 1 := by decide +kernel
theorem d_X6_read_68 : decode cX6_read 68 = .ok (.getfield 52, 3) ∧ 71 = 68 + 3 := by decide +kernel
theorem d_X6_read_71 : decode cX6_read 71 = .ok (.bipush 35, 2) ∧ 73 = 71 + 2 := by decide +kernel
theorem d_X6_read_73 : decode cX6_read 73 = .ok (.if_icmp .ne 13, 3) ∧ 76 = 73 + 3 ∧ (73 : Int) + 13 = ((86 : Nat) : Int) := by decide +kernel
theorem d_X6_read_76 : decode cX6_read 76 = .ok (.aload_n 0, 1) ∧ 77 = 76 + 1 := by decide +kernel
theorem d_X6_read_77 : decode cX6_read 77 = .ok (.getfield 31, 3) ∧ 80 = 77 + 3 := by decide +kernel
theorem d_X6_read_80 : decode cX6_read 80 = .ok (.ifCond .ne 6, 3) ∧ 83 = 80 + 3 ∧ (80 : Int) + 6 = ((86 : Nat) : Int) := by decide +kernel
theorem d_X6_read_83 : decode cX6_read 83 = .ok (.goto 75, 3) ∧ (83 : Int) + (75) = ((158 : Nat) : Int) := by decide +kernel
theorem d_X6_read_86 : decode cX6_read 86 = .ok (.aload_n 0, 1) ∧ 87 = 86 + 1 := by decide +kernel
theorem d_X6_read_87 : decode cX6_read 87 = .ok (.getfield 31, 3) ∧ 90 = 87 + 3 := by decide +kernel
theorem d_X6_read_90 : decode cX6_read 90 = .ok (.tableswitch 58 0 3 #[30, 37, 44, 51], 30) := by decide +kernel
theorem d_X6_read_120 : decode cX6_read 120 = .ok (.aload_n 0, 1) ∧ 121 = 120 + 1 := by decide +kernel
theorem d_X6_read_121 : decode cX6_read 121 = .ok (.invokevirtual 55, 3) ∧ 124 = 121 + 3 := by decide +kernel
theorem d_X6_read_124 : decode cX6_read 124 = .ok (.goto 28, 3) ∧ (124 : Int) + (28) = ((152 : Nat) : Int) := by decide +kernel
theorem d_X6_read_127 : decode cX6_read 127 = .ok (.aload_n 0, 1) ∧ 128 = 127 + 1 := by decide +kernel
theorem d_X6_read_128 : decode cX6_read 128 = .ok (.invokevirtual 58, 3) ∧ 131 = 128 + 3 := by decide +kernel
theorem d_X6_read_131 : decode cX6_read 131 = .ok (.goto 21, 3) ∧ (131 : Int) + (21) = ((152 : Nat) : Int) := by decide +kernel
theorem d_X6_read_134 : decode cX6_read 134 = .ok (.aload_n 0, 1) ∧ 135 = 134 + 1 := by decide +kernel
theorem d_X6_read_135 : decode cX6_read 135 = .ok (.invokevirtual 61, 3) ∧ 138 = 135 + 3 := by decide +kernel
theorem d_X6_read_138 : decode cX6_read 138 = .ok (.goto 14, 3) ∧ (138 : Int) + (14) = ((152 : Nat) : Int) := by decide +kernel
theorem d_X6_read_141 : decode cX6_read 141 = .ok (.aload_n 0, 1) ∧ 142 = 141 + 1 := by decide +kernel
theorem d_X6_read_142 : decode cX6_read 142 = .ok (.invokevirtual 64, 3) ∧ 145 = 142 + 3 := by decide +kernel
theorem d_X6_read_145 : decode cX6_read 145 = .ok (.goto 7, 3) ∧ (145 : Int) + (7) = ((152 : Nat) : Int) := by decide +kernel
theorem d_X6_read_148 : decode cX6_read 148 = .ok (.aload_n 0, 1) ∧ 149 = 148 + 1 := by decide +kernel
theorem d_X6_read_149 : decode cX6_read 149 = .ok (.invokevirtual 67, 3) ∧ 152 = 149 + 3 := by decide +kernel
theorem d_X6_read_152 : decode cX6_read 152 = .ok (.iinc 4 1, 3) ∧ 155 = 152 + 3 := by decide +kernel
theorem d_X6_read_155 : decode cX6_read 155 = .ok (.goto (-108), 3) ∧ (155 : Int) + ((-108)) = ((47 : Nat) : Int) := by decide +kernel
theorem d_X6_read_158 : decode cX6_read 158 = .ok (.return_, 1) := by decide +kernel
theorem d_X6_fail_0 : decode cX6_fail 0 = .ok (.aload_n 0, 1) ∧ 1 = 0 + 1 := by decide +kernel
theorem d_X6_fail_1 : decode cX6_fail 1 = .ok (.getfield 34, 3) ∧ 4 = 1 + 3 := by decide +kernel
theorem d_X6_fail_4 : decode cX6_fail 4 = .ok (.ifCond .ne 16, 3) ∧ 7 = 4 + 3 ∧ (4 : Int) + 16 = ((20 : Nat) : Int) := by decide +kernel
theorem d_X6_fail_7 : decode cX6_fail 7 = .ok (.aload_n 0, 1) ∧ 8 = 7 + 1 := by decide +kernel
theorem d_X6_fail_8 : decode cX6_fail 8 = .ok (.iload_n 1, 1) ∧ 9 = 8 + 1 := by decide +kernel
theorem d_X6_fail_9 : decode cX6_fail 9 = .ok (.putfield 34, 3) ∧ 12 = 9 + 3 := by decide +kernel
theorem d_X6_fail_12 : decode cX6_fail 12 = .ok (.aload_n 0, 1) ∧ 13 = 12 + 1 := by decide +kernel
theorem d_X6_fail_13 : decode cX6_fail 13 = .ok (.aload_n 0, 1) ∧ 14 = 13 + 1 := by decide +kernel
theorem d_X6_fail_14 : decode cX6_fail 14 = .ok (.getfield 70, 3) ∧ 17 = 14 + 3 := by decide +kernel
theorem d_X6_fail_17 : decode cX6_fail 17 = .ok (.putfield 37, 3) ∧ 20 = 17 + 3 := by decide +kernel
theorem d_X6_fail_20 : decode cX6_fail 20 = .ok (.return_, 1) := by decide +kernel
theorem d_X6_takeClause_0 : decode cX6_takeClause 0 = .ok (.aload_n 0, 1) ∧ 1 = 0 + 1 := by decide +kernel
theorem d_X6_takeClause_1 : decode cX6_takeClause 1 = .ok (.getfield 52, 3) ∧ 4 = 1 + 3 := by decide +kernel
theorem d_X6_takeClause_4 : decode cX6_takeClause 4 = .ok (.bipush 14, 2) ∧ 6 = 4 + 2 := by decide +kernel
theorem d_X6_takeClause_6 : decode cX6_takeClause 6 = .ok (.if_icmp .lt 12, 3) ∧ 9 = 6 + 3 ∧ (6 : Int) + 12 = ((18 : Nat) : Int) := by decide +kernel
theorem d_X6_takeClause_9 : decode cX6_takeClause 9 = .ok (.aload_n 0, 1) ∧ 10 = 9 + 1 := by decide +kernel
theorem d_X6_takeClause_10 : decode cX6_takeClause 10 = .ok (.getfield 52, 3) ∧ 13 = 10 + 3 := by decide +kernel
theorem d_X6_takeClause_13 : decode cX6_takeClause 13 = .ok (.bipush 20, 2) ∧ 15 = 13 + 2 := by decide +kernel
theorem d_X6_takeClause_15 : decode cX6_takeClause 15 = .ok (.if_icmp .le 11, 3) ∧ 18 = 15 + 3 ∧ (15 : Int) + 11 = ((26 : Nat) : Int) := by decide +kernel
theorem d_X6_takeClause_18 : decode cX6_takeClause 18 = .ok (.aload_n 0, 1) ∧ 19 = 18 + 1 := by decide +kernel
theorem d_X6_takeClause_19 : decode cX6_takeClause 19 = .ok (.iconst 1, 1) ∧ 20 = 19 + 1 := by decide +kernel
theorem d_X6_takeClause_20 : decode cX6_takeClause 20 = .ok (.invokevirtual 73, 3) ∧ 23 = 20 + 3 := by decide +kernel
theorem d_X6_takeClause_23 : decode cX6_takeClause 23 = .ok (.goto 128, 3) ∧ (23 : Int) + (128) = ((151 : Nat) : Int) := by decide +kernel
theorem d_X6_takeClause_26 : decode cX6_takeClause 26 = .ok (.aload_n 0, 1) ∧ 27 = 26 + 1 := by decide +kernel
theorem d_X6_takeClause_27 : decode cX6_takeClause 27 = .ok (.getfield 52, 3) ∧ 30 = 27 + 3 := by decide +kernel
theorem d_X6_takeClause_30 : decode cX6_takeClause 30 = .ok (.bipush 16, 2) ∧ 32 = 30 + 2 := by decide +kernel
theorem d_X6_takeClause_32 : decode cX6_takeClause 32 = .ok (.if_icmp .gt 25, 3) ∧ 35 = 32 + 3 ∧ (32 : Int) + 25 = ((57 : Nat) : Int) := by decide +kernel
theorem d_X6_takeClause_35 : decode cX6_takeClause 35 = .ok (.aload_n 0, 1) ∧ 36 = 35 + 1 := by decide +kernel
theorem d_X6_takeClause_36 : decode cX6_takeClause 36 = .ok (.getfield 40, 3) ∧ 39 = 36 + 3 := by decide +kernel
theorem d_X6_takeClause_39 : decode cX6_takeClause 39 = .ok (.aload_n 0, 1) ∧ 40 = 39 + 1 := by decide +kernel
theorem d_X6_takeClause_40 : decode cX6_takeClause 40 = .ok (.getfield 52, 3) ∧ 43 = 40 + 3 := by decide +kernel
theorem d_X6_takeClause_43 : decode cX6_takeClause 43 = .ok (.invokevirtual 77, 3) ∧ 46 = 43 + 3 := by decide +kernel
theorem d_X6_takeClause_46 : decode cX6_takeClause 46 = .ok (.ifCond .eq 11, 3) ∧ 49 = 46 + 3 ∧ (46 : Int) + 11 = ((57 : Nat) : Int) := by decide +kernel
theorem d_X6_takeClause_49 : decode cX6_takeClause 49 = .ok (.aload_n 0, 1) ∧ 50 = 49 + 1 := by decide +kernel
theorem d_X6_takeClause_50 : decode cX6_takeClause 50 = .ok (.iconst 4, 1) ∧ 51 = 50 + 1 := by decide +kernel
theorem d_X6_takeClause_51 : decode cX6_takeClause 51 = .ok (.invokevirtual 73, 3) ∧ 54 = 51 + 3 := by decide +kernel
theorem d_X6_takeClause_54 : decode cX6_takeClause 54 = .ok (.goto 97, 3) ∧ (54 : Int) + (97) = ((151 : Nat) : Int) := by decide +kernel
theorem d_X6_takeClause_57 : decode cX6_takeClause 57 = .ok (.aload_n 0, 1) ∧ 58 = 57 + 1 := by decide +kernel
theorem d_X6_takeClause_58 : decode cX6_takeClause 58 = .ok (.getfield 40, 3) ∧ 61 = 58 + 3 := by decide +kernel
theorem d_X6_takeClause_61 : decode cX6_takeClause 61 = .ok (.invokevirtual 81, 3) ∧ 64 = 61 + 3 := by decide +kernel
theorem d_X6_takeClause_64 : decode cX6_takeClause 64 = .ok (.ifCond .eq 12, 3) ∧ 67 = 64 + 3 ∧ (64 : Int) + 12 = ((76 : Nat) : Int) := by decide +kernel
theorem d_X6_takeClause_67 : decode cX6_takeClause 67 = .ok (.aload_n 0, 1) ∧ 68 = 67 + 1 := by decide +kernel
theorem d_X6_takeClause_68 : decode cX6_takeClause 68 = .ok (.bipush 6, 2) ∧ 70 = 68 + 2 := by decide +kernel
theorem d_X6_takeClause_70 : decode cX6_takeClause 70 = .ok (.invokevirtual 73, 3) ∧ 73 = 70 + 3 := by decide +kernel
theorem d_X6_takeClause_73 : decode cX6_takeClause 73 = .ok (.goto 78, 3) ∧ (73 : Int) + (78) = ((151 : Nat) : Int) := by decide +kernel
theorem d_X6_takeClause_76 : decode cX6_takeClause 76 = .ok (.aload_n 0, 1) ∧ 77 = 76 + 1 := by decide +kernel
theorem d_X6_takeClause_77 : decode cX6_takeClause 77 = .ok (.aload_n 0, 1) ∧ 78 = 77 + 1 := by decide +kernel
theorem d_X6_takeClause_78 : decode cX6_takeClause 78 = .ok (.getfield 52, 3) ∧ 81 = 78 + 3 := by decide +kernel
theorem d_X6_takeClause_81 : decode cX6_takeClause 81 = .ok (.putfield 85, 3) ∧ 84 = 81 + 3 := by decide +kernel
theorem d_X6_takeClause_84 : decode cX6_takeClause 84 = .ok (.aload_n 0, 1) ∧ 85 = 84 + 1 := by decide +kernel
theorem d_X6_takeClause_85 : decode cX6_takeClause 85 = .ok (.getfield 40, 3) ∧ 88 = 85 + 3 := by decide +kernel
theorem d_X6_takeClause_88 : decode cX6_takeClause 88 = .ok (.aload_n 0, 1) ∧ 89 = 88 + 1 := by decide +kernel
theorem d_X6_takeClause_89 : decode cX6_takeClause 89 = .ok (.getfield 85, 3) ∧ 92 = 89 + 3 := by decide +kernel
theorem d_X6_takeClause_92 : decode cX6_takeClause 92 = .ok (.invokevirtual 88, 3) ∧ 95 = 92 + 3 := by decide +kernel
theorem d_X6_takeClause_95 : decode cX6_takeClause 95 = .ok (.aload_n 0, 1) ∧ 96 = 95 + 1 := by decide +kernel
theorem d_X6_takeClause_96 : decode cX6_takeClause 96 = .ok (.iconst 0, 1) ∧ 97 = 96 + 1 := by decide +kernel
theorem d_X6_takeClause_97 : decode cX6_takeClause 97 = .ok (.putfield 91, 3) ∧ 100 = 97 + 3 := by decide +kernel
theorem d_X6_takeClause_100 : decode cX6_takeClause 100 = .ok (.aload_n 0, 1) ∧ 101 = 100 + 1 := by decide +kernel
theorem d_X6_takeClause_101 : decode cX6_takeClause 101 = .ok (.iconst 0, 1) ∧ 102 = 101 + 1 := by decide +kernel
theorem d_X6_takeClause_102 : decode cX6_takeClause 102 = .ok (.putfield 94, 3) ∧ 105 = 102 + 3 := by decide +kernel
theorem d_X6_takeClause_105 : decode cX6_takeClause 105 = .ok (.aload_n 0, 1) ∧ 106 = 105 + 1 := by decide +kernel
theorem d_X6_takeClause_106 : decode cX6_takeClause 106 = .ok (.iconst 0, 1) ∧ 107 = 106 + 1 := by decide +kernel
theorem d_X6_takeClause_107 : decode cX6_takeClause 107 = .ok (.putfield 97, 3) ∧ 110 = 107 + 3 := by decide +kernel
theorem d_X6_takeClause_110 : decode cX6_takeClause 110 = .ok (.aload_n 0, 1) ∧ 111 = 110 + 1 := by decide +kernel
theorem d_X6_takeClause_111 : decode cX6_takeClause 111 = .ok (.aload_n 0, 1) ∧ 112 = 111 + 1 := by decide +kernel
theorem d_X6_takeClause_112 : decode cX6_takeClause 112 = .ok (.getfield 85, 3) ∧ 115 = 112 + 3 := by decide +kernel
theorem d_X6_takeClause_115 : decode cX6_takeClause 115 = .ok (.bipush 16, 2) ∧ 117 = 115 + 2 := by decide +kernel
theorem d_X6_takeClause_117 : decode cX6_takeClause 117 = .ok (.if_icmp .eq 7, 3) ∧ 120 = 117 + 3 ∧ (117 : Int) + 7 = ((124 : Nat) : Int) := by decide +kernel
theorem d_X6_takeClause_120 : decode cX6_takeClause 120 = .ok (.iconst 1, 1) ∧ 121 = 120 + 1 := by decide +kernel
theorem d_X6_takeClause_121 : decode cX6_takeClause 121 = .ok (.goto 4, 3) ∧ (121 : Int) + (4) = ((125 : Nat) : Int) := by decide +kernel
theorem d_X6_takeClause_124 : decode cX6_takeClause 124 = .ok (.iconst 0, 1) ∧ 125 = 124 + 1 := by decide +kernel
theorem d_X6_takeClause_125 : decode cX6_takeClause 125 = .ok (.putfield 100, 3) ∧ 128 = 125 + 3 := by decide +kernel
theorem d_X6_takeClause_128 : decode cX6_takeClause 128 = .ok (.aload_n 0, 1) ∧ 129 = 128 + 1 := by decide +kernel
theorem d_X6_takeClause_129 : decode cX6_takeClause 129 = .ok (.iconst 0, 1) ∧ 130 = 129 + 1 := by decide +kernel
theorem d_X6_takeClause_130 : decode cX6_takeClause 130 = .ok (.putfield 104, 3) ∧ 133 = 130 + 3 := by decide +kernel
theorem d_X6_takeClause_133 : decode cX6_takeClause 133 = .ok (.aload_n 0, 1) ∧ 134 = 133 + 1 := by decide +kernel
theorem d_X6_takeClause_134 : decode cX6_takeClause 134 = .ok (.aload_n 0, 1) ∧ 135 = 134 + 1 := by decide +kernel
theorem d_X6_takeClause_135 : decode cX6_takeClause 135 = .ok (.getfield 85, 3) ∧ 138 = 135 + 3 := by decide +kernel
theorem d_X6_takeClause_138 : decode cX6_takeClause 138 = .ok (.bipush 15, 2) ∧ 140 = 138 + 2 := by decide +kernel
theorem d_X6_takeClause_140 : decode cX6_takeClause 140 = .ok (.if_icmp .gt 7, 3) ∧ 143 = 140 + 3 ∧ (140 : Int) + 7 = ((147 : Nat) : Int) := by decide +kernel
theorem d_X6_takeClause_143 : decode cX6_takeClause 143 = .ok (.iconst 1, 1) ∧ 144 = 143 + 1 := by decide +kernel
theorem d_X6_takeClause_144 : decode cX6_takeClause 144 = .ok (.goto 4, 3) ∧ (144 : Int) + (4) = ((148 : Nat) : Int) := by decide +kernel
theorem d_X6_takeClause_147 : decode cX6_takeClause 147 = .ok (.iconst 3, 1) ∧ 148 = 147 + 1 := by decide +kernel
theorem d_X6_takeClause_148 : decode cX6_takeClause 148 = .ok (.putfield 31, 3) ∧ 151 = 148 + 3 := by decide +kernel
theorem d_X6_takeClause_151 : decode cX6_takeClause 151 = .ok (.return_, 1) := by decide +kernel
theorem d_X6_takeNumber_0 : decode cX6_takeNumber 0 = .ok (.aload_n 0, 1) ∧ 1 = 0 + 1 := by decide +kernel
theorem d_X6_takeNumber_1 : decode cX6_takeNumber 1 = .ok (.getfield 52, 3) ∧ 4 = 1 + 3 := by decide +kernel
theorem d_X6_takeNumber_4 : decode cX6_takeNumber 4 = .ok (.bipush 100, 2) ∧ 6 = 4 + 2 := by decide +kernel
theorem d_X6_takeNumber_6 : decode cX6_takeNumber 6 = .ok (.isub, 1) ∧ 7 = 6 + 1 := by decide +kernel
theorem d_X6_takeNumber_7 : decode cX6_takeNumber 7 = .ok (.istore_n 1, 1) ∧ 8 = 7 + 1 := by decide +kernel
theorem d_X6_takeNumber_8 : decode cX6_takeNumber 8 = .ok (.iload_n 1, 1) ∧ 9 = 8 + 1 := by decide +kernel
theorem d_X6_takeNumber_9 : decode cX6_takeNumber 9 = .ok (.ifCond .ge 11, 3) ∧ 12 = 9 + 3 ∧ (9 : Int) + 11 = ((20 : Nat) : Int) := by decide +kernel
theorem d_X6_takeNumber_12 : decode cX6_takeNumber 12 = .ok (.aload_n 0, 1) ∧ 13 = 12 + 1 := by decide +kernel
theorem d_X6_takeNumber_13 : decode cX6_takeNumber 13 = .ok (.iconst 1, 1) ∧ 14 = 13 + 1 := by decide +kernel
theorem d_X6_takeNumber_14 : decode cX6_takeNumber 14 = .ok (.invokevirtual 73, 3) ∧ 17 = 14 + 3 := by decide +kernel
theorem d_X6_takeNumber_17 : decode cX6_takeNumber 17 = .ok (.goto 91, 3) ∧ (17 : Int) + (91) = ((108 : Nat) : Int) := by decide +kernel
theorem d_X6_takeNumber_20 : decode cX6_takeNumber 20 = .ok (.iload_n 1, 1) ∧ 21 = 20 + 1 := by decide +kernel
theorem d_X6_takeNumber_21 : decode cX6_takeNumber 21 = .ok (.aload_n 0, 1) ∧ 22 = 21 + 1 := by decide +kernel
theorem d_X6_takeNumber_22 : decode cX6_takeNumber 22 = .ok (.getfield 85, 3) ∧ 25 = 22 + 3 := by decide +kernel
theorem d_X6_takeNumber_25 : decode cX6_takeNumber 25 = .ok (.bipush 14, 2) ∧ 27 = 25 + 2 := by decide +kernel
theorem d_X6_takeNumber_27 : decode cX6_takeNumber 27 = .ok (.if_icmp .ne 8, 3) ∧ 30 = 27 + 3 ∧ (27 : Int) + 8 = ((35 : Nat) : Int) := by decide +kernel
theorem d_X6_takeNumber_30 : decode cX6_takeNumber 30 = .ok (.bipush 14, 2) ∧ 32 = 30 + 2 := by decide +kernel
theorem d_X6_takeNumber_32 : decode cX6_takeNumber 32 = .ok (.goto 6, 3) ∧ (32 : Int) + (6) = ((38 : Nat) : Int) := by decide +kernel
theorem d_X6_takeNumber_35 : decode cX6_takeNumber 35 = .ok (.sipush 9999, 3) ∧ 38 = 35 + 3 := by decide +kernel
theorem d_X6_takeNumber_38 : decode cX6_takeNumber 38 = .ok (.if_icmp .le 11, 3) ∧ 41 = 38 + 3 ∧ (38 : Int) + 11 = ((49 : Nat) : Int) := by decide +kernel
theorem d_X6_takeNumber_41 : decode cX6_takeNumber 41 = .ok (.aload_n 0, 1) ∧ 42 = 41 + 1 := by decide +kernel
theorem d_X6_takeNumber_42 : decode cX6_takeNumber 42 = .ok (.iconst 2, 1) ∧ 43 = 42 + 1 := by decide +kernel
theorem d_X6_takeNumber_43 : decode cX6_takeNumber 43 = .ok (.invokevirtual 73, 3) ∧ 46 = 43 + 3 := by decide +kernel
theorem d_X6_takeNumber_46 : decode cX6_takeNumber 46 = .ok (.goto 62, 3) ∧ (46 : Int) + (62) = ((108 : Nat) : Int) := by decide +kernel
theorem d_X6_takeNumber_49 : decode cX6_takeNumber 49 = .ok (.aload_n 0, 1) ∧ 50 = 49 + 1 := by decide +kernel
theorem d_X6_takeNumber_50 : decode cX6_takeNumber 50 = .ok (.getfield 40, 3) ∧ 53 = 50 + 3 := by decide +kernel
theorem d_X6_takeNumber_53 : decode cX6_takeNumber 53 = .ok (.aload_n 0, 1) ∧ 54 = 53 + 1 := by decide +kernel
theorem d_X6_takeNumber_54 : decode cX6_takeNumber 54 = .ok (.getfield 85, 3) ∧ 57 = 54 + 3 := by decide +kernel
theorem d_X6_takeNumber_57 : decode cX6_takeNumber 57 = .ok (.bipush 14, 2) ∧ 59 = 57 + 2 := by decide +kernel
theorem d_X6_takeNumber_59 : decode cX6_takeNumber 59 = .ok (.if_icmp .ne 7, 3) ∧ 62 = 59 + 3 ∧ (59 : Int) + 7 = ((66 : Nat) : Int) := by decide +kernel
theorem d_X6_takeNumber_62 : decode cX6_takeNumber 62 = .ok (.iload_n 1, 1) ∧ 63 = 62 + 1 := by decide +kernel
theorem d_X6_takeNumber_63 : decode cX6_takeNumber 63 = .ok (.goto 10, 3) ∧ (63 : Int) + (10) = ((73 : Nat) : Int) := by decide +kernel
theorem d_X6_takeNumber_66 : decode cX6_takeNumber 66 = .ok (.aload_n 0, 1) ∧ 67 = 66 + 1 := by decide +kernel
theorem d_X6_takeNumber_67 : decode cX6_takeNumber 67 = .ok (.getfield 40, 3) ∧ 70 = 67 + 3 := by decide +kernel
theorem d_X6_takeNumber_70 : decode cX6_takeNumber 70 = .ok (.getfield 107, 3) ∧ 73 = 70 + 3 := by decide +kernel
theorem d_X6_takeNumber_73 : decode cX6_takeNumber 73 = .ok (.putfield 107, 3) ∧ 76 = 73 + 3 := by decide +kernel
theorem d_X6_takeNumber_76 : decode cX6_takeNumber 76 = .ok (.aload_n 0, 1) ∧ 77 = 76 + 1 := by decide +kernel
theorem d_X6_takeNumber_77 : decode cX6_takeNumber 77 = .ok (.getfield 40, 3) ∧ 80 = 77 + 3 := by decide +kernel
theorem d_X6_takeNumber_80 : decode cX6_takeNumber 80 = .ok (.aload_n 0, 1) ∧ 81 = 80 + 1 := by decide +kernel
theorem d_X6_takeNumber_81 : decode cX6_takeNumber 81 = .ok (.getfield 85, 3) ∧ 84 = 81 + 3 := by decide +kernel
theorem d_X6_takeNumber_84 : decode cX6_takeNumber 84 = .ok (.bipush 15, 2) ∧ 86 = 84 + 2 := by decide +kernel
theorem d_X6_takeNumber_86 : decode cX6_takeNumber 86 = .ok (.if_icmp .ne 7, 3) ∧ 89 = 86 + 3 ∧ (86 : Int) + 7 = ((93 : Nat) : Int) := by decide +kernel
theorem d_X6_takeNumber_89 : decode cX6_takeNumber 89 = .ok (.iload_n 1, 1) ∧ 90 = 89 + 1 := by decide +kernel
theorem d_X6_takeNumber_90 : decode cX6_takeNumber 90 = .ok (.goto 10, 3) ∧ (90 : Int) + (10) = ((100 : Nat) : Int) := by decide +kernel
theorem d_X6_takeNumber_93 : decode cX6_takeNumber 93 = .ok (.aload_n 0, 1) ∧ 94 = 93 + 1 := by decide +kernel
theorem d_X6_takeNumber_94 : decode cX6_takeNumber 94 = .ok (.getfield 40, 3) ∧ 97 = 94 + 3 := by decide +kernel
theorem d_X6_takeNumber_97 : decode cX6_takeNumber 97 = .ok (.getfield 110, 3) ∧ 100 = 97 + 3 := by decide +kernel
theorem d_X6_takeNumber_100 : decode cX6_takeNumber 100 = .ok (.putfield 110, 3) ∧ 103 = 100 + 3 := by decide +kernel
theorem d_X6_takeNumber_103 : decode cX6_takeNumber 103 = .ok (.aload_n 0, 1) ∧ 104 = 103 + 1 := by decide +kernel
theorem d_X6_takeNumber_104 : decode cX6_takeNumber 104 = .ok (.iconst 2, 1) ∧ 105 = 104 + 1 := by decide +kernel
theorem d_X6_takeNumber_105 : decode cX6_takeNumber 105 = .ok (.putfield 31, 3) ∧ 108 = 105 + 3 := by decide +kernel
theorem d_X6_takeNumber_108 : decode cX6_takeNumber 108 = .ok (.return_, 1) := by decide +kernel
theorem d_X6_takeStop_0 : decode cX6_takeStop 0 = .ok (.aload_n 0, 1) ∧ 1 = 0 + 1 := by decide +kernel
theorem d_X6_takeStop_1 : decode cX6_takeStop 1 = .ok (.getfield 52, 3) ∧ 4 = 1 + 3 := by decide +kernel
theorem d_X6_takeStop_4 : decode cX6_takeStop 4 = .ok (.bipush 34, 2) ∧ 6 = 4 + 2 := by decide +kernel
theorem d_X6_takeStop_6 : decode cX6_takeStop 6 = .ok (.if_icmp .eq 8, 3) ∧ 9 = 6 + 3 ∧ (6 : Int) + 8 = ((14 : Nat) : Int) := by decide +kernel
theorem d_X6_takeStop_9 : decode cX6_takeStop 9 = .ok (.aload_n 0, 1) ∧ 10 = 9 + 1 := by decide +kernel
theorem d_X6_takeStop_10 : decode cX6_takeStop 10 = .ok (.iconst 1, 1) ∧ 11 = 10 + 1 := by decide +kernel
theorem d_X6_takeStop_11 : decode cX6_takeStop 11 = .ok (.invokevirtual 73, 3) ∧ 14 = 11 + 3 := by decide +kernel
theorem d_X6_takeStop_14 : decode cX6_takeStop 14 = .ok (.aload_n 0, 1) ∧ 15 = 14 + 1 := by decide +kernel
theorem d_X6_takeStop_15 : decode cX6_takeStop 15 = .ok (.iconst 0, 1) ∧ 16 = 15 + 1 := by decide +kernel
theorem d_X6_takeStop_16 : decode cX6_takeStop 16 = .ok (.putfield 31, 3) ∧ 19 = 16 + 3 := by decide +kernel
theorem d_X6_takeStop_19 : decode cX6_takeStop 19 = .ok (.return_, 1) := by decide +kernel
theorem d_X6_takeOperand_0 : decode cX6_takeOperand 0 = .ok (.aload_n 0, 1) ∧ 1 = 0 + 1 := by decide +kernel
theorem d_X6_takeOperand_1 : decode cX6_takeOperand 1 = .ok (.getfield 52, 3) ∧ 4 = 1 + 3 := by decide +kernel
theorem d_X6_takeOperand_4 : decode cX6_takeOperand 4 = .ok (.bipush 100, 2) ∧ 6 = 4 + 2 := by decide +kernel
theorem d_X6_takeOperand_6 : decode cX6_takeOperand 6 = .ok (.if_icmp .lt 28, 3) ∧ 9 = 6 + 3 ∧ (6 : Int) + 28 = ((34 : Nat) : Int) := by decide +kernel
theorem d_X6_takeOperand_9 : decode cX6_takeOperand 9 = .ok (.aload_n 0, 1) ∧ 10 = 9 + 1 := by decide +kernel
theorem d_X6_takeOperand_10 : decode cX6_takeOperand 10 = .ok (.aload_n 0, 1) ∧ 11 = 10 + 1 := by decide +kernel
theorem d_X6_takeOperand_11 : decode cX6_takeOperand 11 = .ok (.getfield 52, 3) ∧ 14 = 11 + 3 := by decide +kernel
theorem d_X6_takeOperand_14 : decode cX6_takeOperand 14 = .ok (.bipush 100, 2) ∧ 16 = 14 + 2 := by decide +kernel
theorem d_X6_takeOperand_16 : decode cX6_takeOperand 16 = .ok (.isub, 1) ∧ 17 = 16 + 1 := by decide +kernel
theorem d_X6_takeOperand_17 : decode cX6_takeOperand 17 = .ok (.sipush 9999, 3) ∧ 20 = 17 + 3 := by decide +kernel
theorem d_X6_takeOperand_20 : decode cX6_takeOperand 20 = .ok (.if_icmp .le 7, 3) ∧ 23 = 20 + 3 ∧ (20 : Int) + 7 = ((27 : Nat) : Int) := by decide +kernel
theorem d_X6_takeOperand_23 : decode cX6_takeOperand 23 = .ok (.iconst 2, 1) ∧ 24 = 23 + 1 := by decide +kernel
theorem d_X6_takeOperand_24 : decode cX6_takeOperand 24 = .ok (.goto 4, 3) ∧ (24 : Int) + (4) = ((28 : Nat) : Int) := by decide +kernel
theorem d_X6_takeOperand_27 : decode cX6_takeOperand 27 = .ok (.iconst 0, 1) ∧ 28 = 27 + 1 := by decide +kernel
theorem d_X6_takeOperand_28 : decode cX6_takeOperand 28 = .ok (.invokevirtual 113, 3) ∧ 31 = 28 + 3 := by decide +kernel
theorem d_X6_takeOperand_31 : decode cX6_takeOperand 31 = .ok (.goto 81, 3) ∧ (31 : Int) + (81) = ((112 : Nat) : Int) := by decide +kernel
theorem d_X6_takeOperand_34 : decode cX6_takeOperand 34 = .ok (.aload_n 0, 1) ∧ 35 = 34 + 1 := by decide +kernel
theorem d_X6_takeOperand_35 : decode cX6_takeOperand 35 = .ok (.getfield 52, 3) ∧ 38 = 35 + 3 := by decide +kernel
theorem d_X6_takeOperand_38 : decode cX6_takeOperand 38 = .ok (.bipush 11, 2) ∧ 40 = 38 + 2 := by decide +kernel
theorem d_X6_takeOperand_40 : decode cX6_takeOperand 40 = .ok (.if_icmp .ge 26, 3) ∧ 43 = 40 + 3 ∧ (40 : Int) + 26 = ((66 : Nat) : Int) := by decide +kernel
theorem d_X6_takeOperand_43 : decode cX6_takeOperand 43 = .ok (.aload_n 0, 1) ∧ 44 = 43 + 1 := by decide +kernel
theorem d_X6_takeOperand_44 : decode cX6_takeOperand 44 = .ok (.aload_n 0, 1) ∧ 45 = 44 + 1 := by decide +kernel
theorem d_X6_takeOperand_45 : decode cX6_takeOperand 45 = .ok (.aload_n 0, 1) ∧ 46 = 45 + 1 := by decide +kernel
theorem d_X6_takeOperand_46 : decode cX6_takeOperand 46 = .ok (.getfield 52, 3) ∧ 49 = 46 + 3 := by decide +kernel
theorem d_X6_takeOperand_49 : decode cX6_takeOperand 49 = .ok (.invokevirtual 116, 3) ∧ 52 = 49 + 3 := by decide +kernel
theorem d_X6_takeOperand_52 : decode cX6_takeOperand 52 = .ok (.ifCond .eq 7, 3) ∧ 55 = 52 + 3 ∧ (52 : Int) + 7 = ((59 : Nat) : Int) := by decide +kernel
theorem d_X6_takeOperand_55 : decode cX6_takeOperand 55 = .ok (.iconst 0, 1) ∧ 56 = 55 + 1 := by decide +kernel
theorem d_X6_takeOperand_56 : decode cX6_takeOperand 56 = .ok (.goto 4, 3) ∧ (56 : Int) + (4) = ((60 : Nat) : Int) := by decide +kernel
theorem d_X6_takeOperand_59 : decode cX6_takeOperand 59 = .ok (.iconst 5, 1) ∧ 60 = 59 + 1 := by decide +kernel
theorem d_X6_takeOperand_60 : decode cX6_takeOperand 60 = .ok (.invokevirtual 113, 3) ∧ 63 = 60 + 3 := by decide +kernel
theorem d_X6_takeOperand_63 : decode cX6_takeOperand 63 = .ok (.goto 49, 3) ∧ (63 : Int) + (49) = ((112 : Nat) : Int) := by decide +kernel
theorem d_X6_takeOperand_66 : decode cX6_takeOperand 66 = .ok (.aload_n 0, 1) ∧ 67 = 66 + 1 := by decide +kernel
theorem d_X6_takeOperand_67 : decode cX6_takeOperand 67 = .ok (.getfield 52, 3) ∧ 70 = 67 + 3 := by decide +kernel
theorem d_X6_takeOperand_70 : decode cX6_takeOperand 70 = .ok (.bipush 32, 2) ∧ 72 = 70 + 2 := by decide +kernel
theorem d_X6_takeOperand_72 : decode cX6_takeOperand 72 = .ok (.if_icmp .eq 28, 3) ∧ 75 = 72 + 3 ∧ (72 : Int) + 28 = ((100 : Nat) : Int) := by decide +kernel
theorem d_X6_takeOperand_75 : decode cX6_takeOperand 75 = .ok (.aload_n 0, 1) ∧ 76 = 75 + 1 := by decide +kernel
theorem d_X6_takeOperand_76 : decode cX6_takeOperand 76 = .ok (.getfield 52, 3) ∧ 79 = 76 + 3 := by decide +kernel
theorem d_X6_takeOperand_79 : decode cX6_takeOperand 79 = .ok (.bipush 28, 2) ∧ 81 = 79 + 2 := by decide +kernel
theorem d_X6_takeOperand_81 : decode cX6_takeOperand 81 = .ok (.if_icmp .eq 19, 3) ∧ 84 = 81 + 3 ∧ (81 : Int) + 19 = ((100 : Nat) : Int) := by decide +kernel
theorem d_X6_takeOperand_84 : decode cX6_takeOperand 84 = .ok (.aload_n 0, 1) ∧ 85 = 84 + 1 := by decide +kernel
theorem d_X6_takeOperand_85 : decode cX6_takeOperand 85 = .ok (.getfield 52, 3) ∧ 88 = 85 + 3 := by decide +kernel
theorem d_X6_takeOperand_88 : decode cX6_takeOperand 88 = .ok (.bipush 11, 2) ∧ 90 = 88 + 2 := by decide +kernel
theorem d_X6_takeOperand_90 : decode cX6_takeOperand 90 = .ok (.if_icmp .ne 17, 3) ∧ 93 = 90 + 3 ∧ (90 : Int) + 17 = ((107 : Nat) : Int) := by decide +kernel
theorem d_X6_takeOperand_93 : decode cX6_takeOperand 93 = .ok (.aload_n 0, 1) ∧ 94 = 93 + 1 := by decide +kernel
theorem d_X6_takeOperand_94 : decode cX6_takeOperand 94 = .ok (.getfield 100, 3) ∧ 97 = 94 + 3 := by decide +kernel
theorem d_X6_takeOperand_97 : decode cX6_takeOperand 97 = .ok (.ifCond .eq 10, 3) ∧ 100 = 97 + 3 ∧ (97 : Int) + 10 = ((107 : Nat) : Int) := by decide +kernel
theorem d_X6_takeOperand_100 : decode cX6_takeOperand 100 = .ok (.aload_n 0, 1) ∧ 101 = 100 + 1 := by decide +kernel
theorem d_X6_takeOperand_101 : decode cX6_takeOperand 101 = .ok (.invokevirtual 119, 3) ∧ 104 = 101 + 3 := by decide +kernel
theorem d_X6_takeOperand_104 : decode cX6_takeOperand 104 = .ok (.goto 8, 3) ∧ (104 : Int) + (8) = ((112 : Nat) : Int) := by decide +kernel
theorem d_X6_takeOperand_107 : decode cX6_takeOperand 107 = .ok (.aload_n 0, 1) ∧ 108 = 107 + 1 := by decide +kernel
theorem d_X6_takeOperand_108 : decode cX6_takeOperand 108 = .ok (.iconst 1, 1) ∧ 109 = 108 + 1 := by decide +kernel
theorem d_X6_takeOperand_109 : decode cX6_takeOperand 109 = .ok (.invokevirtual 73, 3) ∧ 112 = 109 + 3 := by decide +kernel
theorem d_X6_takeOperand_112 : decode cX6_takeOperand 112 = .ok (.aload_n 0, 1) ∧ 113 = 112 + 1 := by decide +kernel
theorem d_X6_takeOperand_113 : decode cX6_takeOperand 113 = .ok (.aload_n 0, 1) ∧ 114 = 113 + 1 := by decide +kernel
theorem d_X6_takeOperand_114 : decode cX6_takeOperand 114 = .ok (.getfield 100, 3) ∧ 117 = 114 + 3 := by decide +kernel
theorem d_X6_takeOperand_117 : decode cX6_takeOperand 117 = .ok (.ifCond .eq 16, 3) ∧ 120 = 117 + 3 ∧ (117 : Int) + 16 = ((133 : Nat) : Int) := by decide +kernel
theorem d_X6_takeOperand_120 : decode cX6_takeOperand 120 = .ok (.aload_n 0, 1) ∧ 121 = 120 + 1 := by decide +kernel
theorem d_X6_takeOperand_121 : decode cX6_takeOperand 121 = .ok (.getfield 52, 3) ∧ 124 = 121 + 3 := by decide +kernel
theorem d_X6_takeOperand_124 : decode cX6_takeOperand 124 = .ok (.bipush 11, 2) ∧ 126 = 124 + 2 := by decide +kernel
theorem d_X6_takeOperand_126 : decode cX6_takeOperand 126 = .ok (.if_icmp .ne 7, 3) ∧ 129 = 126 + 3 ∧ (126 : Int) + 7 = ((133 : Nat) : Int) := by decide +kernel
theorem d_X6_takeOperand_129 : decode cX6_takeOperand 129 = .ok (.iconst 1, 1) ∧ 130 = 129 + 1 := by decide +kernel
theorem d_X6_takeOperand_130 : decode cX6_takeOperand 130 = .ok (.goto 4, 3) ∧ (130 : Int) + (4) = ((134 : Nat) : Int) := by decide +kernel
theorem d_X6_takeOperand_133 : decode cX6_takeOperand 133 = .ok (.iconst 0, 1) ∧ 134 = 133 + 1 := by decide +kernel
theorem d_X6_takeOperand_134 : decode cX6_takeOperand 134 = .ok (.putfield 100, 3) ∧ 137 = 134 + 3 := by decide +kernel
theorem d_X6_takeOperand_137 : decode cX6_takeOperand 137 = .ok (.return_, 1) := by decide +kernel
theorem d_X6_takeOne_0 : decode cX6_takeOne 0 = .ok (.iload_n 1, 1) ∧ 1 = 0 + 1 := by decide +kernel
theorem d_X6_takeOne_1 : decode cX6_takeOne 1 = .ok (.ifCond .eq 11, 3) ∧ 4 = 1 + 3 ∧ (1 : Int) + 11 = ((12 : Nat) : Int) := by decide +kernel
theorem d_X6_takeOne_4 : decode cX6_takeOne 4 = .ok (.aload_n 0, 1) ∧ 5 = 4 + 1 := by decide +kernel
theorem d_X6_takeOne_5 : decode cX6_takeOne 5 = .ok (.iload_n 1, 1) ∧ 6 = 5 + 1 := by decide +kernel
theorem d_X6_takeOne_6 : decode cX6_takeOne 6 = .ok (.invokevirtual 73, 3) ∧ 9 = 6 + 3 := by decide +kernel
theorem d_X6_takeOne_9 : decode cX6_takeOne 9 = .ok (.goto 19, 3) ∧ (9 : Int) + (19) = ((28 : Nat) : Int) := by decide +kernel
theorem d_X6_takeOne_12 : decode cX6_takeOne 12 = .ok (.aload_n 0, 1) ∧ 13 = 12 + 1 := by decide +kernel
theorem d_X6_takeOne_13 : decode cX6_takeOne 13 = .ok (.getfield 40, 3) ∧ 16 = 13 + 3 := by decide +kernel
theorem d_X6_takeOne_16 : decode cX6_takeOne 16 = .ok (.aload_n 0, 1) ∧ 17 = 16 + 1 := by decide +kernel
theorem d_X6_takeOne_17 : decode cX6_takeOne 17 = .ok (.getfield 52, 3) ∧ 20 = 17 + 3 := by decide +kernel
theorem d_X6_takeOne_20 : decode cX6_takeOne 20 = .ok (.invokevirtual 122, 3) ∧ 23 = 20 + 3 := by decide +kernel
theorem d_X6_takeOne_23 : decode cX6_takeOne 23 = .ok (.aload_n 0, 1) ∧ 24 = 23 + 1 := by decide +kernel
theorem d_X6_takeOne_24 : decode cX6_takeOne 24 = .ok (.iconst 4, 1) ∧ 25 = 24 + 1 := by decide +kernel
theorem d_X6_takeOne_25 : decode cX6_takeOne 25 = .ok (.putfield 31, 3) ∧ 28 = 25 + 3 := by decide +kernel
theorem d_X6_takeOne_28 : decode cX6_takeOne 28 = .ok (.return_, 1) := by decide +kernel
theorem d_X6_takeOpening_0 : decode cX6_takeOpening 0 = .ok (.aload_n 0, 1) ∧ 1 = 0 + 1 := by decide +kernel
theorem d_X6_takeOpening_1 : decode cX6_takeOpening 1 = .ok (.getfield 94, 3) ∧ 4 = 1 + 3 := by decide +kernel
theorem d_X6_takeOpening_4 : decode cX6_takeOpening 4 = .ok (.bipush 8, 2) ∧ 6 = 4 + 2 := by decide +kernel
theorem d_X6_takeOpening_6 : decode cX6_takeOpening 6 = .ok (.if_icmp .lt 9, 3) ∧ 9 = 6 + 3 ∧ (6 : Int) + 9 = ((15 : Nat) : Int) := by decide +kernel
theorem d_X6_takeOpening_9 : decode cX6_takeOpening 9 = .ok (.aload_n 0, 1) ∧ 10 = 9 + 1 := by decide +kernel
theorem d_X6_takeOpening_10 : decode cX6_takeOpening 10 = .ok (.iconst 3, 1) ∧ 11 = 10 + 1 := by decide +kernel
theorem d_X6_takeOpening_11 : decode cX6_takeOpening 11 = .ok (.invokevirtual 73, 3) ∧ 14 = 11 + 3 := by decide +kernel
theorem d_X6_takeOpening_14 : decode cX6_takeOpening 14 = .ok (.return_, 1) := by decide +kernel
theorem d_X6_takeOpening_15 : decode cX6_takeOpening 15 = .ok (.aload_n 0, 1) ∧ 16 = 15 + 1 := by decide +kernel
theorem d_X6_takeOpening_16 : decode cX6_takeOpening 16 = .ok (.dup, 1) ∧ 17 = 16 + 1 := by decide +kernel
theorem d_X6_takeOpening_17 : decode cX6_takeOpening 17 = .ok (.getfield 94, 3) ∧ 20 = 17 + 3 := by decide +kernel
theorem d_X6_takeOpening_20 : decode cX6_takeOpening 20 = .ok (.iconst 1, 1) ∧ 21 = 20 + 1 := by decide +kernel
theorem d_X6_takeOpening_21 : decode cX6_takeOpening 21 = .ok (.iadd, 1) ∧ 22 = 21 + 1 := by decide +kernel
theorem d_X6_takeOpening_22 : decode cX6_takeOpening 22 = .ok (.putfield 94, 3) ∧ 25 = 22 + 3 := by decide +kernel
theorem d_X6_takeOpening_25 : decode cX6_takeOpening 25 = .ok (.aload_n 0, 1) ∧ 26 = 25 + 1 := by decide +kernel
theorem d_X6_takeOpening_26 : decode cX6_takeOpening 26 = .ok (.dup, 1) ∧ 27 = 26 + 1 := by decide +kernel
theorem d_X6_takeOpening_27 : decode cX6_takeOpening 27 = .ok (.getfield 97, 3) ∧ 30 = 27 + 3 := by decide +kernel
theorem d_X6_takeOpening_30 : decode cX6_takeOpening 30 = .ok (.aload_n 0, 1) ∧ 31 = 30 + 1 := by decide +kernel
theorem d_X6_takeOpening_31 : decode cX6_takeOpening 31 = .ok (.getfield 52, 3) ∧ 34 = 31 + 3 := by decide +kernel
theorem d_X6_takeOpening_34 : decode cX6_takeOpening 34 = .ok (.bipush 32, 2) ∧ 36 = 34 + 2 := by decide +kernel
theorem d_X6_takeOpening_36 : decode cX6_takeOpening 36 = .ok (.if_icmp .ne 7, 3) ∧ 39 = 36 + 3 ∧ (36 : Int) + 7 = ((43 : Nat) : Int) := by decide +kernel
theorem d_X6_takeOpening_39 : decode cX6_takeOpening 39 = .ok (.iconst 1, 1) ∧ 40 = 39 + 1 := by decide +kernel
theorem d_X6_takeOpening_40 : decode cX6_takeOpening 40 = .ok (.goto 4, 3) ∧ (40 : Int) + (4) = ((44 : Nat) : Int) := by decide +kernel
theorem d_X6_takeOpening_43 : decode cX6_takeOpening 43 = .ok (.iconst 0, 1) ∧ 44 = 43 + 1 := by decide +kernel
theorem d_X6_takeOpening_44 : decode cX6_takeOpening 44 = .ok (.iadd, 1) ∧ 45 = 44 + 1 := by decide +kernel
theorem d_X6_takeOpening_45 : decode cX6_takeOpening 45 = .ok (.putfield 97, 3) ∧ 48 = 45 + 3 := by decide +kernel
theorem d_X6_takeOpening_48 : decode cX6_takeOpening 48 = .ok (.aload_n 0, 1) ∧ 49 = 48 + 1 := by decide +kernel
theorem d_X6_takeOpening_49 : decode cX6_takeOpening 49 = .ok (.aload_n 0, 1) ∧ 50 = 49 + 1 := by decide +kernel
theorem d_X6_takeOpening_50 : decode cX6_takeOpening 50 = .ok (.getfield 52, 3) ∧ 53 = 50 + 3 := by decide +kernel
theorem d_X6_takeOpening_53 : decode cX6_takeOpening 53 = .ok (.bipush 28, 2) ∧ 55 = 53 + 2 := by decide +kernel
theorem d_X6_takeOpening_55 : decode cX6_takeOpening 55 = .ok (.if_icmp .ne 8, 3) ∧ 58 = 55 + 3 ∧ (55 : Int) + 8 = ((63 : Nat) : Int) := by decide +kernel
theorem d_X6_takeOpening_58 : decode cX6_takeOpening 58 = .ok (.bipush 31, 2) ∧ 60 = 58 + 2 := by decide +kernel
theorem d_X6_takeOpening_60 : decode cX6_takeOpening 60 = .ok (.goto 7, 3) ∧ (60 : Int) + (7) = ((67 : Nat) : Int) := by decide +kernel
theorem d_X6_takeOpening_63 : decode cX6_takeOpening 63 = .ok (.aload_n 0, 1) ∧ 64 = 63 + 1 := by decide +kernel
theorem d_X6_takeOpening_64 : decode cX6_takeOpening 64 = .ok (.getfield 52, 3) ∧ 67 = 64 + 3 := by decide +kernel
theorem d_X6_takeOpening_67 : decode cX6_takeOpening 67 = .ok (.invokevirtual 125, 3) ∧ 70 = 67 + 3 := by decide +kernel
theorem d_X6_takeOpening_70 : decode cX6_takeOpening 70 = .ok (.return_, 1) := by decide +kernel
theorem d_X6_hasName_0 : decode cX6_hasName 0 = .ok (.aload_n 0, 1) ∧ 1 = 0 + 1 := by decide +kernel
theorem d_X6_hasName_1 : decode cX6_hasName 1 = .ok (.getfield 85, 3) ∧ 4 = 1 + 3 := by decide +kernel
theorem d_X6_hasName_4 : decode cX6_hasName 4 = .ok (.tableswitch 51 17 19 #[39, 39, 28], 28) := by decide +kernel
theorem d_X6_hasName_32 : decode cX6_hasName 32 = .ok (.iload_n 1, 1) ∧ 33 = 32 + 1 := by decide +kernel
theorem d_X6_hasName_33 : decode cX6_hasName 33 = .ok (.iconst 4, 1) ∧ 34 = 33 + 1 := by decide +kernel
theorem d_X6_hasName_34 : decode cX6_hasName 34 = .ok (.if_icmp .ge 7, 3) ∧ 37 = 34 + 3 ∧ (34 : Int) + 7 = ((41 : Nat) : Int) := by decide +kernel
theorem d_X6_hasName_37 : decode cX6_hasName 37 = .ok (.iconst 1, 1) ∧ 38 = 37 + 1 := by decide +kernel
theorem d_X6_hasName_38 : decode cX6_hasName 38 = .ok (.goto 4, 3) ∧ (38 : Int) + (4) = ((42 : Nat) : Int) := by decide +kernel
theorem d_X6_hasName_41 : decode cX6_hasName 41 = .ok (.iconst 0, 1) ∧ 42 = 41 + 1 := by decide +kernel
theorem d_X6_hasName_42 : decode cX6_hasName 42 = .ok (.ireturn, 1) := by decide +kernel
theorem d_X6_hasName_43 : decode cX6_hasName 43 = .ok (.iload_n 1, 1) ∧ 44 = 43 + 1 := by decide +kernel
theorem d_X6_hasName_44 : decode cX6_hasName 44 = .ok (.bipush 8, 2) ∧ 46 = 44 + 2 := by decide +kernel
theorem d_X6_hasName_46 : decode cX6_hasName 46 = .ok (.if_icmp .ge 7, 3) ∧ 49 = 46 + 3 ∧ (46 : Int) + 7 = ((53 : Nat) : Int) := by decide +kernel
theorem d_X6_hasName_49 : decode cX6_hasName 49 = .ok (.iconst 1, 1) ∧ 50 = 49 + 1 := by decide +kernel
theorem d_X6_hasName_50 : decode cX6_hasName 50 = .ok (.goto 4, 3) ∧ (50 : Int) + (4) = ((54 : Nat) : Int) := by decide +kernel
theorem d_X6_hasName_53 : decode cX6_hasName 53 = .ok (.iconst 0, 1) ∧ 54 = 53 + 1 := by decide +kernel
theorem d_X6_hasName_54 : decode cX6_hasName 54 = .ok (.ireturn, 1) := by decide +kernel
theorem d_X6_hasName_55 : decode cX6_hasName 55 = .ok (.iload_n 1, 1) ∧ 56 = 55 + 1 := by decide +kernel
theorem d_X6_hasName_56 : decode cX6_hasName 56 = .ok (.iconst 4, 1) ∧ 57 = 56 + 1 := by decide +kernel
theorem d_X6_hasName_57 : decode cX6_hasName 57 = .ok (.if_icmp .lt 9, 3) ∧ 60 = 57 + 3 ∧ (57 : Int) + 9 = ((66 : Nat) : Int) := by decide +kernel
theorem d_X6_hasName_60 : decode cX6_hasName 60 = .ok (.iload_n 1, 1) ∧ 61 = 60 + 1 := by decide +kernel
theorem d_X6_hasName_61 : decode cX6_hasName 61 = .ok (.bipush 8, 2) ∧ 63 = 61 + 2 := by decide +kernel
theorem d_X6_hasName_63 : decode cX6_hasName 63 = .ok (.if_icmp .lt 7, 3) ∧ 66 = 63 + 3 ∧ (63 : Int) + 7 = ((70 : Nat) : Int) := by decide +kernel
theorem d_X6_hasName_66 : decode cX6_hasName 66 = .ok (.iconst 1, 1) ∧ 67 = 66 + 1 := by decide +kernel
theorem d_X6_hasName_67 : decode cX6_hasName 67 = .ok (.goto 4, 3) ∧ (67 : Int) + (4) = ((71 : Nat) : Int) := by decide +kernel
theorem d_X6_hasName_70 : decode cX6_hasName 70 = .ok (.iconst 0, 1) ∧ 71 = 70 + 1 := by decide +kernel
theorem d_X6_hasName_71 : decode cX6_hasName 71 = .ok (.ireturn, 1) := by decide +kernel
theorem d_X6_takeOperator_0 : decode cX6_takeOperator 0 = .ok (.aload_n 0, 1) ∧ 1 = 0 + 1 := by decide +kernel
theorem d_X6_takeOperator_1 : decode cX6_takeOperator 1 = .ok (.getfield 97, 3) ∧ 4 = 1 + 3 := by decide +kernel
theorem d_X6_takeOperator_4 : decode cX6_takeOperator 4 = .ok (.ifCond .le 7, 3) ∧ 7 = 4 + 3 ∧ (4 : Int) + 7 = ((11 : Nat) : Int) := by decide +kernel
theorem d_X6_takeOperator_7 : decode cX6_takeOperator 7 = .ok (.iconst 1, 1) ∧ 8 = 7 + 1 := by decide +kernel
theorem d_X6_takeOperator_8 : decode cX6_takeOperator 8 = .ok (.goto 4, 3) ∧ (8 : Int) + (4) = ((12 : Nat) : Int) := by decide +kernel
theorem d_X6_takeOperator_11 : decode cX6_takeOperator 11 = .ok (.iconst 0, 1) ∧ 12 = 11 + 1 := by decide +kernel
theorem d_X6_takeOperator_12 : decode cX6_takeOperator 12 = .ok (.istore_n 1, 1) ∧ 13 = 12 + 1 := by decide +kernel
theorem d_X6_takeOperator_13 : decode cX6_takeOperator 13 = .ok (.aload_n 0, 1) ∧ 14 = 13 + 1 := by decide +kernel
theorem d_X6_takeOperator_14 : decode cX6_takeOperator 14 = .ok (.getfield 52, 3) ∧ 17 = 14 + 3 := by decide +kernel
theorem d_X6_takeOperator_17 : decode cX6_takeOperator 17 = .ok (.bipush 27, 2) ∧ 19 = 17 + 2 := by decide +kernel
theorem d_X6_takeOperator_19 : decode cX6_takeOperator 19 = .ok (.if_icmp .lt 19, 3) ∧ 22 = 19 + 3 ∧ (19 : Int) + 19 = ((38 : Nat) : Int) := by decide +kernel
theorem d_X6_takeOperator_22 : decode cX6_takeOperator 22 = .ok (.aload_n 0, 1) ∧ 23 = 22 + 1 := by decide +kernel
theorem d_X6_takeOperator_23 : decode cX6_takeOperator 23 = .ok (.getfield 52, 3) ∧ 26 = 23 + 3 := by decide +kernel
theorem d_X6_takeOperator_26 : decode cX6_takeOperator 26 = .ok (.bipush 30, 2) ∧ 28 = 26 + 2 := by decide +kernel
theorem d_X6_takeOperator_28 : decode cX6_takeOperator 28 = .ok (.if_icmp .gt 10, 3) ∧ 31 = 28 + 3 ∧ (28 : Int) + 10 = ((38 : Nat) : Int) := by decide +kernel
theorem d_X6_takeOperator_31 : decode cX6_takeOperator 31 = .ok (.aload_n 0, 1) ∧ 32 = 31 + 1 := by decide +kernel
theorem d_X6_takeOperator_32 : decode cX6_takeOperator 32 = .ok (.invokevirtual 128, 3) ∧ 35 = 32 + 3 := by decide +kernel
theorem d_X6_takeOperator_35 : decode cX6_takeOperator 35 = .ok (.goto 171, 3) ∧ (35 : Int) + (171) = ((206 : Nat) : Int) := by decide +kernel
theorem d_X6_takeOperator_38 : decode cX6_takeOperator 38 = .ok (.iload_n 1, 1) ∧ 39 = 38 + 1 := by decide +kernel
theorem d_X6_takeOperator_39 : decode cX6_takeOperator 39 = .ok (.ifCond .eq 19, 3) ∧ 42 = 39 + 3 ∧ (39 : Int) + 19 = ((58 : Nat) : Int) := by decide +kernel
theorem d_X6_takeOperator_42 : decode cX6_takeOperator 42 = .ok (.aload_n 0, 1) ∧ 43 = 42 + 1 := by decide +kernel
theorem d_X6_takeOperator_43 : decode cX6_takeOperator 43 = .ok (.getfield 52, 3) ∧ 46 = 43 + 3 := by decide +kernel
theorem d_X6_takeOperator_46 : decode cX6_takeOperator 46 = .ok (.bipush 33, 2) ∧ 48 = 46 + 2 := by decide +kernel
theorem d_X6_takeOperator_48 : decode cX6_takeOperator 48 = .ok (.if_icmp .ne 10, 3) ∧ 51 = 48 + 3 ∧ (48 : Int) + 10 = ((58 : Nat) : Int) := by decide +kernel
theorem d_X6_takeOperator_51 : decode cX6_takeOperator 51 = .ok (.aload_n 0, 1) ∧ 52 = 51 + 1 := by decide +kernel
theorem d_X6_takeOperator_52 : decode cX6_takeOperator 52 = .ok (.invokevirtual 131, 3) ∧ 55 = 52 + 3 := by decide +kernel
theorem d_X6_takeOperator_55 : decode cX6_takeOperator 55 = .ok (.goto 151, 3) ∧ (55 : Int) + (151) = ((206 : Nat) : Int) := by decide +kernel
theorem d_X6_takeOperator_58 : decode cX6_takeOperator 58 = .ok (.iload_n 1, 1) ∧ 59 = 58 + 1 := by decide +kernel
theorem d_X6_takeOperator_59 : decode cX6_takeOperator 59 = .ok (.ifCond .ne 49, 3) ∧ 62 = 59 + 3 ∧ (59 : Int) + 49 = ((108 : Nat) : Int) := by decide +kernel
theorem d_X6_takeOperator_62 : decode cX6_takeOperator 62 = .ok (.aload_n 0, 1) ∧ 63 = 62 + 1 := by decide +kernel
theorem d_X6_takeOperator_63 : decode cX6_takeOperator 63 = .ok (.getfield 85, 3) ∧ 66 = 63 + 3 := by decide +kernel
theorem d_X6_takeOperator_66 : decode cX6_takeOperator 66 = .ok (.bipush 16, 2) ∧ 68 = 66 + 2 := by decide +kernel
theorem d_X6_takeOperator_68 : decode cX6_takeOperator 68 = .ok (.if_icmp .eq 40, 3) ∧ 71 = 68 + 3 ∧ (68 : Int) + 40 = ((108 : Nat) : Int) := by decide +kernel
theorem d_X6_takeOperator_71 : decode cX6_takeOperator 71 = .ok (.aload_n 0, 1) ∧ 72 = 71 + 1 := by decide +kernel
theorem d_X6_takeOperator_72 : decode cX6_takeOperator 72 = .ok (.getfield 104, 3) ∧ 75 = 72 + 3 := by decide +kernel
theorem d_X6_takeOperator_75 : decode cX6_takeOperator 75 = .ok (.ifCond .ne 33, 3) ∧ 78 = 75 + 3 ∧ (75 : Int) + 33 = ((108 : Nat) : Int) := by decide +kernel
theorem d_X6_takeOperator_78 : decode cX6_takeOperator 78 = .ok (.aload_n 0, 1) ∧ 79 = 78 + 1 := by decide +kernel
theorem d_X6_takeOperator_79 : decode cX6_takeOperator 79 = .ok (.getfield 52, 3) ∧ 82 = 79 + 3 := by decide +kernel
theorem d_X6_takeOperator_82 : decode cX6_takeOperator 82 = .ok (.bipush 21, 2) ∧ 84 = 82 + 2 := by decide +kernel
theorem d_X6_takeOperator_84 : decode cX6_takeOperator 84 = .ok (.if_icmp .lt 24, 3) ∧ 87 = 84 + 3 ∧ (84 : Int) + 24 = ((108 : Nat) : Int) := by decide +kernel
theorem d_X6_takeOperator_87 : decode cX6_takeOperator 87 = .ok (.aload_n 0, 1) ∧ 88 = 87 + 1 := by decide +kernel
theorem d_X6_takeOperator_88 : decode cX6_takeOperator 88 = .ok (.getfield 52, 3) ∧ 91 = 88 + 3 := by decide +kernel
theorem d_X6_takeOperator_91 : decode cX6_takeOperator 91 = .ok (.bipush 26, 2) ∧ 93 = 91 + 2 := by decide +kernel
theorem d_X6_takeOperator_93 : decode cX6_takeOperator 93 = .ok (.if_icmp .gt 15, 3) ∧ 96 = 93 + 3 ∧ (93 : Int) + 15 = ((108 : Nat) : Int) := by decide +kernel
theorem d_X6_takeOperator_96 : decode cX6_takeOperator 96 = .ok (.aload_n 0, 1) ∧ 97 = 96 + 1 := by decide +kernel
theorem d_X6_takeOperator_97 : decode cX6_takeOperator 97 = .ok (.iconst 1, 1) ∧ 98 = 97 + 1 := by decide +kernel
theorem d_X6_takeOperator_98 : decode cX6_takeOperator 98 = .ok (.putfield 104, 3) ∧ 101 = 98 + 3 := by decide +kernel
theorem d_X6_takeOperator_101 : decode cX6_takeOperator 101 = .ok (.aload_n 0, 1) ∧ 102 = 101 + 1 := by decide +kernel
theorem d_X6_takeOperator_102 : decode cX6_takeOperator 102 = .ok (.invokevirtual 128, 3) ∧ 105 = 102 + 3 := by decide +kernel
theorem d_X6_takeOperator_105 : decode cX6_takeOperator 105 = .ok (.goto 101, 3) ∧ (105 : Int) + (101) = ((206 : Nat) : Int) := by decide +kernel
theorem d_X6_takeOperator_108 : decode cX6_takeOperator 108 = .ok (.iload_n 1, 1) ∧ 109 = 108 + 1 := by decide +kernel
theorem d_X6_takeOperator_109 : decode cX6_takeOperator 109 = .ok (.ifCond .ne 45, 3) ∧ 112 = 109 + 3 ∧ (109 : Int) + 45 = ((154 : Nat) : Int) := by decide +kernel
theorem d_X6_takeOperator_112 : decode cX6_takeOperator 112 = .ok (.aload_n 0, 1) ∧ 113 = 112 + 1 := by decide +kernel
theorem d_X6_takeOperator_113 : decode cX6_takeOperator 113 = .ok (.getfield 104, 3) ∧ 116 = 113 + 3 := by decide +kernel
theorem d_X6_takeOperator_116 : decode cX6_takeOperator 116 = .ok (.ifCond .eq 38, 3) ∧ 119 = 116 + 3 ∧ (116 : Int) + 38 = ((154 : Nat) : Int) := by decide +kernel
theorem d_X6_takeOperator_119 : decode cX6_takeOperator 119 = .ok (.aload_n 0, 1) ∧ 120 = 119 + 1 := by decide +kernel
theorem d_X6_takeOperator_120 : decode cX6_takeOperator 120 = .ok (.getfield 52, 3) ∧ 123 = 120 + 3 := by decide +kernel
theorem d_X6_takeOperator_123 : decode cX6_takeOperator 123 = .ok (.bipush 12, 2) ∧ 125 = 123 + 2 := by decide +kernel
theorem d_X6_takeOperator_125 : decode cX6_takeOperator 125 = .ok (.if_icmp .eq 12, 3) ∧ 128 = 125 + 3 ∧ (125 : Int) + 12 = ((137 : Nat) : Int) := by decide +kernel
theorem d_X6_takeOperator_128 : decode cX6_takeOperator 128 = .ok (.aload_n 0, 1) ∧ 129 = 128 + 1 := by decide +kernel
theorem d_X6_takeOperator_129 : decode cX6_takeOperator 129 = .ok (.getfield 52, 3) ∧ 132 = 129 + 3 := by decide +kernel
theorem d_X6_takeOperator_132 : decode cX6_takeOperator 132 = .ok (.bipush 13, 2) ∧ 134 = 132 + 2 := by decide +kernel
theorem d_X6_takeOperator_134 : decode cX6_takeOperator 134 = .ok (.if_icmp .ne 20, 3) ∧ 137 = 134 + 3 ∧ (134 : Int) + 20 = ((154 : Nat) : Int) := by decide +kernel
theorem d_X6_takeOperator_137 : decode cX6_takeOperator 137 = .ok (.aload_n 0, 1) ∧ 138 = 137 + 1 := by decide +kernel
theorem d_X6_takeOperator_138 : decode cX6_takeOperator 138 = .ok (.iconst 0, 1) ∧ 139 = 138 + 1 := by decide +kernel
theorem d_X6_takeOperator_139 : decode cX6_takeOperator 139 = .ok (.putfield 104, 3) ∧ 142 = 139 + 3 := by decide +kernel
theorem d_X6_takeOperator_142 : decode cX6_takeOperator 142 = .ok (.aload_n 0, 1) ∧ 143 = 142 + 1 := by decide +kernel
theorem d_X6_takeOperator_143 : decode cX6_takeOperator 143 = .ok (.iconst 1, 1) ∧ 144 = 143 + 1 := by decide +kernel
theorem d_X6_takeOperator_144 : decode cX6_takeOperator 144 = .ok (.putfield 100, 3) ∧ 147 = 144 + 3 := by decide +kernel
theorem d_X6_takeOperator_147 : decode cX6_takeOperator 147 = .ok (.aload_n 0, 1) ∧ 148 = 147 + 1 := by decide +kernel
theorem d_X6_takeOperator_148 : decode cX6_takeOperator 148 = .ok (.invokevirtual 128, 3) ∧ 151 = 148 + 3 := by decide +kernel
theorem d_X6_takeOperator_151 : decode cX6_takeOperator 151 = .ok (.goto 55, 3) ∧ (151 : Int) + (55) = ((206 : Nat) : Int) := by decide +kernel
theorem d_X6_takeOperator_154 : decode cX6_takeOperator 154 = .ok (.iload_n 1, 1) ∧ 155 = 154 + 1 := by decide +kernel
theorem d_X6_takeOperator_155 : decode cX6_takeOperator 155 = .ok (.ifCond .ne 46, 3) ∧ 158 = 155 + 3 ∧ (155 : Int) + 46 = ((201 : Nat) : Int) := by decide +kernel
theorem d_X6_takeOperator_158 : decode cX6_takeOperator 158 = .ok (.aload_n 0, 1) ∧ 159 = 158 + 1 := by decide +kernel
theorem d_X6_takeOperator_159 : decode cX6_takeOperator 159 = .ok (.getfield 104, 3) ∧ 162 = 159 + 3 := by decide +kernel
theorem d_X6_takeOperator_162 : decode cX6_takeOperator 162 = .ok (.aload_n 0, 1) ∧ 163 = 162 + 1 := by decide +kernel
theorem d_X6_takeOperator_163 : decode cX6_takeOperator 163 = .ok (.getfield 85, 3) ∧ 166 = 163 + 3 := by decide +kernel
theorem d_X6_takeOperator_166 : decode cX6_takeOperator 166 = .ok (.bipush 16, 2) ∧ 168 = 166 + 2 := by decide +kernel
theorem d_X6_takeOperator_168 : decode cX6_takeOperator 168 = .ok (.if_icmp .eq 7, 3) ∧ 171 = 168 + 3 ∧ (168 : Int) + 7 = ((175 : Nat) : Int) := by decide +kernel
theorem d_X6_takeOperator_171 : decode cX6_takeOperator 171 = .ok (.iconst 1, 1) ∧ 172 = 171 + 1 := by decide +kernel
theorem d_X6_takeOperator_172 : decode cX6_takeOperator 172 = .ok (.goto 4, 3) ∧ (172 : Int) + (4) = ((176 : Nat) : Int) := by decide +kernel
theorem d_X6_takeOperator_175 : decode cX6_takeOperator 175 = .ok (.iconst 0, 1) ∧ 176 = 175 + 1 := by decide +kernel
theorem d_X6_takeOperator_176 : decode cX6_takeOperator 176 = .ok (.if_icmp .ne 25, 3) ∧ 179 = 176 + 3 ∧ (176 : Int) + 25 = ((201 : Nat) : Int) := by decide +kernel
theorem d_X6_takeOperator_179 : decode cX6_takeOperator 179 = .ok (.aload_n 0, 1) ∧ 180 = 179 + 1 := by decide +kernel
theorem d_X6_takeOperator_180 : decode cX6_takeOperator 180 = .ok (.getfield 52, 3) ∧ 183 = 180 + 3 := by decide +kernel
theorem d_X6_takeOperator_183 : decode cX6_takeOperator 183 = .ok (.bipush 34, 2) ∧ 185 = 183 + 2 := by decide +kernel
theorem d_X6_takeOperator_185 : decode cX6_takeOperator 185 = .ok (.if_icmp .ne 16, 3) ∧ 188 = 185 + 3 ∧ (185 : Int) + 16 = ((201 : Nat) : Int) := by decide +kernel
theorem d_X6_takeOperator_188 : decode cX6_takeOperator 188 = .ok (.aload_n 0, 1) ∧ 189 = 188 + 1 := by decide +kernel
theorem d_X6_takeOperator_189 : decode cX6_takeOperator 189 = .ok (.iconst 1, 1) ∧ 190 = 189 + 1 := by decide +kernel
theorem d_X6_takeOperator_190 : decode cX6_takeOperator 190 = .ok (.invokevirtual 134, 3) ∧ 193 = 190 + 3 := by decide +kernel
theorem d_X6_takeOperator_193 : decode cX6_takeOperator 193 = .ok (.aload_n 0, 1) ∧ 194 = 193 + 1 := by decide +kernel
theorem d_X6_takeOperator_194 : decode cX6_takeOperator 194 = .ok (.iconst 0, 1) ∧ 195 = 194 + 1 := by decide +kernel
theorem d_X6_takeOperator_195 : decode cX6_takeOperator 195 = .ok (.putfield 31, 3) ∧ 198 = 195 + 3 := by decide +kernel
theorem d_X6_takeOperator_198 : decode cX6_takeOperator 198 = .ok (.goto 8, 3) ∧ (198 : Int) + (8) = ((206 : Nat) : Int) := by decide +kernel
theorem d_X6_takeOperator_201 : decode cX6_takeOperator 201 = .ok (.aload_n 0, 1) ∧ 202 = 201 + 1 := by decide +kernel
theorem d_X6_takeOperator_202 : decode cX6_takeOperator 202 = .ok (.iconst 1, 1) ∧ 203 = 202 + 1 := by decide +kernel
theorem d_X6_takeOperator_203 : decode cX6_takeOperator 203 = .ok (.invokevirtual 73, 3) ∧ 206 = 203 + 3 := by decide +kernel
theorem d_X6_takeOperator_206 : decode cX6_takeOperator 206 = .ok (.return_, 1) := by decide +kernel
theorem d_X6_takeBinary_0 : decode cX6_takeBinary 0 = .ok (.aload_n 0, 1) ∧ 1 = 0 + 1 := by decide +kernel
theorem d_X6_takeBinary_1 : decode cX6_takeBinary 1 = .ok (.aload_n 0, 1) ∧ 2 = 1 + 1 := by decide +kernel
theorem d_X6_takeBinary_2 : decode cX6_takeBinary 2 = .ok (.getfield 52, 3) ∧ 5 = 2 + 3 := by decide +kernel
theorem d_X6_takeBinary_5 : decode cX6_takeBinary 5 = .ok (.invokestatic 137, 3) ∧ 8 = 5 + 3 := by decide +kernel
theorem d_X6_takeBinary_8 : decode cX6_takeBinary 8 = .ok (.invokevirtual 134, 3) ∧ 11 = 8 + 3 := by decide +kernel
theorem d_X6_takeBinary_11 : decode cX6_takeBinary 11 = .ok (.aload_n 0, 1) ∧ 12 = 11 + 1 := by decide +kernel
theorem d_X6_takeBinary_12 : decode cX6_takeBinary 12 = .ok (.aload_n 0, 1) ∧ 13 = 12 + 1 := by decide +kernel
theorem d_X6_takeBinary_13 : decode cX6_takeBinary 13 = .ok (.getfield 52, 3) ∧ 16 = 13 + 3 := by decide +kernel
theorem d_X6_takeBinary_16 : decode cX6_takeBinary 16 = .ok (.invokevirtual 125, 3) ∧ 19 = 16 + 3 := by decide +kernel
theorem d_X6_takeBinary_19 : decode cX6_takeBinary 19 = .ok (.aload_n 0, 1) ∧ 20 = 19 + 1 := by decide +kernel
theorem d_X6_takeBinary_20 : decode cX6_takeBinary 20 = .ok (.iconst 3, 1) ∧ 21 = 20 + 1 := by decide +kernel
theorem d_X6_takeBinary_21 : decode cX6_takeBinary 21 = .ok (.putfield 31, 3) ∧ 24 = 21 + 3 := by decide +kernel
theorem d_X6_takeBinary_24 : decode cX6_takeBinary 24 = .ok (.return_, 1) := by decide +kernel
theorem d_X6_takeClose_0 : decode cX6_takeClose 0 = .ok (.aload_n 0, 1) ∧ 1 = 0 + 1 := by decide +kernel
theorem d_X6_takeClose_1 : decode cX6_takeClose 1 = .ok (.iconst 1, 1) ∧ 2 = 1 + 1 := by decide +kernel
theorem d_X6_takeClose_2 : decode cX6_takeClose 2 = .ok (.invokevirtual 134, 3) ∧ 5 = 2 + 3 := by decide +kernel
theorem d_X6_takeClose_5 : decode cX6_takeClose 5 = .ok (.aload_n 0, 1) ∧ 6 = 5 + 1 := by decide +kernel
theorem d_X6_takeClose_6 : decode cX6_takeClose 6 = .ok (.getfield 91, 3) ∧ 9 = 6 + 3 := by decide +kernel
theorem d_X6_takeClose_9 : decode cX6_takeClose 9 = .ok (.ifCond .le 49, 3) ∧ 12 = 9 + 3 ∧ (9 : Int) + 49 = ((58 : Nat) : Int) := by decide +kernel
theorem d_X6_takeClose_12 : decode cX6_takeClose 12 = .ok (.aload_n 0, 1) ∧ 13 = 12 + 1 := by decide +kernel
theorem d_X6_takeClose_13 : decode cX6_takeClose 13 = .ok (.getfield 9, 3) ∧ 16 = 13 + 3 := by decide +kernel
theorem d_X6_takeClose_16 : decode cX6_takeClose 16 = .ok (.aload_n 0, 1) ∧ 17 = 16 + 1 := by decide +kernel
theorem d_X6_takeClose_17 : decode cX6_takeClose 17 = .ok (.getfield 91, 3) ∧ 20 = 17 + 3 := by decide +kernel
theorem d_X6_takeClose_20 : decode cX6_takeClose 20 = .ok (.iconst 1, 1) ∧ 21 = 20 + 1 := by decide +kernel
theorem d_X6_takeClose_21 : decode cX6_takeClose 21 = .ok (.isub, 1) ∧ 22 = 21 + 1 := by decide +kernel
theorem d_X6_takeClose_22 : decode cX6_takeClose 22 = .ok (.iaload, 1) ∧ 23 = 22 + 1 := by decide +kernel
theorem d_X6_takeClose_23 : decode cX6_takeClose 23 = .ok (.bipush 32, 2) ∧ 25 = 23 + 2 := by decide +kernel
theorem d_X6_takeClose_25 : decode cX6_takeClose 25 = .ok (.if_icmp .ne 33, 3) ∧ 28 = 25 + 3 ∧ (25 : Int) + 33 = ((58 : Nat) : Int) := by decide +kernel
theorem d_X6_takeClose_28 : decode cX6_takeClose 28 = .ok (.aload_n 0, 1) ∧ 29 = 28 + 1 := by decide +kernel
theorem d_X6_takeClose_29 : decode cX6_takeClose 29 = .ok (.dup, 1) ∧ 30 = 29 + 1 := by decide +kernel
theorem d_X6_takeClose_30 : decode cX6_takeClose 30 = .ok (.getfield 91, 3) ∧ 33 = 30 + 3 := by decide +kernel
theorem d_X6_takeClose_33 : decode cX6_takeClose 33 = .ok (.iconst 1, 1) ∧ 34 = 33 + 1 := by decide +kernel
theorem d_X6_takeClose_34 : decode cX6_takeClose 34 = .ok (.isub, 1) ∧ 35 = 34 + 1 := by decide +kernel
theorem d_X6_takeClose_35 : decode cX6_takeClose 35 = .ok (.putfield 91, 3) ∧ 38 = 35 + 3 := by decide +kernel
theorem d_X6_takeClose_38 : decode cX6_takeClose 38 = .ok (.aload_n 0, 1) ∧ 39 = 38 + 1 := by decide +kernel
theorem d_X6_takeClose_39 : decode cX6_takeClose 39 = .ok (.dup, 1) ∧ 40 = 39 + 1 := by decide +kernel
theorem d_X6_takeClose_40 : decode cX6_takeClose 40 = .ok (.getfield 94, 3) ∧ 43 = 40 + 3 := by decide +kernel
theorem d_X6_takeClose_43 : decode cX6_takeClose 43 = .ok (.iconst 1, 1) ∧ 44 = 43 + 1 := by decide +kernel
theorem d_X6_takeClose_44 : decode cX6_takeClose 44 = .ok (.isub, 1) ∧ 45 = 44 + 1 := by decide +kernel
theorem d_X6_takeClose_45 : decode cX6_takeClose 45 = .ok (.putfield 94, 3) ∧ 48 = 45 + 3 := by decide +kernel
theorem d_X6_takeClose_48 : decode cX6_takeClose 48 = .ok (.aload_n 0, 1) ∧ 49 = 48 + 1 := by decide +kernel
theorem d_X6_takeClose_49 : decode cX6_takeClose 49 = .ok (.dup, 1) ∧ 50 = 49 + 1 := by decide +kernel
theorem d_X6_takeClose_50 : decode cX6_takeClose 50 = .ok (.getfield 97, 3) ∧ 53 = 50 + 3 := by decide +kernel
theorem d_X6_takeClose_53 : decode cX6_takeClose 53 = .ok (.iconst 1, 1) ∧ 54 = 53 + 1 := by decide +kernel
theorem d_X6_takeClose_54 : decode cX6_takeClose 54 = .ok (.isub, 1) ∧ 55 = 54 + 1 := by decide +kernel
theorem d_X6_takeClose_55 : decode cX6_takeClose 55 = .ok (.putfield 97, 3) ∧ 58 = 55 + 3 := by decide +kernel
theorem d_X6_takeClose_58 : decode cX6_takeClose 58 = .ok (.return_, 1) := by decide +kernel
theorem d_X6_push_0 : decode cX6_push 0 = .ok (.aload_n 0, 1) ∧ 1 = 0 + 1 := by decide +kernel
theorem d_X6_push_1 : decode cX6_push 1 = .ok (.getfield 91, 3) ∧ 4 = 1 + 3 := by decide +kernel
theorem d_X6_push_4 : decode cX6_push 4 = .ok (.aload_n 0, 1) ∧ 5 = 4 + 1 := by decide +kernel
theorem d_X6_push_5 : decode cX6_push 5 = .ok (.getfield 9, 3) ∧ 8 = 5 + 3 := by decide +kernel
theorem d_X6_push_8 : decode cX6_push 8 = .ok (.arraylength, 1) ∧ 9 = 8 + 1 := by decide +kernel
theorem d_X6_push_9 : decode cX6_push 9 = .ok (.if_icmp .ge 23, 3) ∧ 12 = 9 + 3 ∧ (9 : Int) + 23 = ((32 : Nat) : Int) := by decide +kernel
theorem d_X6_push_12 : decode cX6_push 12 = .ok (.aload_n 0, 1) ∧ 13 = 12 + 1 := by decide +kernel
theorem d_X6_push_13 : decode cX6_push 13 = .ok (.getfield 9, 3) ∧ 16 = 13 + 3 := by decide +kernel
theorem d_X6_push_16 : decode cX6_push 16 = .ok (.aload_n 0, 1) ∧ 17 = 16 + 1 := by decide +kernel
theorem d_X6_push_17 : decode cX6_push 17 = .ok (.getfield 91, 3) ∧ 20 = 17 + 3 := by decide +kernel
theorem d_X6_push_20 : decode cX6_push 20 = .ok (.iload_n 1, 1) ∧ 21 = 20 + 1 := by decide +kernel
theorem d_X6_push_21 : decode cX6_push 21 = .ok (.iastore, 1) ∧ 22 = 21 + 1 := by decide +kernel
theorem d_X6_push_22 : decode cX6_push 22 = .ok (.aload_n 0, 1) ∧ 23 = 22 + 1 := by decide +kernel
theorem d_X6_push_23 : decode cX6_push 23 = .ok (.dup, 1) ∧ 24 = 23 + 1 := by decide +kernel
theorem d_X6_push_24 : decode cX6_push 24 = .ok (.getfield 91, 3) ∧ 27 = 24 + 3 := by decide +kernel
theorem d_X6_push_27 : decode cX6_push 27 = .ok (.iconst 1, 1) ∧ 28 = 27 + 1 := by decide +kernel
theorem d_X6_push_28 : decode cX6_push 28 = .ok (.iadd, 1) ∧ 29 = 28 + 1 := by decide +kernel
theorem d_X6_push_29 : decode cX6_push 29 = .ok (.putfield 91, 3) ∧ 32 = 29 + 3 := by decide +kernel
theorem d_X6_push_32 : decode cX6_push 32 = .ok (.return_, 1) := by decide +kernel
theorem d_X6_settle_0 : decode cX6_settle 0 = .ok (.aload_n 0, 1) ∧ 1 = 0 + 1 := by decide +kernel
theorem d_X6_settle_1 : decode cX6_settle 1 = .ok (.getfield 91, 3) ∧ 4 = 1 + 3 := by decide +kernel
theorem d_X6_settle_4 : decode cX6_settle 4 = .ok (.ifCond .le 78, 3) ∧ 7 = 4 + 3 ∧ (4 : Int) + 78 = ((82 : Nat) : Int) := by decide +kernel
theorem d_X6_settle_7 : decode cX6_settle 7 = .ok (.aload_n 0, 1) ∧ 8 = 7 + 1 := by decide +kernel
theorem d_X6_settle_8 : decode cX6_settle 8 = .ok (.getfield 9, 3) ∧ 11 = 8 + 3 := by decide +kernel
theorem d_X6_settle_11 : decode cX6_settle 11 = .ok (.aload_n 0, 1) ∧ 12 = 11 + 1 := by decide +kernel
theorem d_X6_settle_12 : decode cX6_settle 12 = .ok (.getfield 91, 3) ∧ 15 = 12 + 3 := by decide +kernel
theorem d_X6_settle_15 : decode cX6_settle 15 = .ok (.iconst 1, 1) ∧ 16 = 15 + 1 := by decide +kernel
theorem d_X6_settle_16 : decode cX6_settle 16 = .ok (.isub, 1) ∧ 17 = 16 + 1 := by decide +kernel
theorem d_X6_settle_17 : decode cX6_settle 17 = .ok (.iaload, 1) ∧ 18 = 17 + 1 := by decide +kernel
theorem d_X6_settle_18 : decode cX6_settle 18 = .ok (.invokestatic 137, 3) ∧ 21 = 18 + 3 := by decide +kernel
theorem d_X6_settle_21 : decode cX6_settle 21 = .ok (.iload_n 1, 1) ∧ 22 = 21 + 1 := by decide +kernel
theorem d_X6_settle_22 : decode cX6_settle 22 = .ok (.if_icmp .lt 60, 3) ∧ 25 = 22 + 3 ∧ (22 : Int) + 60 = ((82 : Nat) : Int) := by decide +kernel
theorem d_X6_settle_25 : decode cX6_settle 25 = .ok (.aload_n 0, 1) ∧ 26 = 25 + 1 := by decide +kernel
theorem d_X6_settle_26 : decode cX6_settle 26 = .ok (.dup, 1) ∧ 27 = 26 + 1 := by decide +kernel
theorem d_X6_settle_27 : decode cX6_settle 27 = .ok (.getfield 91, 3) ∧ 30 = 27 + 3 := by decide +kernel
theorem d_X6_settle_30 : decode cX6_settle 30 = .ok (.iconst 1, 1) ∧ 31 = 30 + 1 := by decide +kernel
theorem d_X6_settle_31 : decode cX6_settle 31 = .ok (.isub, 1) ∧ 32 = 31 + 1 := by decide +kernel
theorem d_X6_settle_32 : decode cX6_settle 32 = .ok (.putfield 91, 3) ∧ 35 = 32 + 3 := by decide +kernel
theorem d_X6_settle_35 : decode cX6_settle 35 = .ok (.aload_n 0, 1) ∧ 36 = 35 + 1 := by decide +kernel
theorem d_X6_settle_36 : decode cX6_settle 36 = .ok (.getfield 9, 3) ∧ 39 = 36 + 3 := by decide +kernel
theorem d_X6_settle_39 : decode cX6_settle 39 = .ok (.aload_n 0, 1) ∧ 40 = 39 + 1 := by decide +kernel
theorem d_X6_settle_40 : decode cX6_settle 40 = .ok (.getfield 91, 3) ∧ 43 = 40 + 3 := by decide +kernel
theorem d_X6_settle_43 : decode cX6_settle 43 = .ok (.iaload, 1) ∧ 44 = 43 + 1 := by decide +kernel
theorem d_X6_settle_44 : decode cX6_settle 44 = .ok (.istore_n 2, 1) ∧ 45 = 44 + 1 := by decide +kernel
theorem d_X6_settle_45 : decode cX6_settle 45 = .ok (.aload_n 0, 1) ∧ 46 = 45 + 1 := by decide +kernel
theorem d_X6_settle_46 : decode cX6_settle 46 = .ok (.dup, 1) ∧ 47 = 46 + 1 := by decide +kernel
theorem d_X6_settle_47 : decode cX6_settle 47 = .ok (.getfield 94, 3) ∧ 50 = 47 + 3 := by decide +kernel
theorem d_X6_settle_50 : decode cX6_settle 50 = .ok (.iload_n 2, 1) ∧ 51 = 50 + 1 := by decide +kernel
theorem d_X6_settle_51 : decode cX6_settle 51 = .ok (.bipush 11, 2) ∧ 53 = 51 + 2 := by decide +kernel
theorem d_X6_settle_53 : decode cX6_settle 53 = .ok (.if_icmp .eq 9, 3) ∧ 56 = 53 + 3 ∧ (53 : Int) + 9 = ((62 : Nat) : Int) := by decide +kernel
theorem d_X6_settle_56 : decode cX6_settle 56 = .ok (.iload_n 2, 1) ∧ 57 = 56 + 1 := by decide +kernel
theorem d_X6_settle_57 : decode cX6_settle 57 = .ok (.bipush 31, 2) ∧ 59 = 57 + 2 := by decide +kernel
theorem d_X6_settle_59 : decode cX6_settle 59 = .ok (.if_icmp .ne 7, 3) ∧ 62 = 59 + 3 ∧ (59 : Int) + 7 = ((66 : Nat) : Int) := by decide +kernel
theorem d_X6_settle_62 : decode cX6_settle 62 = .ok (.iconst 1, 1) ∧ 63 = 62 + 1 := by decide +kernel
theorem d_X6_settle_63 : decode cX6_settle 63 = .ok (.goto 4, 3) ∧ (63 : Int) + (4) = ((67 : Nat) : Int) := by decide +kernel
theorem d_X6_settle_66 : decode cX6_settle 66 = .ok (.iconst 0, 1) ∧ 67 = 66 + 1 := by decide +kernel
theorem d_X6_settle_67 : decode cX6_settle 67 = .ok (.isub, 1) ∧ 68 = 67 + 1 := by decide +kernel
theorem d_X6_settle_68 : decode cX6_settle 68 = .ok (.putfield 94, 3) ∧ 71 = 68 + 3 := by decide +kernel
theorem d_X6_settle_71 : decode cX6_settle 71 = .ok (.aload_n 0, 1) ∧ 72 = 71 + 1 := by decide +kernel
theorem d_X6_settle_72 : decode cX6_settle 72 = .ok (.getfield 40, 3) ∧ 75 = 72 + 3 := by decide +kernel
theorem d_X6_settle_75 : decode cX6_settle 75 = .ok (.iload_n 2, 1) ∧ 76 = 75 + 1 := by decide +kernel
theorem d_X6_settle_76 : decode cX6_settle 76 = .ok (.invokevirtual 122, 3) ∧ 79 = 76 + 3 := by decide +kernel
theorem d_X6_settle_79 : decode cX6_settle 79 = .ok (.goto (-79), 3) ∧ (79 : Int) + ((-79)) = ((0 : Nat) : Int) := by decide +kernel
theorem d_X6_settle_82 : decode cX6_settle 82 = .ok (.return_, 1) := by decide +kernel
theorem d_X6_rank_0 : decode cX6_rank 0 = .ok (.iload_n 0, 1) ∧ 1 = 0 + 1 := by decide +kernel
theorem d_X6_rank_1 : decode cX6_rank 1 = .ok (.tableswitch 113 11 31 #[103, 101, 99, 113, 113, 113, 113, 113, 113, 113, 113, 113, 113, 113, 113, 113, 105, 105, 107, 107, 110], 99) := by decide +kernel
theorem d_X6_rank_100 : decode cX6_rank 100 = .ok (.iconst 1, 1) ∧ 101 = 100 + 1 := by decide +kernel
theorem d_X6_rank_101 : decode cX6_rank 101 = .ok (.ireturn, 1) := by decide +kernel
theorem d_X6_rank_102 : decode cX6_rank 102 = .ok (.iconst 2, 1) ∧ 103 = 102 + 1 := by decide +kernel
theorem d_X6_rank_103 : decode cX6_rank 103 = .ok (.ireturn, 1) := by decide +kernel
theorem d_X6_rank_104 : decode cX6_rank 104 = .ok (.iconst 3, 1) ∧ 105 = 104 + 1 := by decide +kernel
theorem d_X6_rank_105 : decode cX6_rank 105 = .ok (.ireturn, 1) := by decide +kernel
theorem d_X6_rank_106 : decode cX6_rank 106 = .ok (.iconst 5, 1) ∧ 107 = 106 + 1 := by decide +kernel
theorem d_X6_rank_107 : decode cX6_rank 107 = .ok (.ireturn, 1) := by decide +kernel
theorem d_X6_rank_108 : decode cX6_rank 108 = .ok (.bipush 6, 2) ∧ 110 = 108 + 2 := by decide +kernel
theorem d_X6_rank_110 : decode cX6_rank 110 = .ok (.ireturn, 1) := by decide +kernel
theorem d_X6_rank_111 : decode cX6_rank 111 = .ok (.bipush 7, 2) ∧ 113 = 111 + 2 := by decide +kernel
theorem d_X6_rank_113 : decode cX6_rank 113 = .ok (.ireturn, 1) := by decide +kernel
theorem d_X6_rank_114 : decode cX6_rank 114 = .ok (.iload_n 0, 1) ∧ 115 = 114 + 1 := by decide +kernel
theorem d_X6_rank_115 : decode cX6_rank 115 = .ok (.bipush 21, 2) ∧ 117 = 115 + 2 := by decide +kernel
theorem d_X6_rank_117 : decode cX6_rank 117 = .ok (.if_icmp .lt 13, 3) ∧ 120 = 117 + 3 ∧ (117 : Int) + 13 = ((130 : Nat) : Int) := by decide +kernel
theorem d_X6_rank_120 : decode cX6_rank 120 = .ok (.iload_n 0, 1) ∧ 121 = 120 + 1 := by decide +kernel
theorem d_X6_rank_121 : decode cX6_rank 121 = .ok (.bipush 26, 2) ∧ 123 = 121 + 2 := by decide +kernel
theorem d_X6_rank_123 : decode cX6_rank 123 = .ok (.if_icmp .gt 7, 3) ∧ 126 = 123 + 3 ∧ (123 : Int) + 7 = ((130 : Nat) : Int) := by decide +kernel
theorem d_X6_rank_126 : decode cX6_rank 126 = .ok (.iconst 4, 1) ∧ 127 = 126 + 1 := by decide +kernel
theorem d_X6_rank_127 : decode cX6_rank 127 = .ok (.goto 4, 3) ∧ (127 : Int) + (4) = ((131 : Nat) : Int) := by decide +kernel
theorem d_X6_rank_130 : decode cX6_rank 130 = .ok (.iconst 0, 1) ∧ 131 = 130 + 1 := by decide +kernel
theorem d_X6_rank_131 : decode cX6_rank 131 = .ok (.ireturn, 1) := by decide +kernel
theorem d_X6_next_0 : decode cX6_next 0 = .ok (.aload_n 0, 1) ∧ 1 = 0 + 1 := by decide +kernel
theorem d_X6_next_1 : decode cX6_next 1 = .ok (.getfield 28, 3) ∧ 4 = 1 + 3 := by decide +kernel
theorem d_X6_next_4 : decode cX6_next 4 = .ok (.aload_n 0, 1) ∧ 5 = 4 + 1 := by decide +kernel
theorem d_X6_next_5 : decode cX6_next 5 = .ok (.getfield 24, 3) ∧ 8 = 5 + 3 := by decide +kernel
theorem d_X6_next_8 : decode cX6_next 8 = .ok (.if_icmp .ge 44, 3) ∧ 11 = 8 + 3 ∧ (8 : Int) + 44 = ((52 : Nat) : Int) := by decide +kernel
theorem d_X6_next_11 : decode cX6_next 11 = .ok (.aload_n 0, 1) ∧ 12 = 11 + 1 := by decide +kernel
theorem d_X6_next_12 : decode cX6_next 12 = .ok (.getfield 15, 3) ∧ 15 = 12 + 3 := by decide +kernel
theorem d_X6_next_15 : decode cX6_next 15 = .ok (.aload_n 0, 1) ∧ 16 = 15 + 1 := by decide +kernel
theorem d_X6_next_16 : decode cX6_next 16 = .ok (.getfield 28, 3) ∧ 19 = 16 + 3 := by decide +kernel
theorem d_X6_next_19 : decode cX6_next 19 = .ok (.iaload, 1) ∧ 20 = 19 + 1 := by decide +kernel
theorem d_X6_next_20 : decode cX6_next 20 = .ok (.bipush 32, 2) ∧ 22 = 20 + 2 := by decide +kernel
theorem d_X6_next_22 : decode cX6_next 22 = .ok (.if_icmp .eq 17, 3) ∧ 25 = 22 + 3 ∧ (22 : Int) + 17 = ((39 : Nat) : Int) := by decide +kernel
theorem d_X6_next_25 : decode cX6_next 25 = .ok (.aload_n 0, 1) ∧ 26 = 25 + 1 := by decide +kernel
theorem d_X6_next_26 : decode cX6_next 26 = .ok (.getfield 15, 3) ∧ 29 = 26 + 3 := by decide +kernel
theorem d_X6_next_29 : decode cX6_next 29 = .ok (.aload_n 0, 1) ∧ 30 = 29 + 1 := by decide +kernel
theorem d_X6_next_30 : decode cX6_next 30 = .ok (.getfield 28, 3) ∧ 33 = 30 + 3 := by decide +kernel
theorem d_X6_next_33 : decode cX6_next 33 = .ok (.iaload, 1) ∧ 34 = 33 + 1 := by decide +kernel
theorem d_X6_next_34 : decode cX6_next 34 = .ok (.bipush 10, 2) ∧ 36 = 34 + 2 := by decide +kernel
theorem d_X6_next_36 : decode cX6_next 36 = .ok (.if_icmp .ne 16, 3) ∧ 39 = 36 + 3 ∧ (36 : Int) + 16 = ((52 : Nat) : Int) := by decide +kernel
theorem d_X6_next_39 : decode cX6_next 39 = .ok (.aload_n 0, 1) ∧ 40 = 39 + 1 := by decide +kernel
theorem d_X6_next_40 : decode cX6_next 40 = .ok (.dup, 1) ∧ 41 = 40 + 1 := by decide +kernel
theorem d_X6_next_41 : decode cX6_next 41 = .ok (.getfield 28, 3) ∧ 44 = 41 + 3 := by decide +kernel
theorem d_X6_next_44 : decode cX6_next 44 = .ok (.iconst 1, 1) ∧ 45 = 44 + 1 := by decide +kernel
theorem d_X6_next_45 : decode cX6_next 45 = .ok (.iadd, 1) ∧ 46 = 45 + 1 := by decide +kernel
theorem d_X6_next_46 : decode cX6_next 46 = .ok (.putfield 28, 3) ∧ 49 = 46 + 3 := by decide +kernel
theorem d_X6_next_49 : decode cX6_next 49 = .ok (.goto (-49), 3) ∧ (49 : Int) + ((-49)) = ((0 : Nat) : Int) := by decide +kernel
theorem d_X6_next_52 : decode cX6_next 52 = .ok (.aload_n 0, 1) ∧ 53 = 52 + 1 := by decide +kernel
theorem d_X6_next_53 : decode cX6_next 53 = .ok (.aload_n 0, 1) ∧ 54 = 53 + 1 := by decide +kernel
theorem d_X6_next_54 : decode cX6_next 54 = .ok (.getfield 28, 3) ∧ 57 = 54 + 3 := by decide +kernel
theorem d_X6_next_57 : decode cX6_next 57 = .ok (.putfield 70, 3) ∧ 60 = 57 + 3 := by decide +kernel
theorem d_X6_next_60 : decode cX6_next 60 = .ok (.aload_n 0, 1) ∧ 61 = 60 + 1 := by decide +kernel
theorem d_X6_next_61 : decode cX6_next 61 = .ok (.getfield 28, 3) ∧ 64 = 61 + 3 := by decide +kernel
theorem d_X6_next_64 : decode cX6_next 64 = .ok (.aload_n 0, 1) ∧ 65 = 64 + 1 := by decide +kernel
theorem d_X6_next_65 : decode cX6_next 65 = .ok (.getfield 24, 3) ∧ 68 = 65 + 3 := by decide +kernel
theorem d_X6_next_68 : decode cX6_next 68 = .ok (.if_icmp .lt 12, 3) ∧ 71 = 68 + 3 ∧ (68 : Int) + 12 = ((80 : Nat) : Int) := by decide +kernel
theorem d_X6_next_71 : decode cX6_next 71 = .ok (.aload_n 0, 1) ∧ 72 = 71 + 1 := by decide +kernel
theorem d_X6_next_72 : decode cX6_next 72 = .ok (.bipush 35, 2) ∧ 74 = 72 + 2 := by decide +kernel
theorem d_X6_next_74 : decode cX6_next 74 = .ok (.putfield 52, 3) ∧ 77 = 74 + 3 := by decide +kernel
theorem d_X6_next_77 : decode cX6_next 77 = .ok (.goto 51, 3) ∧ (77 : Int) + (51) = ((128 : Nat) : Int) := by decide +kernel
theorem d_X6_next_80 : decode cX6_next 80 = .ok (.aload_n 0, 1) ∧ 81 = 80 + 1 := by decide +kernel
theorem d_X6_next_81 : decode cX6_next 81 = .ok (.getfield 15, 3) ∧ 84 = 81 + 3 := by decide +kernel
theorem d_X6_next_84 : decode cX6_next 84 = .ok (.aload_n 0, 1) ∧ 85 = 84 + 1 := by decide +kernel
theorem d_X6_next_85 : decode cX6_next 85 = .ok (.getfield 28, 3) ∧ 88 = 85 + 3 := by decide +kernel
theorem d_X6_next_88 : decode cX6_next 88 = .ok (.iaload, 1) ∧ 89 = 88 + 1 := by decide +kernel
theorem d_X6_next_89 : decode cX6_next 89 = .ok (.invokestatic 141, 3) ∧ 92 = 89 + 3 := by decide +kernel
theorem d_X6_next_92 : decode cX6_next 92 = .ok (.ifCond .eq 10, 3) ∧ 95 = 92 + 3 ∧ (92 : Int) + 10 = ((102 : Nat) : Int) := by decide +kernel
theorem d_X6_next_95 : decode cX6_next 95 = .ok (.aload_n 0, 1) ∧ 96 = 95 + 1 := by decide +kernel
theorem d_X6_next_96 : decode cX6_next 96 = .ok (.invokevirtual 144, 3) ∧ 99 = 96 + 3 := by decide +kernel
theorem d_X6_next_99 : decode cX6_next 99 = .ok (.goto 29, 3) ∧ (99 : Int) + (29) = ((128 : Nat) : Int) := by decide +kernel
theorem d_X6_next_102 : decode cX6_next 102 = .ok (.aload_n 0, 1) ∧ 103 = 102 + 1 := by decide +kernel
theorem d_X6_next_103 : decode cX6_next 103 = .ok (.getfield 15, 3) ∧ 106 = 103 + 3 := by decide +kernel
theorem d_X6_next_106 : decode cX6_next 106 = .ok (.aload_n 0, 1) ∧ 107 = 106 + 1 := by decide +kernel
theorem d_X6_next_107 : decode cX6_next 107 = .ok (.getfield 28, 3) ∧ 110 = 107 + 3 := by decide +kernel
theorem d_X6_next_110 : decode cX6_next 110 = .ok (.iaload, 1) ∧ 111 = 110 + 1 := by decide +kernel
theorem d_X6_next_111 : decode cX6_next 111 = .ok (.invokestatic 147, 3) ∧ 114 = 111 + 3 := by decide +kernel
theorem d_X6_next_114 : decode cX6_next 114 = .ok (.ifCond .eq 10, 3) ∧ 117 = 114 + 3 ∧ (114 : Int) + 10 = ((124 : Nat) : Int) := by decide +kernel
theorem d_X6_next_117 : decode cX6_next 117 = .ok (.aload_n 0, 1) ∧ 118 = 117 + 1 := by decide +kernel
theorem d_X6_next_118 : decode cX6_next 118 = .ok (.invokevirtual 150, 3) ∧ 121 = 118 + 3 := by decide +kernel
theorem d_X6_next_121 : decode cX6_next 121 = .ok (.goto 7, 3) ∧ (121 : Int) + (7) = ((128 : Nat) : Int) := by decide +kernel
theorem d_X6_next_124 : decode cX6_next 124 = .ok (.aload_n 0, 1) ∧ 125 = 124 + 1 := by decide +kernel
theorem d_X6_next_125 : decode cX6_next 125 = .ok (.invokevirtual 153, 3) ∧ 128 = 125 + 3 := by decide +kernel
theorem d_X6_next_128 : decode cX6_next 128 = .ok (.return_, 1) := by decide +kernel
theorem d_X6_isLetter_0 : decode cX6_isLetter 0 = .ok (.iload_n 0, 1) ∧ 1 = 0 + 1 := by decide +kernel
theorem d_X6_isLetter_1 : decode cX6_isLetter 1 = .ok (.bipush 97, 2) ∧ 3 = 1 + 2 := by decide +kernel
theorem d_X6_isLetter_3 : decode cX6_isLetter 3 = .ok (.if_icmp .lt 9, 3) ∧ 6 = 3 + 3 ∧ (3 : Int) + 9 = ((12 : Nat) : Int) := by decide +kernel
theorem d_X6_isLetter_6 : decode cX6_isLetter 6 = .ok (.iload_n 0, 1) ∧ 7 = 6 + 1 := by decide +kernel
theorem d_X6_isLetter_7 : decode cX6_isLetter 7 = .ok (.bipush 122, 2) ∧ 9 = 7 + 2 := by decide +kernel
theorem d_X6_isLetter_9 : decode cX6_isLetter 9 = .ok (.if_icmp .le 15, 3) ∧ 12 = 9 + 3 ∧ (9 : Int) + 15 = ((24 : Nat) : Int) := by decide +kernel
theorem d_X6_isLetter_12 : decode cX6_isLetter 12 = .ok (.iload_n 0, 1) ∧ 13 = 12 + 1 := by decide +kernel
theorem d_X6_isLetter_13 : decode cX6_isLetter 13 = .ok (.bipush 65, 2) ∧ 15 = 13 + 2 := by decide +kernel
theorem d_X6_isLetter_15 : decode cX6_isLetter 15 = .ok (.if_icmp .lt 13, 3) ∧ 18 = 15 + 3 ∧ (15 : Int) + 13 = ((28 : Nat) : Int) := by decide +kernel
theorem d_X6_isLetter_18 : decode cX6_isLetter 18 = .ok (.iload_n 0, 1) ∧ 19 = 18 + 1 := by decide +kernel
theorem d_X6_isLetter_19 : decode cX6_isLetter 19 = .ok (.bipush 90, 2) ∧ 21 = 19 + 2 := by decide +kernel
theorem d_X6_isLetter_21 : decode cX6_isLetter 21 = .ok (.if_icmp .gt 7, 3) ∧ 24 = 21 + 3 ∧ (21 : Int) + 7 = ((28 : Nat) : Int) := by decide +kernel
theorem d_X6_isLetter_24 : decode cX6_isLetter 24 = .ok (.iconst 1, 1) ∧ 25 = 24 + 1 := by decide +kernel
theorem d_X6_isLetter_25 : decode cX6_isLetter 25 = .ok (.goto 4, 3) ∧ (25 : Int) + (4) = ((29 : Nat) : Int) := by decide +kernel
theorem d_X6_isLetter_28 : decode cX6_isLetter 28 = .ok (.iconst 0, 1) ∧ 29 = 28 + 1 := by decide +kernel
theorem d_X6_isLetter_29 : decode cX6_isLetter 29 = .ok (.ireturn, 1) := by decide +kernel
theorem d_X6_isDigit_0 : decode cX6_isDigit 0 = .ok (.iload_n 0, 1) ∧ 1 = 0 + 1 := by decide +kernel
theorem d_X6_isDigit_1 : decode cX6_isDigit 1 = .ok (.bipush 48, 2) ∧ 3 = 1 + 2 := by decide +kernel
theorem d_X6_isDigit_3 : decode cX6_isDigit 3 = .ok (.if_icmp .lt 13, 3) ∧ 6 = 3 + 3 ∧ (3 : Int) + 13 = ((16 : Nat) : Int) := by decide +kernel
theorem d_X6_isDigit_6 : decode cX6_isDigit 6 = .ok (.iload_n 0, 1) ∧ 7 = 6 + 1 := by decide +kernel
theorem d_X6_isDigit_7 : decode cX6_isDigit 7 = .ok (.bipush 57, 2) ∧ 9 = 7 + 2 := by decide +kernel
theorem d_X6_isDigit_9 : decode cX6_isDigit 9 = .ok (.if_icmp .gt 7, 3) ∧ 12 = 9 + 3 ∧ (9 : Int) + 7 = ((16 : Nat) : Int) := by decide +kernel
theorem d_X6_isDigit_12 : decode cX6_isDigit 12 = .ok (.iconst 1, 1) ∧ 13 = 12 + 1 := by decide +kernel
theorem d_X6_isDigit_13 : decode cX6_isDigit 13 = .ok (.goto 4, 3) ∧ (13 : Int) + (4) = ((17 : Nat) : Int) := by decide +kernel
theorem d_X6_isDigit_16 : decode cX6_isDigit 16 = .ok (.iconst 0, 1) ∧ 17 = 16 + 1 := by decide +kernel
theorem d_X6_isDigit_17 : decode cX6_isDigit 17 = .ok (.ireturn, 1) := by decide +kernel
theorem d_X6_nextWord_0 : decode cX6_nextWord 0 = .ok (.aload_n 0, 1) ∧ 1 = 0 + 1 := by decide +kernel
theorem d_X6_nextWord_1 : decode cX6_nextWord 1 = .ok (.getfield 28, 3) ∧ 4 = 1 + 3 := by decide +kernel
theorem d_X6_nextWord_4 : decode cX6_nextWord 4 = .ok (.aload_n 0, 1) ∧ 5 = 4 + 1 := by decide +kernel
theorem d_X6_nextWord_5 : decode cX6_nextWord 5 = .ok (.getfield 24, 3) ∧ 8 = 5 + 3 := by decide +kernel
theorem d_X6_nextWord_8 : decode cX6_nextWord 8 = .ok (.if_icmp .ge 31, 3) ∧ 11 = 8 + 3 ∧ (8 : Int) + 31 = ((39 : Nat) : Int) := by decide +kernel
theorem d_X6_nextWord_11 : decode cX6_nextWord 11 = .ok (.aload_n 0, 1) ∧ 12 = 11 + 1 := by decide +kernel
theorem d_X6_nextWord_12 : decode cX6_nextWord 12 = .ok (.getfield 15, 3) ∧ 15 = 12 + 3 := by decide +kernel
theorem d_X6_nextWord_15 : decode cX6_nextWord 15 = .ok (.aload_n 0, 1) ∧ 16 = 15 + 1 := by decide +kernel
theorem d_X6_nextWord_16 : decode cX6_nextWord 16 = .ok (.getfield 28, 3) ∧ 19 = 16 + 3 := by decide +kernel
theorem d_X6_nextWord_19 : decode cX6_nextWord 19 = .ok (.iaload, 1) ∧ 20 = 19 + 1 := by decide +kernel
theorem d_X6_nextWord_20 : decode cX6_nextWord 20 = .ok (.invokestatic 141, 3) ∧ 23 = 20 + 3 := by decide +kernel
theorem d_X6_nextWord_23 : decode cX6_nextWord 23 = .ok (.ifCond .eq 16, 3) ∧ 26 = 23 + 3 ∧ (23 : Int) + 16 = ((39 : Nat) : Int) := by decide +kernel
theorem d_X6_nextWord_26 : decode cX6_nextWord 26 = .ok (.aload_n 0, 1) ∧ 27 = 26 + 1 := by decide +kernel
theorem d_X6_nextWord_27 : decode cX6_nextWord 27 = .ok (.dup, 1) ∧ 28 = 27 + 1 := by decide +kernel
theorem d_X6_nextWord_28 : decode cX6_nextWord 28 = .ok (.getfield 28, 3) ∧ 31 = 28 + 3 := by decide +kernel
theorem d_X6_nextWord_31 : decode cX6_nextWord 31 = .ok (.iconst 1, 1) ∧ 32 = 31 + 1 := by decide +kernel
theorem d_X6_nextWord_32 : decode cX6_nextWord 32 = .ok (.iadd, 1) ∧ 33 = 32 + 1 := by decide +kernel
theorem d_X6_nextWord_33 : decode cX6_nextWord 33 = .ok (.putfield 28, 3) ∧ 36 = 33 + 3 := by decide +kernel
theorem d_X6_nextWord_36 : decode cX6_nextWord 36 = .ok (.goto (-36), 3) ∧ (36 : Int) + ((-36)) = ((0 : Nat) : Int) := by decide +kernel
theorem d_X6_nextWord_39 : decode cX6_nextWord 39 = .ok (.aload_n 0, 1) ∧ 40 = 39 + 1 := by decide +kernel
theorem d_X6_nextWord_40 : decode cX6_nextWord 40 = .ok (.bipush 36, 2) ∧ 42 = 40 + 2 := by decide +kernel
theorem d_X6_nextWord_42 : decode cX6_nextWord 42 = .ok (.putfield 52, 3) ∧ 45 = 42 + 3 := by decide +kernel
theorem d_X6_nextWord_45 : decode cX6_nextWord 45 = .ok (.iconst 0, 1) ∧ 46 = 45 + 1 := by decide +kernel
theorem d_X6_nextWord_46 : decode cX6_nextWord 46 = .ok (.istore_n 1, 1) ∧ 47 = 46 + 1 := by decide +kernel
theorem d_X6_nextWord_47 : decode cX6_nextWord 47 = .ok (.iconst 0, 1) ∧ 48 = 47 + 1 := by decide +kernel
theorem d_X6_nextWord_48 : decode cX6_nextWord 48 = .ok (.istore_n 2, 1) ∧ 49 = 48 + 1 := by decide +kernel
theorem d_X6_nextWord_49 : decode cX6_nextWord 49 = .ok (.iconst 0, 1) ∧ 50 = 49 + 1 := by decide +kernel
theorem d_X6_nextWord_50 : decode cX6_nextWord 50 = .ok (.istore_n 3, 1) ∧ 51 = 50 + 1 := by decide +kernel
theorem d_X6_nextWord_51 : decode cX6_nextWord 51 = .ok (.iload_n 3, 1) ∧ 52 = 51 + 1 := by decide +kernel
theorem d_X6_nextWord_52 : decode cX6_nextWord 52 = .ok (.ldc 156, 2) ∧ 54 = 52 + 2 := by decide +kernel
theorem d_X6_nextWord_54 : decode cX6_nextWord 54 = .ok (.invokevirtual 158, 3) ∧ 57 = 54 + 3 := by decide +kernel
theorem d_X6_nextWord_57 : decode cX6_nextWord 57 = .ok (.if_icmp .ge 48, 3) ∧ 60 = 57 + 3 ∧ (57 : Int) + 48 = ((105 : Nat) : Int) := by decide +kernel
theorem d_X6_nextWord_60 : decode cX6_nextWord 60 = .ok (.ldc 156, 2) ∧ 62 = 60 + 2 := by decide +kernel
theorem d_X6_nextWord_62 : decode cX6_nextWord 62 = .ok (.iload_n 3, 1) ∧ 63 = 62 + 1 := by decide +kernel
theorem d_X6_nextWord_63 : decode cX6_nextWord 63 = .ok (.invokevirtual 163, 3) ∧ 66 = 63 + 3 := by decide +kernel
theorem d_X6_nextWord_66 : decode cX6_nextWord 66 = .ok (.bipush 32, 2) ∧ 68 = 66 + 2 := by decide +kernel
theorem d_X6_nextWord_68 : decode cX6_nextWord 68 = .ok (.if_icmp .ne 31, 3) ∧ 71 = 68 + 3 ∧ (68 : Int) + 31 = ((99 : Nat) : Int) := by decide +kernel
theorem d_X6_nextWord_71 : decode cX6_nextWord 71 = .ok (.aload_n 0, 1) ∧ 72 = 71 + 1 := by decide +kernel
theorem d_X6_nextWord_72 : decode cX6_nextWord 72 = .ok (.aload_n 0, 1) ∧ 73 = 72 + 1 := by decide +kernel
theorem d_X6_nextWord_73 : decode cX6_nextWord 73 = .ok (.iload_n 2, 1) ∧ 74 = 73 + 1 := by decide +kernel
theorem d_X6_nextWord_74 : decode cX6_nextWord 74 = .ok (.iload_n 3, 1) ∧ 75 = 74 + 1 := by decide +kernel
theorem d_X6_nextWord_75 : decode cX6_nextWord 75 = .ok (.invokevirtual 167, 3) ∧ 78 = 75 + 3 := by decide +kernel
theorem d_X6_nextWord_78 : decode cX6_nextWord 78 = .ok (.ifCond .eq 7, 3) ∧ 81 = 78 + 3 ∧ (78 : Int) + 7 = ((85 : Nat) : Int) := by decide +kernel
theorem d_X6_nextWord_81 : decode cX6_nextWord 81 = .ok (.iload_n 1, 1) ∧ 82 = 81 + 1 := by decide +kernel
theorem d_X6_nextWord_82 : decode cX6_nextWord 82 = .ok (.goto 7, 3) ∧ (82 : Int) + (7) = ((89 : Nat) : Int) := by decide +kernel
theorem d_X6_nextWord_85 : decode cX6_nextWord 85 = .ok (.aload_n 0, 1) ∧ 86 = 85 + 1 := by decide +kernel
theorem d_X6_nextWord_86 : decode cX6_nextWord 86 = .ok (.getfield 52, 3) ∧ 89 = 86 + 3 := by decide +kernel
theorem d_X6_nextWord_89 : decode cX6_nextWord 89 = .ok (.putfield 52, 3) ∧ 92 = 89 + 3 := by decide +kernel
theorem d_X6_nextWord_92 : decode cX6_nextWord 92 = .ok (.iload_n 3, 1) ∧ 93 = 92 + 1 := by decide +kernel
theorem d_X6_nextWord_93 : decode cX6_nextWord 93 = .ok (.iconst 1, 1) ∧ 94 = 93 + 1 := by decide +kernel
theorem d_X6_nextWord_94 : decode cX6_nextWord 94 = .ok (.iadd, 1) ∧ 95 = 94 + 1 := by decide +kernel
theorem d_X6_nextWord_95 : decode cX6_nextWord 95 = .ok (.istore_n 2, 1) ∧ 96 = 95 + 1 := by decide +kernel
theorem d_X6_nextWord_96 : decode cX6_nextWord 96 = .ok (.iinc 1 1, 3) ∧ 99 = 96 + 3 := by decide +kernel
theorem d_X6_nextWord_99 : decode cX6_nextWord 99 = .ok (.iinc 3 1, 3) ∧ 102 = 99 + 3 := by decide +kernel
theorem d_X6_nextWord_102 : decode cX6_nextWord 102 = .ok (.goto (-51), 3) ∧ (102 : Int) + ((-51)) = ((51 : Nat) : Int) := by decide +kernel
theorem d_X6_nextWord_105 : decode cX6_nextWord 105 = .ok (.return_, 1) := by decide +kernel
theorem d_X6_isWord_0 : decode cX6_isWord 0 = .ok (.iload_n 2, 1) ∧ 1 = 0 + 1 := by decide +kernel
theorem d_X6_isWord_1 : decode cX6_isWord 1 = .ok (.iload_n 1, 1) ∧ 2 = 1 + 1 := by decide +kernel
theorem d_X6_isWord_2 : decode cX6_isWord 2 = .ok (.isub, 1) ∧ 3 = 2 + 1 := by decide +kernel
theorem d_X6_isWord_3 : decode cX6_isWord 3 = .ok (.aload_n 0, 1) ∧ 4 = 3 + 1 := by decide +kernel
theorem d_X6_isWord_4 : decode cX6_isWord 4 = .ok (.getfield 28, 3) ∧ 7 = 4 + 3 := by decide +kernel
theorem d_X6_isWord_7 : decode cX6_isWord 7 = .ok (.aload_n 0, 1) ∧ 8 = 7 + 1 := by decide +kernel
theorem d_X6_isWord_8 : decode cX6_isWord 8 = .ok (.getfield 70, 3) ∧ 11 = 8 + 3 := by decide +kernel
theorem d_X6_isWord_11 : decode cX6_isWord 11 = .ok (.isub, 1) ∧ 12 = 11 + 1 := by decide +kernel
theorem d_X6_isWord_12 : decode cX6_isWord 12 = .ok (.if_icmp .eq 5, 3) ∧ 15 = 12 + 3 ∧ (12 : Int) + 5 = ((17 : Nat) : Int) := by decide +kernel
theorem d_X6_isWord_15 : decode cX6_isWord 15 = .ok (.iconst 0, 1) ∧ 16 = 15 + 1 := by decide +kernel
theorem d_X6_isWord_16 : decode cX6_isWord 16 = .ok (.ireturn, 1) := by decide +kernel
theorem d_X6_isWord_17 : decode cX6_isWord 17 = .ok (.iconst 0, 1) ∧ 18 = 17 + 1 := by decide +kernel
theorem d_X6_isWord_18 : decode cX6_isWord 18 = .ok (.istore_n 3, 1) ∧ 19 = 18 + 1 := by decide +kernel
theorem d_X6_isWord_19 : decode cX6_isWord 19 = .ok (.iload_n 3, 1) ∧ 20 = 19 + 1 := by decide +kernel
theorem d_X6_isWord_20 : decode cX6_isWord 20 = .ok (.aload_n 0, 1) ∧ 21 = 20 + 1 := by decide +kernel
theorem d_X6_isWord_21 : decode cX6_isWord 21 = .ok (.getfield 28, 3) ∧ 24 = 21 + 3 := by decide +kernel
theorem d_X6_isWord_24 : decode cX6_isWord 24 = .ok (.aload_n 0, 1) ∧ 25 = 24 + 1 := by decide +kernel
theorem d_X6_isWord_25 : decode cX6_isWord 25 = .ok (.getfield 70, 3) ∧ 28 = 25 + 3 := by decide +kernel
theorem d_X6_isWord_28 : decode cX6_isWord 28 = .ok (.isub, 1) ∧ 29 = 28 + 1 := by decide +kernel
theorem d_X6_isWord_29 : decode cX6_isWord 29 = .ok (.if_icmp .ge 33, 3) ∧ 32 = 29 + 3 ∧ (29 : Int) + 33 = ((62 : Nat) : Int) := by decide +kernel
theorem d_X6_isWord_32 : decode cX6_isWord 32 = .ok (.ldc 156, 2) ∧ 34 = 32 + 2 := by decide +kernel
theorem d_X6_isWord_34 : decode cX6_isWord 34 = .ok (.iload_n 1, 1) ∧ 35 = 34 + 1 := by decide +kernel
theorem d_X6_isWord_35 : decode cX6_isWord 35 = .ok (.iload_n 3, 1) ∧ 36 = 35 + 1 := by decide +kernel
theorem d_X6_isWord_36 : decode cX6_isWord 36 = .ok (.iadd, 1) ∧ 37 = 36 + 1 := by decide +kernel
theorem d_X6_isWord_37 : decode cX6_isWord 37 = .ok (.invokevirtual 163, 3) ∧ 40 = 37 + 3 := by decide +kernel
theorem d_X6_isWord_40 : decode cX6_isWord 40 = .ok (.aload_n 0, 1) ∧ 41 = 40 + 1 := by decide +kernel
theorem d_X6_isWord_41 : decode cX6_isWord 41 = .ok (.getfield 15, 3) ∧ 44 = 41 + 3 := by decide +kernel
theorem d_X6_isWord_44 : decode cX6_isWord 44 = .ok (.aload_n 0, 1) ∧ 45 = 44 + 1 := by decide +kernel
theorem d_X6_isWord_45 : decode cX6_isWord 45 = .ok (.getfield 70, 3) ∧ 48 = 45 + 3 := by decide +kernel
theorem d_X6_isWord_48 : decode cX6_isWord 48 = .ok (.iload_n 3, 1) ∧ 49 = 48 + 1 := by decide +kernel
theorem d_X6_isWord_49 : decode cX6_isWord 49 = .ok (.iadd, 1) ∧ 50 = 49 + 1 := by decide +kernel
theorem d_X6_isWord_50 : decode cX6_isWord 50 = .ok (.iaload, 1) ∧ 51 = 50 + 1 := by decide +kernel
theorem d_X6_isWord_51 : decode cX6_isWord 51 = .ok (.if_icmp .eq 5, 3) ∧ 54 = 51 + 3 ∧ (51 : Int) + 5 = ((56 : Nat) : Int) := by decide +kernel
theorem d_X6_isWord_54 : decode cX6_isWord 54 = .ok (.iconst 0, 1) ∧ 55 = 54 + 1 := by decide +kernel
theorem d_X6_isWord_55 : decode cX6_isWord 55 = .ok (.ireturn, 1) := by decide +kernel
theorem d_X6_isWord_56 : decode cX6_isWord 56 = .ok (.iinc 3 1, 3) ∧ 59 = 56 + 3 := by decide +kernel
theorem d_X6_isWord_59 : decode cX6_isWord 59 = .ok (.goto (-40), 3) ∧ (59 : Int) + ((-40)) = ((19 : Nat) : Int) := by decide +kernel
theorem d_X6_isWord_62 : decode cX6_isWord 62 = .ok (.iconst 1, 1) ∧ 63 = 62 + 1 := by decide +kernel
theorem d_X6_isWord_63 : decode cX6_isWord 63 = .ok (.ireturn, 1) := by decide +kernel
theorem d_X6_nextNumber_0 : decode cX6_nextNumber 0 = .ok (.iconst 0, 1) ∧ 1 = 0 + 1 := by decide +kernel
theorem d_X6_nextNumber_1 : decode cX6_nextNumber 1 = .ok (.istore_n 1, 1) ∧ 2 = 1 + 1 := by decide +kernel
theorem d_X6_nextNumber_2 : decode cX6_nextNumber 2 = .ok (.aload_n 0, 1) ∧ 3 = 2 + 1 := by decide +kernel
theorem d_X6_nextNumber_3 : decode cX6_nextNumber 3 = .ok (.getfield 28, 3) ∧ 6 = 3 + 3 := by decide +kernel
theorem d_X6_nextNumber_6 : decode cX6_nextNumber 6 = .ok (.aload_n 0, 1) ∧ 7 = 6 + 1 := by decide +kernel
theorem d_X6_nextNumber_7 : decode cX6_nextNumber 7 = .ok (.getfield 24, 3) ∧ 10 = 7 + 3 := by decide +kernel
theorem d_X6_nextNumber_10 : decode cX6_nextNumber 10 = .ok (.if_icmp .ge 55, 3) ∧ 13 = 10 + 3 ∧ (10 : Int) + 55 = ((65 : Nat) : Int) := by decide +kernel
theorem d_X6_nextNumber_13 : decode cX6_nextNumber 13 = .ok (.aload_n 0, 1) ∧ 14 = 13 + 1 := by decide +kernel
theorem d_X6_nextNumber_14 : decode cX6_nextNumber 14 = .ok (.getfield 15, 3) ∧ 17 = 14 + 3 := by decide +kernel
theorem d_X6_nextNumber_17 : decode cX6_nextNumber 17 = .ok (.aload_n 0, 1) ∧ 18 = 17 + 1 := by decide +kernel
theorem d_X6_nextNumber_18 : decode cX6_nextNumber 18 = .ok (.getfield 28, 3) ∧ 21 = 18 + 3 := by decide +kernel
theorem d_X6_nextNumber_21 : decode cX6_nextNumber 21 = .ok (.iaload, 1) ∧ 22 = 21 + 1 := by decide +kernel
theorem d_X6_nextNumber_22 : decode cX6_nextNumber 22 = .ok (.invokestatic 147, 3) ∧ 25 = 22 + 3 := by decide +kernel
theorem d_X6_nextNumber_25 : decode cX6_nextNumber 25 = .ok (.ifCond .eq 40, 3) ∧ 28 = 25 + 3 ∧ (25 : Int) + 40 = ((65 : Nat) : Int) := by decide +kernel
theorem d_X6_nextNumber_28 : decode cX6_nextNumber 28 = .ok (.iload_n 1, 1) ∧ 29 = 28 + 1 := by decide +kernel
theorem d_X6_nextNumber_29 : decode cX6_nextNumber 29 = .ok (.bipush 10, 2) ∧ 31 = 29 + 2 := by decide +kernel
theorem d_X6_nextNumber_31 : decode cX6_nextNumber 31 = .ok (.imul, 1) ∧ 32 = 31 + 1 := by decide +kernel
theorem d_X6_nextNumber_32 : decode cX6_nextNumber 32 = .ok (.aload_n 0, 1) ∧ 33 = 32 + 1 := by decide +kernel
theorem d_X6_nextNumber_33 : decode cX6_nextNumber 33 = .ok (.getfield 15, 3) ∧ 36 = 33 + 3 := by decide +kernel
theorem d_X6_nextNumber_36 : decode cX6_nextNumber 36 = .ok (.aload_n 0, 1) ∧ 37 = 36 + 1 := by decide +kernel
theorem d_X6_nextNumber_37 : decode cX6_nextNumber 37 = .ok (.getfield 28, 3) ∧ 40 = 37 + 3 := by decide +kernel
theorem d_X6_nextNumber_40 : decode cX6_nextNumber 40 = .ok (.iaload, 1) ∧ 41 = 40 + 1 := by decide +kernel
theorem d_X6_nextNumber_41 : decode cX6_nextNumber 41 = .ok (.iadd, 1) ∧ 42 = 41 + 1 := by decide +kernel
theorem d_X6_nextNumber_42 : decode cX6_nextNumber 42 = .ok (.bipush 48, 2) ∧ 44 = 42 + 2 := by decide +kernel
theorem d_X6_nextNumber_44 : decode cX6_nextNumber 44 = .ok (.isub, 1) ∧ 45 = 44 + 1 := by decide +kernel
theorem d_X6_nextNumber_45 : decode cX6_nextNumber 45 = .ok (.sipush 10000, 3) ∧ 48 = 45 + 3 := by decide +kernel
theorem d_X6_nextNumber_48 : decode cX6_nextNumber 48 = .ok (.invokestatic 18, 3) ∧ 51 = 48 + 3 := by decide +kernel
theorem d_X6_nextNumber_51 : decode cX6_nextNumber 51 = .ok (.istore_n 1, 1) ∧ 52 = 51 + 1 := by decide +kernel
theorem d_X6_nextNumber_52 : decode cX6_nextNumber 52 = .ok (.aload_n 0, 1) ∧ 53 = 52 + 1 := by decide +kernel
theorem d_X6_nextNumber_53 : decode cX6_nextNumber 53 = .ok (.dup, 1) ∧ 54 = 53 + 1 := by decide +kernel
theorem d_X6_nextNumber_54 : decode cX6_nextNumber 54 = .ok (.getfield 28, 3) ∧ 57 = 54 + 3 := by decide +kernel
theorem d_X6_nextNumber_57 : decode cX6_nextNumber 57 = .ok (.iconst 1, 1) ∧ 58 = 57 + 1 := by decide +kernel
theorem d_X6_nextNumber_58 : decode cX6_nextNumber 58 = .ok (.iadd, 1) ∧ 59 = 58 + 1 := by decide +kernel
theorem d_X6_nextNumber_59 : decode cX6_nextNumber 59 = .ok (.putfield 28, 3) ∧ 62 = 59 + 3 := by decide +kernel
theorem d_X6_nextNumber_62 : decode cX6_nextNumber 62 = .ok (.goto (-60), 3) ∧ (62 : Int) + ((-60)) = ((2 : Nat) : Int) := by decide +kernel
theorem d_X6_nextNumber_65 : decode cX6_nextNumber 65 = .ok (.aload_n 0, 1) ∧ 66 = 65 + 1 := by decide +kernel
theorem d_X6_nextNumber_66 : decode cX6_nextNumber 66 = .ok (.bipush 100, 2) ∧ 68 = 66 + 2 := by decide +kernel
theorem d_X6_nextNumber_68 : decode cX6_nextNumber 68 = .ok (.iload_n 1, 1) ∧ 69 = 68 + 1 := by decide +kernel
theorem d_X6_nextNumber_69 : decode cX6_nextNumber 69 = .ok (.iadd, 1) ∧ 70 = 69 + 1 := by decide +kernel
theorem d_X6_nextNumber_70 : decode cX6_nextNumber 70 = .ok (.putfield 52, 3) ∧ 73 = 70 + 3 := by decide +kernel
theorem d_X6_nextNumber_73 : decode cX6_nextNumber 73 = .ok (.return_, 1) := by decide +kernel
theorem d_X6_nextSign_0 : decode cX6_nextSign 0 = .ok (.aload_n 0, 1) ∧ 1 = 0 + 1 := by decide +kernel
theorem d_X6_nextSign_1 : decode cX6_nextSign 1 = .ok (.aload_n 0, 1) ∧ 2 = 1 + 1 := by decide +kernel
theorem d_X6_nextSign_2 : decode cX6_nextSign 2 = .ok (.getfield 15, 3) ∧ 5 = 2 + 3 := by decide +kernel
theorem d_X6_nextSign_5 : decode cX6_nextSign 5 = .ok (.aload_n 0, 1) ∧ 6 = 5 + 1 := by decide +kernel
theorem d_X6_nextSign_6 : decode cX6_nextSign 6 = .ok (.getfield 28, 3) ∧ 9 = 6 + 3 := by decide +kernel
theorem d_X6_nextSign_9 : decode cX6_nextSign 9 = .ok (.iaload, 1) ∧ 10 = 9 + 1 := by decide +kernel
theorem d_X6_nextSign_10 : decode cX6_nextSign 10 = .ok (.invokestatic 171, 3) ∧ 13 = 10 + 3 := by decide +kernel
theorem d_X6_nextSign_13 : decode cX6_nextSign 13 = .ok (.putfield 52, 3) ∧ 16 = 13 + 3 := by decide +kernel
theorem d_X6_nextSign_16 : decode cX6_nextSign 16 = .ok (.aload_n 0, 1) ∧ 17 = 16 + 1 := by decide +kernel
theorem d_X6_nextSign_17 : decode cX6_nextSign 17 = .ok (.dup, 1) ∧ 18 = 17 + 1 := by decide +kernel
theorem d_X6_nextSign_18 : decode cX6_nextSign 18 = .ok (.getfield 28, 3) ∧ 21 = 18 + 3 := by decide +kernel
theorem d_X6_nextSign_21 : decode cX6_nextSign 21 = .ok (.iconst 1, 1) ∧ 22 = 21 + 1 := by decide +kernel
theorem d_X6_nextSign_22 : decode cX6_nextSign 22 = .ok (.iadd, 1) ∧ 23 = 22 + 1 := by decide +kernel
theorem d_X6_nextSign_23 : decode cX6_nextSign 23 = .ok (.putfield 28, 3) ∧ 26 = 23 + 3 := by decide +kernel
theorem d_X6_nextSign_26 : decode cX6_nextSign 26 = .ok (.aload_n 0, 1) ∧ 27 = 26 + 1 := by decide +kernel
theorem d_X6_nextSign_27 : decode cX6_nextSign 27 = .ok (.getfield 52, 3) ∧ 30 = 27 + 3 := by decide +kernel
theorem d_X6_nextSign_30 : decode cX6_nextSign 30 = .ok (.bipush 23, 2) ∧ 32 = 30 + 2 := by decide +kernel
theorem d_X6_nextSign_32 : decode cX6_nextSign 32 = .ok (.if_icmp .eq 12, 3) ∧ 35 = 32 + 3 ∧ (32 : Int) + 12 = ((44 : Nat) : Int) := by decide +kernel
theorem d_X6_nextSign_35 : decode cX6_nextSign 35 = .ok (.aload_n 0, 1) ∧ 36 = 35 + 1 := by decide +kernel
theorem d_X6_nextSign_36 : decode cX6_nextSign 36 = .ok (.getfield 52, 3) ∧ 39 = 36 + 3 := by decide +kernel
theorem d_X6_nextSign_39 : decode cX6_nextSign 39 = .ok (.bipush 24, 2) ∧ 41 = 39 + 2 := by decide +kernel
theorem d_X6_nextSign_41 : decode cX6_nextSign 41 = .ok (.if_icmp .ne 58, 3) ∧ 44 = 41 + 3 ∧ (41 : Int) + 58 = ((99 : Nat) : Int) := by decide +kernel
theorem d_X6_nextSign_44 : decode cX6_nextSign 44 = .ok (.aload_n 0, 1) ∧ 45 = 44 + 1 := by decide +kernel
theorem d_X6_nextSign_45 : decode cX6_nextSign 45 = .ok (.getfield 28, 3) ∧ 48 = 45 + 3 := by decide +kernel
theorem d_X6_nextSign_48 : decode cX6_nextSign 48 = .ok (.aload_n 0, 1) ∧ 49 = 48 + 1 := by decide +kernel
theorem d_X6_nextSign_49 : decode cX6_nextSign 49 = .ok (.getfield 24, 3) ∧ 52 = 49 + 3 := by decide +kernel
theorem d_X6_nextSign_52 : decode cX6_nextSign 52 = .ok (.if_icmp .ge 47, 3) ∧ 55 = 52 + 3 ∧ (52 : Int) + 47 = ((99 : Nat) : Int) := by decide +kernel
theorem d_X6_nextSign_55 : decode cX6_nextSign 55 = .ok (.aload_n 0, 1) ∧ 56 = 55 + 1 := by decide +kernel
theorem d_X6_nextSign_56 : decode cX6_nextSign 56 = .ok (.getfield 15, 3) ∧ 59 = 56 + 3 := by decide +kernel
theorem d_X6_nextSign_59 : decode cX6_nextSign 59 = .ok (.aload_n 0, 1) ∧ 60 = 59 + 1 := by decide +kernel
theorem d_X6_nextSign_60 : decode cX6_nextSign 60 = .ok (.getfield 28, 3) ∧ 63 = 60 + 3 := by decide +kernel
theorem d_X6_nextSign_63 : decode cX6_nextSign 63 = .ok (.iaload, 1) ∧ 64 = 63 + 1 := by decide +kernel
theorem d_X6_nextSign_64 : decode cX6_nextSign 64 = .ok (.bipush 61, 2) ∧ 66 = 64 + 2 := by decide +kernel
theorem d_X6_nextSign_66 : decode cX6_nextSign 66 = .ok (.if_icmp .ne 33, 3) ∧ 69 = 66 + 3 ∧ (66 : Int) + 33 = ((99 : Nat) : Int) := by decide +kernel
theorem d_X6_nextSign_69 : decode cX6_nextSign 69 = .ok (.aload_n 0, 1) ∧ 70 = 69 + 1 := by decide +kernel
theorem d_X6_nextSign_70 : decode cX6_nextSign 70 = .ok (.aload_n 0, 1) ∧ 71 = 70 + 1 := by decide +kernel
theorem d_X6_nextSign_71 : decode cX6_nextSign 71 = .ok (.getfield 52, 3) ∧ 74 = 71 + 3 := by decide +kernel
theorem d_X6_nextSign_74 : decode cX6_nextSign 74 = .ok (.bipush 23, 2) ∧ 76 = 74 + 2 := by decide +kernel
theorem d_X6_nextSign_76 : decode cX6_nextSign 76 = .ok (.if_icmp .ne 8, 3) ∧ 79 = 76 + 3 ∧ (76 : Int) + 8 = ((84 : Nat) : Int) := by decide +kernel
theorem d_X6_nextSign_79 : decode cX6_nextSign 79 = .ok (.bipush 21, 2) ∧ 81 = 79 + 2 := by decide +kernel
theorem d_X6_nextSign_81 : decode cX6_nextSign 81 = .ok (.goto 5, 3) ∧ (81 : Int) + (5) = ((86 : Nat) : Int) := by decide +kernel
theorem d_X6_nextSign_84 : decode cX6_nextSign 84 = .ok (.bipush 22, 2) ∧ 86 = 84 + 2 := by decide +kernel
theorem d_X6_nextSign_86 : decode cX6_nextSign 86 = .ok (.putfield 52, 3) ∧ 89 = 86 + 3 := by decide +kernel
theorem d_X6_nextSign_89 : decode cX6_nextSign 89 = .ok (.aload_n 0, 1) ∧ 90 = 89 + 1 := by decide +kernel
theorem d_X6_nextSign_90 : decode cX6_nextSign 90 = .ok (.dup, 1) ∧ 91 = 90 + 1 := by decide +kernel
theorem d_X6_nextSign_91 : decode cX6_nextSign 91 = .ok (.getfield 28, 3) ∧ 94 = 91 + 3 := by decide +kernel
theorem d_X6_nextSign_94 : decode cX6_nextSign 94 = .ok (.iconst 1, 1) ∧ 95 = 94 + 1 := by decide +kernel
theorem d_X6_nextSign_95 : decode cX6_nextSign 95 = .ok (.iadd, 1) ∧ 96 = 95 + 1 := by decide +kernel
theorem d_X6_nextSign_96 : decode cX6_nextSign 96 = .ok (.putfield 28, 3) ∧ 99 = 96 + 3 := by decide +kernel
theorem d_X6_nextSign_99 : decode cX6_nextSign 99 = .ok (.return_, 1) := by decide +kernel
theorem d_X6_sign_0 : decode cX6_sign 0 = .ok (.iload_n 0, 1) ∧ 1 = 0 + 1 := by decide +kernel
theorem d_X6_sign_1 : decode cX6_sign 1 = .ok (.tableswitch 160 35 62 #[136, 160, 160, 160, 160, 151, 154, 145, 139, 160, 142, 160, 148, 160, 160, 160, 160, 160, 160, 160, 160, 160, 160, 160, 157, 127, 133, 130], 127) := by decide +kernel
theorem d_X6_sign_128 : decode cX6_sign 128 = .ok (.bipush 23, 2) ∧ 130 = 128 + 2 := by decide +kernel
theorem d_X6_sign_130 : decode cX6_sign 130 = .ok (.ireturn, 1) := by decide +kernel
theorem d_X6_sign_131 : decode cX6_sign 131 = .ok (.bipush 24, 2) ∧ 133 = 131 + 2 := by decide +kernel
theorem d_X6_sign_133 : decode cX6_sign 133 = .ok (.ireturn, 1) := by decide +kernel
theorem d_X6_sign_134 : decode cX6_sign 134 = .ok (.bipush 25, 2) ∧ 136 = 134 + 2 := by decide +kernel
theorem d_X6_sign_136 : decode cX6_sign 136 = .ok (.ireturn, 1) := by decide +kernel
theorem d_X6_sign_137 : decode cX6_sign 137 = .ok (.bipush 26, 2) ∧ 139 = 137 + 2 := by decide +kernel
theorem d_X6_sign_139 : decode cX6_sign 139 = .ok (.ireturn, 1) := by decide +kernel
theorem d_X6_sign_140 : decode cX6_sign 140 = .ok (.bipush 27, 2) ∧ 142 = 140 + 2 := by decide +kernel
theorem d_X6_sign_142 : decode cX6_sign 142 = .ok (.ireturn, 1) := by decide +kernel
theorem d_X6_sign_143 : decode cX6_sign 143 = .ok (.bipush 28, 2) ∧ 145 = 143 + 2 := by decide +kernel
theorem d_X6_sign_145 : decode cX6_sign 145 = .ok (.ireturn, 1) := by decide +kernel
theorem d_X6_sign_146 : decode cX6_sign 146 = .ok (.bipush 29, 2) ∧ 148 = 146 + 2 := by decide +kernel
theorem d_X6_sign_148 : decode cX6_sign 148 = .ok (.ireturn, 1) := by decide +kernel
theorem d_X6_sign_149 : decode cX6_sign 149 = .ok (.bipush 30, 2) ∧ 151 = 149 + 2 := by decide +kernel
theorem d_X6_sign_151 : decode cX6_sign 151 = .ok (.ireturn, 1) := by decide +kernel
theorem d_X6_sign_152 : decode cX6_sign 152 = .ok (.bipush 32, 2) ∧ 154 = 152 + 2 := by decide +kernel
theorem d_X6_sign_154 : decode cX6_sign 154 = .ok (.ireturn, 1) := by decide +kernel
theorem d_X6_sign_155 : decode cX6_sign 155 = .ok (.bipush 33, 2) ∧ 157 = 155 + 2 := by decide +kernel
theorem d_X6_sign_157 : decode cX6_sign 157 = .ok (.ireturn, 1) := by decide +kernel
theorem d_X6_sign_158 : decode cX6_sign 158 = .ok (.bipush 34, 2) ∧ 160 = 158 + 2 := by decide +kernel
theorem d_X6_sign_160 : decode cX6_sign 160 = .ok (.ireturn, 1) := by decide +kernel
theorem d_X6_sign_161 : decode cX6_sign 161 = .ok (.bipush 36, 2) ∧ 163 = 161 + 2 := by decide +kernel
theorem d_X6_sign_163 : decode cX6_sign 163 = .ok (.ireturn, 1) := by decide +kernel
theorem d_X7_init_0 : decode cX7_init 0 = .ok (.aload_n 0, 1) ∧ 1 = 0 + 1 := by decide +kernel
theorem d_X7_init_1 : decode cX7_init 1 = .ok (.invokespecial 5, 3) ∧ 4 = 1 + 3 := by decide +kernel
theorem d_X7_init_4 : decode cX7_init 4 = .ok (.aload_n 0, 1) ∧ 5 = 4 + 1 := by decide +kernel
theorem d_X7_init_5 : decode cX7_init 5 = .ok (.sipush 128, 3) ∧ 8 = 5 + 3 := by decide +kernel
theorem d_X7_init_8 : decode cX7_init 8 = .ok (.newarray .int, 2) ∧ 10 = 8 + 2 := by decide +kernel
theorem d_X7_init_10 : decode cX7_init 10 = .ok (.putfield 11, 3) ∧ 13 = 10 + 3 := by decide +kernel
theorem d_X7_init_13 : decode cX7_init 13 = .ok (.aload_n 0, 1) ∧ 14 = 13 + 1 := by decide +kernel
theorem d_X7_init_14 : decode cX7_init 14 = .ok (.sipush 128, 3) ∧ 17 = 14 + 3 := by decide +kernel
theorem d_X7_init_17 : decode cX7_init 17 = .ok (.newarray .int, 2) ∧ 19 = 17 + 2 := by decide +kernel
theorem d_X7_init_19 : decode cX7_init 19 = .ok (.putfield 15, 3) ∧ 22 = 19 + 3 := by decide +kernel
theorem d_X7_init_22 : decode cX7_init 22 = .ok (.aload_n 0, 1) ∧ 23 = 22 + 1 := by decide +kernel
theorem d_X7_init_23 : decode cX7_init 23 = .ok (.bipush 16, 2) ∧ 25 = 23 + 2 := by decide +kernel
theorem d_X7_init_25 : decode cX7_init 25 = .ok (.newarray .int, 2) ∧ 27 = 25 + 2 := by decide +kernel
theorem d_X7_init_27 : decode cX7_init 27 = .ok (.putfield 18, 3) ∧ 30 = 27 + 3 := by decide +kernel
theorem d_X7_init_30 : decode cX7_init 30 = .ok (.return_, 1) := by decide +kernel
theorem d_X7_load_0 : decode cX7_load 0 = .ok (.aload_n 0, 1) ∧ 1 = 0 + 1 := by decide +kernel
theorem d_X7_load_1 : decode cX7_load 1 = .ok (.getfield 11, 3) ∧ 4 = 1 + 3 := by decide +kernel
theorem d_X7_load_4 : decode cX7_load 4 = .ok (.aload_n 1, 1) ∧ 5 = 4 + 1 := by decide +kernel
theorem d_X7_load_5 : decode cX7_load 5 = .ok (.iload_n 2, 1) ∧ 6 = 5 + 1 := by decide +kernel
theorem d_X7_load_6 : decode cX7_load 6 = .ok (.iload_n 3, 1) ∧ 7 = 6 + 1 := by decide +kernel
theorem d_X7_load_7 : decode cX7_load 7 = .ok (.iconst 0, 1) ∧ 8 = 7 + 1 := by decide +kernel
theorem d_X7_load_8 : decode cX7_load 8 = .ok (.invokestatic 21, 3) ∧ 11 = 8 + 3 := by decide +kernel
theorem d_X7_load_11 : decode cX7_load 11 = .ok (.aload_n 0, 1) ∧ 12 = 11 + 1 := by decide +kernel
theorem d_X7_load_12 : decode cX7_load 12 = .ok (.getfield 15, 3) ∧ 15 = 12 + 3 := by decide +kernel
theorem d_X7_load_15 : decode cX7_load 15 = .ok (.aload_n 1, 1) ∧ 16 = 15 + 1 := by decide +kernel
theorem d_X7_load_16 : decode cX7_load 16 = .ok (.iload_n 2, 1) ∧ 17 = 16 + 1 := by decide +kernel
theorem d_X7_load_17 : decode cX7_load 17 = .ok (.iload_n 3, 1) ∧ 18 = 17 + 1 := by decide +kernel
theorem d_X7_load_18 : decode cX7_load 18 = .ok (.bipush 7, 2) ∧ 20 = 18 + 2 := by decide +kernel
theorem d_X7_load_20 : decode cX7_load 20 = .ok (.invokestatic 21, 3) ∧ 23 = 20 + 3 := by decide +kernel
theorem d_X7_load_23 : decode cX7_load 23 = .ok (.aload_n 0, 1) ∧ 24 = 23 + 1 := by decide +kernel
theorem d_X7_load_24 : decode cX7_load 24 = .ok (.aload_n 0, 1) ∧ 25 = 24 + 1 := by decide +kernel
theorem d_X7_load_25 : decode cX7_load 25 = .ok (.iconst (-1), 1) ∧ 26 = 25 + 1 := by decide +kernel
theorem d_X7_load_26 : decode cX7_load 26 = .ok (.invokevirtual 25, 3) ∧ 29 = 26 + 3 := by decide +kernel
theorem d_X7_load_29 : decode cX7_load 29 = .ok (.putfield 29, 3) ∧ 32 = 29 + 3 := by decide +kernel
theorem d_X7_load_32 : decode cX7_load 32 = .ok (.return_, 1) := by decide +kernel
theorem d_X7_fill_0 : decode cX7_fill 0 = .ok (.iconst 0, 1) ∧ 1 = 0 + 1 := by decide +kernel
theorem d_X7_fill_1 : decode cX7_fill 1 = .ok (.istore 5, 2) ∧ 3 = 1 + 2 := by decide +kernel
theorem d_X7_fill_3 : decode cX7_fill 3 = .ok (.iload 5, 2) ∧ 5 = 3 + 2 := by decide +kernel
theorem d_X7_fill_5 : decode cX7_fill 5 = .ok (.bipush 7, 2) ∧ 7 = 5 + 2 := by decide +kernel
theorem d_X7_fill_7 : decode cX7_fill 7 = .ok (.if_icmp .ge 102, 3) ∧ 10 = 7 + 3 ∧ (7 : Int) + 102 = ((109 : Nat) : Int) := by decide +kernel
theorem d_X7_fill_10 : decode cX7_fill 10 = .ok (.iload 4, 2) ∧ 12 = 10 + 2 := by decide +kernel
theorem d_X7_fill_12 : decode cX7_fill 12 = .ok (.iload 5, 2) ∧ 14 = 12 + 2 := by decide +kernel
theorem d_X7_fill_14 : decode cX7_fill 14 = .ok (.iadd, 1) ∧ 15 = 14 + 1 := by decide +kernel
theorem d_X7_fill_15 : decode cX7_fill 15 = .ok (.istore 6, 2) ∧ 17 = 15 + 2 := by decide +kernel
theorem d_X7_fill_17 : decode cX7_fill 17 = .ok (.iload_n 3, 1) ∧ 18 = 17 + 1 := by decide +kernel
theorem d_X7_fill_18 : decode cX7_fill 18 = .ok (.iload 6, 2) ∧ 20 = 18 + 2 := by decide +kernel
theorem d_X7_fill_20 : decode cX7_fill 20 = .ok (.ishr, 1) ∧ 21 = 20 + 1 := by decide +kernel
theorem d_X7_fill_21 : decode cX7_fill 21 = .ok (.iconst 1, 1) ∧ 22 = 21 + 1 := by decide +kernel
theorem d_X7_fill_22 : decode cX7_fill 22 = .ok (.iand, 1) ∧ 23 = 22 + 1 := by decide +kernel
theorem d_X7_fill_23 : decode cX7_fill 23 = .ok (.iconst 1, 1) ∧ 24 = 23 + 1 := by decide +kernel
theorem d_X7_fill_24 : decode cX7_fill 24 = .ok (.if_icmp .ne 13, 3) ∧ 27 = 24 + 3 ∧ (24 : Int) + 13 = ((37 : Nat) : Int) := by decide +kernel
theorem d_X7_fill_27 : decode cX7_fill 27 = .ok (.aload_n 1, 1) ∧ 28 = 27 + 1 := by decide +kernel
theorem d_X7_fill_28 : decode cX7_fill 28 = .ok (.iload_n 2, 1) ∧ 29 = 28 + 1 := by decide +kernel
theorem d_X7_fill_29 : decode cX7_fill 29 = .ok (.iload 6, 2) ∧ 31 = 29 + 2 := by decide +kernel
theorem d_X7_fill_31 : decode cX7_fill 31 = .ok (.invokevirtual 33, 3) ∧ 34 = 31 + 3 := by decide +kernel
theorem d_X7_fill_34 : decode cX7_fill 34 = .ok (.goto 4, 3) ∧ (34 : Int) + (4) = ((38 : Nat) : Int) := by decide +kernel
theorem d_X7_fill_37 : decode cX7_fill 37 = .ok (.iconst (-1), 1) ∧ 38 = 37 + 1 := by decide +kernel
theorem d_X7_fill_38 : decode cX7_fill 38 = .ok (.istore 7, 2) ∧ 40 = 38 + 2 := by decide +kernel
theorem d_X7_fill_40 : decode cX7_fill 40 = .ok (.iload 7, 2) ∧ 42 = 40 + 2 := by decide +kernel
theorem d_X7_fill_42 : decode cX7_fill 42 = .ok (.iconst (-1), 1) ∧ 43 = 42 + 1 := by decide +kernel
theorem d_X7_fill_43 : decode cX7_fill 43 = .ok (.if_icmp .ne 7, 3) ∧ 46 = 43 + 3 ∧ (43 : Int) + 7 = ((50 : Nat) : Int) := by decide +kernel
theorem d_X7_fill_46 : decode cX7_fill 46 = .ok (.iconst 0, 1) ∧ 47 = 46 + 1 := by decide +kernel
theorem d_X7_fill_47 : decode cX7_fill 47 = .ok (.goto 8, 3) ∧ (47 : Int) + (8) = ((55 : Nat) : Int) := by decide +kernel
theorem d_X7_fill_50 : decode cX7_fill 50 = .ok (.ldc 39, 2) ∧ 52 = 50 + 2 := by decide +kernel
theorem d_X7_fill_52 : decode cX7_fill 52 = .ok (.iload 7, 2) ∧ 54 = 52 + 2 := by decide +kernel
theorem d_X7_fill_54 : decode cX7_fill 54 = .ok (.ior, 1) ∧ 55 = 54 + 1 := by decide +kernel
theorem d_X7_fill_55 : decode cX7_fill 55 = .ok (.istore 8, 2) ∧ 57 = 55 + 2 := by decide +kernel
theorem d_X7_fill_57 : decode cX7_fill 57 = .ok (.iconst 1, 1) ∧ 58 = 57 + 1 := by decide +kernel
theorem d_X7_fill_58 : decode cX7_fill 58 = .ok (.iload 5, 2) ∧ 60 = 58 + 2 := by decide +kernel
theorem d_X7_fill_60 : decode cX7_fill 60 = .ok (.ishl, 1) ∧ 61 = 60 + 1 := by decide +kernel
theorem d_X7_fill_61 : decode cX7_fill 61 = .ok (.istore 9, 2) ∧ 63 = 61 + 2 := by decide +kernel
theorem d_X7_fill_63 : decode cX7_fill 63 = .ok (.iconst 0, 1) ∧ 64 = 63 + 1 := by decide +kernel
theorem d_X7_fill_64 : decode cX7_fill 64 = .ok (.istore 10, 2) ∧ 66 = 64 + 2 := by decide +kernel
theorem d_X7_fill_66 : decode cX7_fill 66 = .ok (.iload 10, 2) ∧ 68 = 66 + 2 := by decide +kernel
theorem d_X7_fill_68 : decode cX7_fill 68 = .ok (.iload 9, 2) ∧ 70 = 68 + 2 := by decide +kernel
theorem d_X7_fill_70 : decode cX7_fill 70 = .ok (.if_icmp .ge 33, 3) ∧ 73 = 70 + 3 ∧ (70 : Int) + 33 = ((103 : Nat) : Int) := by decide +kernel
theorem d_X7_fill_73 : decode cX7_fill 73 = .ok (.iload 9, 2) ∧ 75 = 73 + 2 := by decide +kernel
theorem d_X7_fill_75 : decode cX7_fill 75 = .ok (.iload 10, 2) ∧ 77 = 75 + 2 := by decide +kernel
theorem d_X7_fill_77 : decode cX7_fill 77 = .ok (.iadd, 1) ∧ 78 = 77 + 1 := by decide +kernel
theorem d_X7_fill_78 : decode cX7_fill 78 = .ok (.aload_n 0, 1) ∧ 79 = 78 + 1 := by decide +kernel
theorem d_X7_fill_79 : decode cX7_fill 79 = .ok (.arraylength, 1) ∧ 80 = 79 + 1 := by decide +kernel
theorem d_X7_fill_80 : decode cX7_fill 80 = .ok (.if_icmp .ge 23, 3) ∧ 83 = 80 + 3 ∧ (80 : Int) + 23 = ((103 : Nat) : Int) := by decide +kernel
theorem d_X7_fill_83 : decode cX7_fill 83 = .ok (.aload_n 0, 1) ∧ 84 = 83 + 1 := by decide +kernel
theorem d_X7_fill_84 : decode cX7_fill 84 = .ok (.iload 9, 2) ∧ 86 = 84 + 2 := by decide +kernel
theorem d_X7_fill_86 : decode cX7_fill 86 = .ok (.iload 10, 2) ∧ 88 = 86 + 2 := by decide +kernel
theorem d_X7_fill_88 : decode cX7_fill 88 = .ok (.iadd, 1) ∧ 89 = 88 + 1 := by decide +kernel
theorem d_X7_fill_89 : decode cX7_fill 89 = .ok (.aload_n 0, 1) ∧ 90 = 89 + 1 := by decide +kernel
theorem d_X7_fill_90 : decode cX7_fill 90 = .ok (.iload 10, 2) ∧ 92 = 90 + 2 := by decide +kernel
theorem d_X7_fill_92 : decode cX7_fill 92 = .ok (.iaload, 1) ∧ 93 = 92 + 1 := by decide +kernel
theorem d_X7_fill_93 : decode cX7_fill 93 = .ok (.iload 8, 2) ∧ 95 = 93 + 2 := by decide +kernel
theorem d_X7_fill_95 : decode cX7_fill 95 = .ok (.iadd, 1) ∧ 96 = 95 + 1 := by decide +kernel
theorem d_X7_fill_96 : decode cX7_fill 96 = .ok (.iastore, 1) ∧ 97 = 96 + 1 := by decide +kernel
theorem d_X7_fill_97 : decode cX7_fill 97 = .ok (.iinc 10 1, 3) ∧ 100 = 97 + 3 := by decide +kernel
theorem d_X7_fill_100 : decode cX7_fill 100 = .ok (.goto (-34), 3) ∧ (100 : Int) + ((-34)) = ((66 : Nat) : Int) := by decide +kernel
theorem d_X7_fill_103 : decode cX7_fill 103 = .ok (.iinc 5 1, 3) ∧ 106 = 103 + 3 := by decide +kernel
theorem d_X7_fill_106 : decode cX7_fill 106 = .ok (.goto (-103), 3) ∧ (106 : Int) + ((-103)) = ((3 : Nat) : Int) := by decide +kernel
theorem d_X7_fill_109 : decode cX7_fill 109 = .ok (.return_, 1) := by decide +kernel
theorem d_X7_part_0 : decode cX7_part 0 = .ok (.aload_n 0, 1) ∧ 1 = 0 + 1 := by decide +kernel
theorem d_X7_part_1 : decode cX7_part 1 = .ok (.getfield 11, 3) ∧ 4 = 1 + 3 := by decide +kernel
theorem d_X7_part_4 : decode cX7_part 4 = .ok (.iload_n 1, 1) ∧ 5 = 4 + 1 := by decide +kernel
theorem d_X7_part_5 : decode cX7_part 5 = .ok (.bipush 127, 2) ∧ 7 = 5 + 2 := by decide +kernel
theorem d_X7_part_7 : decode cX7_part 7 = .ok (.iand, 1) ∧ 8 = 7 + 1 := by decide +kernel
theorem d_X7_part_8 : decode cX7_part 8 = .ok (.iaload, 1) ∧ 9 = 8 + 1 := by decide +kernel
theorem d_X7_part_9 : decode cX7_part 9 = .ok (.aload_n 0, 1) ∧ 10 = 9 + 1 := by decide +kernel
theorem d_X7_part_10 : decode cX7_part 10 = .ok (.getfield 15, 3) ∧ 13 = 10 + 3 := by decide +kernel
theorem d_X7_part_13 : decode cX7_part 13 = .ok (.iload_n 1, 1) ∧ 14 = 13 + 1 := by decide +kernel
theorem d_X7_part_14 : decode cX7_part 14 = .ok (.bipush 7, 2) ∧ 16 = 14 + 2 := by decide +kernel
theorem d_X7_part_16 : decode cX7_part 16 = .ok (.ishr, 1) ∧ 17 = 16 + 1 := by decide +kernel
theorem d_X7_part_17 : decode cX7_part 17 = .ok (.bipush 127, 2) ∧ 19 = 17 + 2 := by decide +kernel
theorem d_X7_part_19 : decode cX7_part 19 = .ok (.iand, 1) ∧ 20 = 19 + 1 := by decide +kernel
theorem d_X7_part_20 : decode cX7_part 20 = .ok (.iaload, 1) ∧ 21 = 20 + 1 := by decide +kernel
theorem d_X7_part_21 : decode cX7_part 21 = .ok (.iadd, 1) ∧ 22 = 21 + 1 := by decide +kernel
theorem d_X7_part_22 : decode cX7_part 22 = .ok (.ireturn, 1) := by decide +kernel
theorem d_X7_upper_0 : decode cX7_upper 0 = .ok (.aload_n 0, 1) ∧ 1 = 0 + 1 := by decide +kernel
theorem d_X7_upper_1 : decode cX7_upper 1 = .ok (.iload_n 1, 1) ∧ 2 = 1 + 1 := by decide +kernel
theorem d_X7_upper_2 : decode cX7_upper 2 = .ok (.invokevirtual 25, 3) ∧ 5 = 2 + 3 := by decide +kernel
theorem d_X7_upper_5 : decode cX7_upper 5 = .ok (.istore_n 2, 1) ∧ 6 = 5 + 1 := by decide +kernel
theorem d_X7_upper_6 : decode cX7_upper 6 = .ok (.iload_n 2, 1) ∧ 7 = 6 + 1 := by decide +kernel
theorem d_X7_upper_7 : decode cX7_upper 7 = .ok (.ldc 40, 2) ∧ 9 = 7 + 2 := by decide +kernel
theorem d_X7_upper_9 : decode cX7_upper 9 = .ok (.iand, 1) ∧ 10 = 9 + 1 := by decide +kernel
theorem d_X7_upper_10 : decode cX7_upper 10 = .ok (.aload_n 0, 1) ∧ 11 = 10 + 1 := by decide +kernel
theorem d_X7_upper_11 : decode cX7_upper 11 = .ok (.getfield 29, 3) ∧ 14 = 11 + 3 := by decide +kernel
theorem d_X7_upper_14 : decode cX7_upper 14 = .ok (.bipush 16, 2) ∧ 16 = 14 + 2 := by decide +kernel
theorem d_X7_upper_16 : decode cX7_upper 16 = .ok (.ishr, 1) ∧ 17 = 16 + 1 := by decide +kernel
theorem d_X7_upper_17 : decode cX7_upper 17 = .ok (.imul, 1) ∧ 18 = 17 + 1 := by decide +kernel
theorem d_X7_upper_18 : decode cX7_upper 18 = .ok (.aload_n 0, 1) ∧ 19 = 18 + 1 := by decide +kernel
theorem d_X7_upper_19 : decode cX7_upper 19 = .ok (.getfield 29, 3) ∧ 22 = 19 + 3 := by decide +kernel
theorem d_X7_upper_22 : decode cX7_upper 22 = .ok (.ldc 40, 2) ∧ 24 = 22 + 2 := by decide +kernel
theorem d_X7_upper_24 : decode cX7_upper 24 = .ok (.iand, 1) ∧ 25 = 24 + 1 := by decide +kernel
theorem d_X7_upper_25 : decode cX7_upper 25 = .ok (.iload_n 2, 1) ∧ 26 = 25 + 1 := by decide +kernel
theorem d_X7_upper_26 : decode cX7_upper 26 = .ok (.bipush 16, 2) ∧ 28 = 26 + 2 := by decide +kernel
theorem d_X7_upper_28 : decode cX7_upper 28 = .ok (.ishr, 1) ∧ 29 = 28 + 1 := by decide +kernel
theorem d_X7_upper_29 : decode cX7_upper 29 = .ok (.imul, 1) ∧ 30 = 29 + 1 := by decide +kernel
theorem d_X7_upper_30 : decode cX7_upper 30 = .ok (.isub, 1) ∧ 31 = 30 + 1 := by decide +kernel
theorem d_X7_upper_31 : decode cX7_upper 31 = .ok (.ireturn, 1) := by decide +kernel
theorem d_X7_lower_0 : decode cX7_lower 0 = .ok (.aload_n 0, 1) ∧ 1 = 0 + 1 := by decide +kernel
theorem d_X7_lower_1 : decode cX7_lower 1 = .ok (.iload_n 1, 1) ∧ 2 = 1 + 1 := by decide +kernel
theorem d_X7_lower_2 : decode cX7_lower 2 = .ok (.invokevirtual 25, 3) ∧ 5 = 2 + 3 := by decide +kernel
theorem d_X7_lower_5 : decode cX7_lower 5 = .ok (.bipush 16, 2) ∧ 7 = 5 + 2 := by decide +kernel
theorem d_X7_lower_7 : decode cX7_lower 7 = .ok (.ishr, 1) ∧ 8 = 7 + 1 := by decide +kernel
theorem d_X7_lower_8 : decode cX7_lower 8 = .ok (.istore_n 2, 1) ∧ 9 = 8 + 1 := by decide +kernel
theorem d_X7_lower_9 : decode cX7_lower 9 = .ok (.iload_n 2, 1) ∧ 10 = 9 + 1 := by decide +kernel
theorem d_X7_lower_10 : decode cX7_lower 10 = .ok (.aload_n 0, 1) ∧ 11 = 10 + 1 := by decide +kernel
theorem d_X7_lower_11 : decode cX7_lower 11 = .ok (.getfield 29, 3) ∧ 14 = 11 + 3 := by decide +kernel
theorem d_X7_lower_14 : decode cX7_lower 14 = .ok (.bipush 16, 2) ∧ 16 = 14 + 2 := by decide +kernel
theorem d_X7_lower_16 : decode cX7_lower 16 = .ok (.ishr, 1) ∧ 17 = 16 + 1 := by decide +kernel
theorem d_X7_lower_17 : decode cX7_lower 17 = .ok (.iload_n 2, 1) ∧ 18 = 17 + 1 := by decide +kernel
theorem d_X7_lower_18 : decode cX7_lower 18 = .ok (.isub, 1) ∧ 19 = 18 + 1 := by decide +kernel
theorem d_X7_lower_19 : decode cX7_lower 19 = .ok (.imul, 1) ∧ 20 = 19 + 1 := by decide +kernel
theorem d_X7_lower_20 : decode cX7_lower 20 = .ok (.ireturn, 1) := by decide +kernel
theorem d_X7_asFar_0 : decode cX7_asFar 0 = .ok (.aload_n 0, 1) ∧ 1 = 0 + 1 := by decide +kernel
theorem d_X7_asFar_1 : decode cX7_asFar 1 = .ok (.iload_n 2, 1) ∧ 2 = 1 + 1 := by decide +kernel
theorem d_X7_asFar_2 : decode cX7_asFar 2 = .ok (.invokevirtual 41, 3) ∧ 5 = 2 + 3 := by decide +kernel
theorem d_X7_asFar_5 : decode cX7_asFar 5 = .ok (.istore_n 3, 1) ∧ 6 = 5 + 1 := by decide +kernel
theorem d_X7_asFar_6 : decode cX7_asFar 6 = .ok (.iload_n 3, 1) ∧ 7 = 6 + 1 := by decide +kernel
theorem d_X7_asFar_7 : decode cX7_asFar 7 = .ok (.ifCond .eq 10, 3) ∧ 10 = 7 + 3 ∧ (7 : Int) + 10 = ((17 : Nat) : Int) := by decide +kernel
theorem d_X7_asFar_10 : decode cX7_asFar 10 = .ok (.aload_n 1, 1) ∧ 11 = 10 + 1 := by decide +kernel
theorem d_X7_asFar_11 : decode cX7_asFar 11 = .ok (.getfield 44, 3) ∧ 14 = 11 + 3 := by decide +kernel
theorem d_X7_asFar_14 : decode cX7_asFar 14 = .ok (.ifCond .ne 5, 3) ∧ 17 = 14 + 3 ∧ (14 : Int) + 5 = ((19 : Nat) : Int) := by decide +kernel
theorem d_X7_asFar_17 : decode cX7_asFar 17 = .ok (.iconst (-1), 1) ∧ 18 = 17 + 1 := by decide +kernel
theorem d_X7_asFar_18 : decode cX7_asFar 18 = .ok (.ireturn, 1) := by decide +kernel
theorem d_X7_asFar_19 : decode cX7_asFar 19 = .ok (.aload_n 0, 1) ∧ 20 = 19 + 1 := by decide +kernel
theorem d_X7_asFar_20 : decode cX7_asFar 20 = .ok (.aload_n 0, 1) ∧ 21 = 20 + 1 := by decide +kernel
theorem d_X7_asFar_21 : decode cX7_asFar 21 = .ok (.iload_n 2, 1) ∧ 22 = 21 + 1 := by decide +kernel
theorem d_X7_asFar_22 : decode cX7_asFar 22 = .ok (.invokevirtual 49, 3) ∧ 25 = 22 + 3 := by decide +kernel
theorem d_X7_asFar_25 : decode cX7_asFar 25 = .ok (.iload_n 3, 1) ∧ 26 = 25 + 1 := by decide +kernel
theorem d_X7_asFar_26 : decode cX7_asFar 26 = .ok (.invokevirtual 52, 3) ∧ 29 = 26 + 3 := by decide +kernel
theorem d_X7_asFar_29 : decode cX7_asFar 29 = .ok (.iconst 0, 1) ∧ 30 = 29 + 1 := by decide +kernel
theorem d_X7_asFar_30 : decode cX7_asFar 30 = .ok (.istore 4, 2) ∧ 32 = 30 + 2 := by decide +kernel
theorem d_X7_asFar_32 : decode cX7_asFar 32 = .ok (.iconst 0, 1) ∧ 33 = 32 + 1 := by decide +kernel
theorem d_X7_asFar_33 : decode cX7_asFar 33 = .ok (.istore 5, 2) ∧ 35 = 33 + 2 := by decide +kernel
theorem d_X7_asFar_35 : decode cX7_asFar 35 = .ok (.iload 5, 2) ∧ 37 = 35 + 2 := by decide +kernel
theorem d_X7_asFar_37 : decode cX7_asFar 37 = .ok (.aload_n 1, 1) ∧ 38 = 37 + 1 := by decide +kernel
theorem d_X7_asFar_38 : decode cX7_asFar 38 = .ok (.getfield 44, 3) ∧ 41 = 38 + 3 := by decide +kernel
theorem d_X7_asFar_41 : decode cX7_asFar 41 = .ok (.if_icmp .ge 56, 3) ∧ 44 = 41 + 3 ∧ (41 : Int) + 56 = ((97 : Nat) : Int) := by decide +kernel
theorem d_X7_asFar_44 : decode cX7_asFar 44 = .ok (.iload 5, 2) ∧ 46 = 44 + 2 := by decide +kernel
theorem d_X7_asFar_46 : decode cX7_asFar 46 = .ok (.aload_n 1, 1) ∧ 47 = 46 + 1 := by decide +kernel
theorem d_X7_asFar_47 : decode cX7_asFar 47 = .ok (.getfield 56, 3) ∧ 50 = 47 + 3 := by decide +kernel
theorem d_X7_asFar_50 : decode cX7_asFar 50 = .ok (.arraylength, 1) ∧ 51 = 50 + 1 := by decide +kernel
theorem d_X7_asFar_51 : decode cX7_asFar 51 = .ok (.if_icmp .ge 46, 3) ∧ 54 = 51 + 3 ∧ (51 : Int) + 46 = ((97 : Nat) : Int) := by decide +kernel
theorem d_X7_asFar_54 : decode cX7_asFar 54 = .ok (.aload_n 0, 1) ∧ 55 = 54 + 1 := by decide +kernel
theorem d_X7_asFar_55 : decode cX7_asFar 55 = .ok (.aload_n 1, 1) ∧ 56 = 55 + 1 := by decide +kernel
theorem d_X7_asFar_56 : decode cX7_asFar 56 = .ok (.getfield 56, 3) ∧ 59 = 56 + 3 := by decide +kernel
theorem d_X7_asFar_59 : decode cX7_asFar 59 = .ok (.iload 5, 2) ∧ 61 = 59 + 2 := by decide +kernel
theorem d_X7_asFar_61 : decode cX7_asFar 61 = .ok (.iaload, 1) ∧ 62 = 61 + 1 := by decide +kernel
theorem d_X7_asFar_62 : decode cX7_asFar 62 = .ok (.invokevirtual 25, 3) ∧ 65 = 62 + 3 := by decide +kernel
theorem d_X7_asFar_65 : decode cX7_asFar 65 = .ok (.istore 6, 2) ∧ 67 = 65 + 2 := by decide +kernel
theorem d_X7_asFar_67 : decode cX7_asFar 67 = .ok (.iload 6, 2) ∧ 69 = 67 + 2 := by decide +kernel
theorem d_X7_asFar_69 : decode cX7_asFar 69 = .ok (.ldc 40, 2) ∧ 71 = 69 + 2 := by decide +kernel
theorem d_X7_asFar_71 : decode cX7_asFar 71 = .ok (.iand, 1) ∧ 72 = 71 + 1 := by decide +kernel
theorem d_X7_asFar_72 : decode cX7_asFar 72 = .ok (.aload_n 0, 1) ∧ 73 = 72 + 1 := by decide +kernel
theorem d_X7_asFar_73 : decode cX7_asFar 73 = .ok (.getfield 18, 3) ∧ 76 = 73 + 3 := by decide +kernel
theorem d_X7_asFar_76 : decode cX7_asFar 76 = .ok (.iload 6, 2) ∧ 78 = 76 + 2 := by decide +kernel
theorem d_X7_asFar_78 : decode cX7_asFar 78 = .ok (.bipush 16, 2) ∧ 80 = 78 + 2 := by decide +kernel
theorem d_X7_asFar_80 : decode cX7_asFar 80 = .ok (.ishr, 1) ∧ 81 = 80 + 1 := by decide +kernel
theorem d_X7_asFar_81 : decode cX7_asFar 81 = .ok (.bipush 15, 2) ∧ 83 = 81 + 2 := by decide +kernel
theorem d_X7_asFar_83 : decode cX7_asFar 83 = .ok (.iand, 1) ∧ 84 = 83 + 1 := by decide +kernel
theorem d_X7_asFar_84 : decode cX7_asFar 84 = .ok (.iaload, 1) ∧ 85 = 84 + 1 := by decide +kernel
theorem d_X7_asFar_85 : decode cX7_asFar 85 = .ok (.if_icmp .lt 6, 3) ∧ 88 = 85 + 3 ∧ (85 : Int) + 6 = ((91 : Nat) : Int) := by decide +kernel
theorem d_X7_asFar_88 : decode cX7_asFar 88 = .ok (.iinc 4 1, 3) ∧ 91 = 88 + 3 := by decide +kernel
theorem d_X7_asFar_91 : decode cX7_asFar 91 = .ok (.iinc 5 1, 3) ∧ 94 = 91 + 3 := by decide +kernel
theorem d_X7_asFar_94 : decode cX7_asFar 94 = .ok (.goto (-59), 3) ∧ (94 : Int) + ((-59)) = ((35 : Nat) : Int) := by decide +kernel
theorem d_X7_asFar_97 : decode cX7_asFar 97 = .ok (.iload 4, 2) ∧ 99 = 97 + 2 := by decide +kernel
theorem d_X7_asFar_99 : decode cX7_asFar 99 = .ok (.ireturn, 1) := by decide +kernel
theorem d_X7_setLeast_0 : decode cX7_setLeast 0 = .ok (.aload_n 0, 1) ∧ 1 = 0 + 1 := by decide +kernel
theorem d_X7_setLeast_1 : decode cX7_setLeast 1 = .ok (.getfield 29, 3) ∧ 4 = 1 + 3 := by decide +kernel
theorem d_X7_setLeast_4 : decode cX7_setLeast 4 = .ok (.bipush 16, 2) ∧ 6 = 4 + 2 := by decide +kernel
theorem d_X7_setLeast_6 : decode cX7_setLeast 6 = .ok (.ishr, 1) ∧ 7 = 6 + 1 := by decide +kernel
theorem d_X7_setLeast_7 : decode cX7_setLeast 7 = .ok (.istore_n 3, 1) ∧ 8 = 7 + 1 := by decide +kernel
theorem d_X7_setLeast_8 : decode cX7_setLeast 8 = .ok (.aload_n 0, 1) ∧ 9 = 8 + 1 := by decide +kernel
theorem d_X7_setLeast_9 : decode cX7_setLeast 9 = .ok (.getfield 29, 3) ∧ 12 = 9 + 3 := by decide +kernel
theorem d_X7_setLeast_12 : decode cX7_setLeast 12 = .ok (.ldc 40, 2) ∧ 14 = 12 + 2 := by decide +kernel
theorem d_X7_setLeast_14 : decode cX7_setLeast 14 = .ok (.iand, 1) ∧ 15 = 14 + 1 := by decide +kernel
theorem d_X7_setLeast_15 : decode cX7_setLeast 15 = .ok (.istore 4, 2) ∧ 17 = 15 + 2 := by decide +kernel
theorem d_X7_setLeast_17 : decode cX7_setLeast 17 = .ok (.aload_n 0, 1) ∧ 18 = 17 + 1 := by decide +kernel
theorem d_X7_setLeast_18 : decode cX7_setLeast 18 = .ok (.getfield 18, 3) ∧ 21 = 18 + 3 := by decide +kernel
theorem d_X7_setLeast_21 : decode cX7_setLeast 21 = .ok (.ldc 39, 2) ∧ 23 = 21 + 2 := by decide +kernel
theorem d_X7_setLeast_23 : decode cX7_setLeast 23 = .ok (.invokestatic 59, 3) ∧ 26 = 23 + 3 := by decide +kernel
theorem d_X7_setLeast_26 : decode cX7_setLeast 26 = .ok (.iconst 1, 1) ∧ 27 = 26 + 1 := by decide +kernel
theorem d_X7_setLeast_27 : decode cX7_setLeast 27 = .ok (.istore 5, 2) ∧ 29 = 27 + 2 := by decide +kernel
theorem d_X7_setLeast_29 : decode cX7_setLeast 29 = .ok (.iload 5, 2) ∧ 31 = 29 + 2 := by decide +kernel
theorem d_X7_setLeast_31 : decode cX7_setLeast 31 = .ok (.iload_n 3, 1) ∧ 32 = 31 + 1 := by decide +kernel
theorem d_X7_setLeast_32 : decode cX7_setLeast 32 = .ok (.if_icmp .ge 64, 3) ∧ 35 = 32 + 3 ∧ (32 : Int) + 64 = ((96 : Nat) : Int) := by decide +kernel
theorem d_X7_setLeast_35 : decode cX7_setLeast 35 = .ok (.iload 5, 2) ∧ 37 = 35 + 2 := by decide +kernel
theorem d_X7_setLeast_37 : decode cX7_setLeast 37 = .ok (.aload_n 0, 1) ∧ 38 = 37 + 1 := by decide +kernel
theorem d_X7_setLeast_38 : decode cX7_setLeast 38 = .ok (.getfield 18, 3) ∧ 41 = 38 + 3 := by decide +kernel
theorem d_X7_setLeast_41 : decode cX7_setLeast 41 = .ok (.arraylength, 1) ∧ 42 = 41 + 1 := by decide +kernel
theorem d_X7_setLeast_42 : decode cX7_setLeast 42 = .ok (.if_icmp .ge 54, 3) ∧ 45 = 42 + 3 ∧ (42 : Int) + 54 = ((96 : Nat) : Int) := by decide +kernel
theorem d_X7_setLeast_45 : decode cX7_setLeast 45 = .ok (.iload_n 1, 1) ∧ 46 = 45 + 1 := by decide +kernel
theorem d_X7_setLeast_46 : decode cX7_setLeast 46 = .ok (.iload 5, 2) ∧ 48 = 46 + 2 := by decide +kernel
theorem d_X7_setLeast_48 : decode cX7_setLeast 48 = .ok (.imul, 1) ∧ 49 = 48 + 1 := by decide +kernel
theorem d_X7_setLeast_49 : decode cX7_setLeast 49 = .ok (.iload_n 3, 1) ∧ 50 = 49 + 1 := by decide +kernel
theorem d_X7_setLeast_50 : decode cX7_setLeast 50 = .ok (.iload 5, 2) ∧ 52 = 50 + 2 := by decide +kernel
theorem d_X7_setLeast_52 : decode cX7_setLeast 52 = .ok (.isub, 1) ∧ 53 = 52 + 1 := by decide +kernel
theorem d_X7_setLeast_53 : decode cX7_setLeast 53 = .ok (.imul, 1) ∧ 54 = 53 + 1 := by decide +kernel
theorem d_X7_setLeast_54 : decode cX7_setLeast 54 = .ok (.iload 4, 2) ∧ 56 = 54 + 2 := by decide +kernel
theorem d_X7_setLeast_56 : decode cX7_setLeast 56 = .ok (.iload 5, 2) ∧ 58 = 56 + 2 := by decide +kernel
theorem d_X7_setLeast_58 : decode cX7_setLeast 58 = .ok (.imul, 1) ∧ 59 = 58 + 1 := by decide +kernel
theorem d_X7_setLeast_59 : decode cX7_setLeast 59 = .ok (.iload_n 2, 1) ∧ 60 = 59 + 1 := by decide +kernel
theorem d_X7_setLeast_60 : decode cX7_setLeast 60 = .ok (.imul, 1) ∧ 61 = 60 + 1 := by decide +kernel
theorem d_X7_setLeast_61 : decode cX7_setLeast 61 = .ok (.iadd, 1) ∧ 62 = 61 + 1 := by decide +kernel
theorem d_X7_setLeast_62 : decode cX7_setLeast 62 = .ok (.istore 6, 2) ∧ 64 = 62 + 2 := by decide +kernel
theorem d_X7_setLeast_64 : decode cX7_setLeast 64 = .ok (.iload_n 3, 1) ∧ 65 = 64 + 1 := by decide +kernel
theorem d_X7_setLeast_65 : decode cX7_setLeast 65 = .ok (.iload_n 2, 1) ∧ 66 = 65 + 1 := by decide +kernel
theorem d_X7_setLeast_66 : decode cX7_setLeast 66 = .ok (.imul, 1) ∧ 67 = 66 + 1 := by decide +kernel
theorem d_X7_setLeast_67 : decode cX7_setLeast 67 = .ok (.istore 7, 2) ∧ 69 = 67 + 2 := by decide +kernel
theorem d_X7_setLeast_69 : decode cX7_setLeast 69 = .ok (.iload 7, 2) ∧ 71 = 69 + 2 := by decide +kernel
theorem d_X7_setLeast_71 : decode cX7_setLeast 71 = .ok (.ifCond .le 19, 3) ∧ 74 = 71 + 3 ∧ (71 : Int) + 19 = ((90 : Nat) : Int) := by decide +kernel
theorem d_X7_setLeast_74 : decode cX7_setLeast 74 = .ok (.aload_n 0, 1) ∧ 75 = 74 + 1 := by decide +kernel
theorem d_X7_setLeast_75 : decode cX7_setLeast 75 = .ok (.getfield 18, 3) ∧ 78 = 75 + 3 := by decide +kernel
theorem d_X7_setLeast_78 : decode cX7_setLeast 78 = .ok (.iload 5, 2) ∧ 80 = 78 + 2 := by decide +kernel
theorem d_X7_setLeast_80 : decode cX7_setLeast 80 = .ok (.iload 6, 2) ∧ 82 = 80 + 2 := by decide +kernel
theorem d_X7_setLeast_82 : decode cX7_setLeast 82 = .ok (.ineg, 1) ∧ 83 = 82 + 1 := by decide +kernel
theorem d_X7_setLeast_83 : decode cX7_setLeast 83 = .ok (.iload 7, 2) ∧ 85 = 83 + 2 := by decide +kernel
theorem d_X7_setLeast_85 : decode cX7_setLeast 85 = .ok (.invokestatic 64, 3) ∧ 88 = 85 + 3 := by decide +kernel
theorem d_X7_setLeast_88 : decode cX7_setLeast 88 = .ok (.ineg, 1) ∧ 89 = 88 + 1 := by decide +kernel
theorem d_X7_setLeast_89 : decode cX7_setLeast 89 = .ok (.iastore, 1) ∧ 90 = 89 + 1 := by decide +kernel
theorem d_X7_setLeast_90 : decode cX7_setLeast 90 = .ok (.iinc 5 1, 3) ∧ 93 = 90 + 3 := by decide +kernel
theorem d_X7_setLeast_93 : decode cX7_setLeast 93 = .ok (.goto (-64), 3) ∧ (93 : Int) + ((-64)) = ((29 : Nat) : Int) := by decide +kernel
theorem d_X7_setLeast_96 : decode cX7_setLeast 96 = .ok (.return_, 1) := by decide +kernel
theorem d_X8_init_0 : decode cX8_init 0 = .ok (.aload_n 0, 1) ∧ 1 = 0 + 1 := by decide +kernel
theorem d_X8_init_1 : decode cX8_init 1 = .ok (.invokespecial 3, 3) ∧ 4 = 1 + 3 := by decide +kernel
theorem d_X8_init_4 : decode cX8_init 4 = .ok (.aload_n 0, 1) ∧ 5 = 4 + 1 := by decide +kernel
theorem d_X8_init_5 : decode cX8_init 5 = .ok (.bipush 10, 2) ∧ 7 = 5 + 2 := by decide +kernel
theorem d_X8_init_7 : decode cX8_init 7 = .ok (.newarray .int, 2) ∧ 9 = 7 + 2 := by decide +kernel
theorem d_X8_init_9 : decode cX8_init 9 = .ok (.putfield 9, 3) ∧ 12 = 9 + 3 := by decide +kernel
theorem d_X8_init_12 : decode cX8_init 12 = .ok (.aload_n 0, 1) ∧ 13 = 12 + 1 := by decide +kernel
theorem d_X8_init_13 : decode cX8_init 13 = .ok (.bipush 11, 2) ∧ 15 = 13 + 2 := by decide +kernel
theorem d_X8_init_15 : decode cX8_init 15 = .ok (.newarray .int, 2) ∧ 17 = 15 + 2 := by decide +kernel
theorem d_X8_init_17 : decode cX8_init 17 = .ok (.putfield 15, 3) ∧ 20 = 17 + 3 := by decide +kernel
theorem d_X8_init_20 : decode cX8_init 20 = .ok (.aload_n 0, 1) ∧ 21 = 20 + 1 := by decide +kernel
theorem d_X8_init_21 : decode cX8_init 21 = .ok (.sipush 300, 3) ∧ 24 = 21 + 3 := by decide +kernel
theorem d_X8_init_24 : decode cX8_init 24 = .ok (.newarray .int, 2) ∧ 26 = 24 + 2 := by decide +kernel
theorem d_X8_init_26 : decode cX8_init 26 = .ok (.putfield 18, 3) ∧ 29 = 26 + 3 := by decide +kernel
theorem d_X8_init_29 : decode cX8_init 29 = .ok (.return_, 1) := by decide +kernel
theorem d_X8_clear_0 : decode cX8_clear 0 = .ok (.aload_n 0, 1) ∧ 1 = 0 + 1 := by decide +kernel
theorem d_X8_clear_1 : decode cX8_clear 1 = .ok (.iconst 0, 1) ∧ 2 = 1 + 1 := by decide +kernel
theorem d_X8_clear_2 : decode cX8_clear 2 = .ok (.putfield 21, 3) ∧ 5 = 2 + 3 := by decide +kernel
theorem d_X8_clear_5 : decode cX8_clear 5 = .ok (.aload_n 0, 1) ∧ 6 = 5 + 1 := by decide +kernel
theorem d_X8_clear_6 : decode cX8_clear 6 = .ok (.iconst (-1), 1) ∧ 7 = 6 + 1 := by decide +kernel
theorem d_X8_clear_7 : decode cX8_clear 7 = .ok (.putfield 25, 3) ∧ 10 = 7 + 3 := by decide +kernel
theorem d_X8_clear_10 : decode cX8_clear 10 = .ok (.aload_n 0, 1) ∧ 11 = 10 + 1 := by decide +kernel
theorem d_X8_clear_11 : decode cX8_clear 11 = .ok (.iconst (-1), 1) ∧ 12 = 11 + 1 := by decide +kernel
theorem d_X8_clear_12 : decode cX8_clear 12 = .ok (.putfield 28, 3) ∧ 15 = 12 + 3 := by decide +kernel
theorem d_X8_clear_15 : decode cX8_clear 15 = .ok (.return_, 1) := by decide +kernel
theorem d_X8_isFull_0 : decode cX8_isFull 0 = .ok (.aload_n 0, 1) ∧ 1 = 0 + 1 := by decide +kernel
theorem d_X8_isFull_1 : decode cX8_isFull 1 = .ok (.getfield 21, 3) ∧ 4 = 1 + 3 := by decide +kernel
theorem d_X8_isFull_4 : decode cX8_isFull 4 = .ok (.bipush 10, 2) ∧ 6 = 4 + 2 := by decide +kernel
theorem d_X8_isFull_6 : decode cX8_isFull 6 = .ok (.if_icmp .lt 7, 3) ∧ 9 = 6 + 3 ∧ (6 : Int) + 7 = ((13 : Nat) : Int) := by decide +kernel
theorem d_X8_isFull_9 : decode cX8_isFull 9 = .ok (.iconst 1, 1) ∧ 10 = 9 + 1 := by decide +kernel
theorem d_X8_isFull_10 : decode cX8_isFull 10 = .ok (.goto 4, 3) ∧ (10 : Int) + (4) = ((14 : Nat) : Int) := by decide +kernel
theorem d_X8_isFull_13 : decode cX8_isFull 13 = .ok (.iconst 0, 1) ∧ 14 = 13 + 1 := by decide +kernel
theorem d_X8_isFull_14 : decode cX8_isFull 14 = .ok (.ireturn, 1) := by decide +kernel
theorem d_X8_begin_0 : decode cX8_begin 0 = .ok (.aload_n 0, 1) ∧ 1 = 0 + 1 := by decide +kernel
theorem d_X8_begin_1 : decode cX8_begin 1 = .ok (.getfield 21, 3) ∧ 4 = 1 + 3 := by decide +kernel
theorem d_X8_begin_4 : decode cX8_begin 4 = .ok (.bipush 10, 2) ∧ 6 = 4 + 2 := by decide +kernel
theorem d_X8_begin_6 : decode cX8_begin 6 = .ok (.if_icmp .ge 43, 3) ∧ 9 = 6 + 3 ∧ (6 : Int) + 43 = ((49 : Nat) : Int) := by decide +kernel
theorem d_X8_begin_9 : decode cX8_begin 9 = .ok (.aload_n 0, 1) ∧ 10 = 9 + 1 := by decide +kernel
theorem d_X8_begin_10 : decode cX8_begin 10 = .ok (.getfield 9, 3) ∧ 13 = 10 + 3 := by decide +kernel
theorem d_X8_begin_13 : decode cX8_begin 13 = .ok (.aload_n 0, 1) ∧ 14 = 13 + 1 := by decide +kernel
theorem d_X8_begin_14 : decode cX8_begin 14 = .ok (.getfield 21, 3) ∧ 17 = 14 + 3 := by decide +kernel
theorem d_X8_begin_17 : decode cX8_begin 17 = .ok (.iload_n 1, 1) ∧ 18 = 17 + 1 := by decide +kernel
theorem d_X8_begin_18 : decode cX8_begin 18 = .ok (.iastore, 1) ∧ 19 = 18 + 1 := by decide +kernel
theorem d_X8_begin_19 : decode cX8_begin 19 = .ok (.aload_n 0, 1) ∧ 20 = 19 + 1 := by decide +kernel
theorem d_X8_begin_20 : decode cX8_begin 20 = .ok (.getfield 15, 3) ∧ 23 = 20 + 3 := by decide +kernel
theorem d_X8_begin_23 : decode cX8_begin 23 = .ok (.aload_n 0, 1) ∧ 24 = 23 + 1 := by decide +kernel
theorem d_X8_begin_24 : decode cX8_begin 24 = .ok (.getfield 21, 3) ∧ 27 = 24 + 3 := by decide +kernel
theorem d_X8_begin_27 : decode cX8_begin 27 = .ok (.iconst 1, 1) ∧ 28 = 27 + 1 := by decide +kernel
theorem d_X8_begin_28 : decode cX8_begin 28 = .ok (.iadd, 1) ∧ 29 = 28 + 1 := by decide +kernel
theorem d_X8_begin_29 : decode cX8_begin 29 = .ok (.aload_n 0, 1) ∧ 30 = 29 + 1 := by decide +kernel
theorem d_X8_begin_30 : decode cX8_begin 30 = .ok (.getfield 15, 3) ∧ 33 = 30 + 3 := by decide +kernel
theorem d_X8_begin_33 : decode cX8_begin 33 = .ok (.aload_n 0, 1) ∧ 34 = 33 + 1 := by decide +kernel
theorem d_X8_begin_34 : decode cX8_begin 34 = .ok (.getfield 21, 3) ∧ 37 = 34 + 3 := by decide +kernel
theorem d_X8_begin_37 : decode cX8_begin 37 = .ok (.iaload, 1) ∧ 38 = 37 + 1 := by decide +kernel
theorem d_X8_begin_38 : decode cX8_begin 38 = .ok (.iastore, 1) ∧ 39 = 38 + 1 := by decide +kernel
theorem d_X8_begin_39 : decode cX8_begin 39 = .ok (.aload_n 0, 1) ∧ 40 = 39 + 1 := by decide +kernel
theorem d_X8_begin_40 : decode cX8_begin 40 = .ok (.dup, 1) ∧ 41 = 40 + 1 := by decide +kernel
theorem d_X8_begin_41 : decode cX8_begin 41 = .ok (.getfield 21, 3) ∧ 44 = 41 + 3 := by decide +kernel
theorem d_X8_begin_44 : decode cX8_begin 44 = .ok (.iconst 1, 1) ∧ 45 = 44 + 1 := by decide +kernel
theorem d_X8_begin_45 : decode cX8_begin 45 = .ok (.iadd, 1) ∧ 46 = 45 + 1 := by decide +kernel
theorem d_X8_begin_46 : decode cX8_begin 46 = .ok (.putfield 21, 3) ∧ 49 = 46 + 3 := by decide +kernel
theorem d_X8_begin_49 : decode cX8_begin 49 = .ok (.return_, 1) := by decide +kernel
theorem d_X8_emit_0 : decode cX8_emit 0 = .ok (.aload_n 0, 1) ∧ 1 = 0 + 1 := by decide +kernel
theorem d_X8_emit_1 : decode cX8_emit 1 = .ok (.getfield 15, 3) ∧ 4 = 1 + 3 := by decide +kernel
theorem d_X8_emit_4 : decode cX8_emit 4 = .ok (.aload_n 0, 1) ∧ 5 = 4 + 1 := by decide +kernel
theorem d_X8_emit_5 : decode cX8_emit 5 = .ok (.getfield 21, 3) ∧ 8 = 5 + 3 := by decide +kernel
theorem d_X8_emit_8 : decode cX8_emit 8 = .ok (.iaload, 1) ∧ 9 = 8 + 1 := by decide +kernel
theorem d_X8_emit_9 : decode cX8_emit 9 = .ok (.istore_n 2, 1) ∧ 10 = 9 + 1 := by decide +kernel
theorem d_X8_emit_10 : decode cX8_emit 10 = .ok (.aload_n 0, 1) ∧ 11 = 10 + 1 := by decide +kernel
theorem d_X8_emit_11 : decode cX8_emit 11 = .ok (.getfield 21, 3) ∧ 14 = 11 + 3 := by decide +kernel
theorem d_X8_emit_14 : decode cX8_emit 14 = .ok (.ifCond .le 31, 3) ∧ 17 = 14 + 3 ∧ (14 : Int) + 31 = ((45 : Nat) : Int) := by decide +kernel
theorem d_X8_emit_17 : decode cX8_emit 17 = .ok (.iload_n 2, 1) ∧ 18 = 17 + 1 := by decide +kernel
theorem d_X8_emit_18 : decode cX8_emit 18 = .ok (.aload_n 0, 1) ∧ 19 = 18 + 1 := by decide +kernel
theorem d_X8_emit_19 : decode cX8_emit 19 = .ok (.getfield 18, 3) ∧ 22 = 19 + 3 := by decide +kernel
theorem d_X8_emit_22 : decode cX8_emit 22 = .ok (.arraylength, 1) ∧ 23 = 22 + 1 := by decide +kernel
theorem d_X8_emit_23 : decode cX8_emit 23 = .ok (.if_icmp .ge 22, 3) ∧ 26 = 23 + 3 ∧ (23 : Int) + 22 = ((45 : Nat) : Int) := by decide +kernel
theorem d_X8_emit_26 : decode cX8_emit 26 = .ok (.aload_n 0, 1) ∧ 27 = 26 + 1 := by decide +kernel
theorem d_X8_emit_27 : decode cX8_emit 27 = .ok (.getfield 18, 3) ∧ 30 = 27 + 3 := by decide +kernel
theorem d_X8_emit_30 : decode cX8_emit 30 = .ok (.iload_n 2, 1) ∧ 31 = 30 + 1 := by decide +kernel
theorem d_X8_emit_31 : decode cX8_emit 31 = .ok (.iload_n 1, 1) ∧ 32 = 31 + 1 := by decide +kernel
theorem d_X8_emit_32 : decode cX8_emit 32 = .ok (.iastore, 1) ∧ 33 = 32 + 1 := by decide +kernel
theorem d_X8_emit_33 : decode cX8_emit 33 = .ok (.aload_n 0, 1) ∧ 34 = 33 + 1 := by decide +kernel
theorem d_X8_emit_34 : decode cX8_emit 34 = .ok (.getfield 15, 3) ∧ 37 = 34 + 3 := by decide +kernel
theorem d_X8_emit_37 : decode cX8_emit 37 = .ok (.aload_n 0, 1) ∧ 38 = 37 + 1 := by decide +kernel
theorem d_X8_emit_38 : decode cX8_emit 38 = .ok (.getfield 21, 3) ∧ 41 = 38 + 3 := by decide +kernel
theorem d_X8_emit_41 : decode cX8_emit 41 = .ok (.iload_n 2, 1) ∧ 42 = 41 + 1 := by decide +kernel
theorem d_X8_emit_42 : decode cX8_emit 42 = .ok (.iconst 1, 1) ∧ 43 = 42 + 1 := by decide +kernel
theorem d_X8_emit_43 : decode cX8_emit 43 = .ok (.iadd, 1) ∧ 44 = 43 + 1 := by decide +kernel
theorem d_X8_emit_44 : decode cX8_emit 44 = .ok (.iastore, 1) ∧ 45 = 44 + 1 := by decide +kernel
theorem d_X8_emit_45 : decode cX8_emit 45 = .ok (.return_, 1) := by decide +kernel
theorem d_X8_has_0 : decode cX8_has 0 = .ok (.iconst 0, 1) ∧ 1 = 0 + 1 := by decide +kernel
theorem d_X8_has_1 : decode cX8_has 1 = .ok (.istore_n 2, 1) ∧ 2 = 1 + 1 := by decide +kernel
theorem d_X8_has_2 : decode cX8_has 2 = .ok (.iload_n 2, 1) ∧ 3 = 2 + 1 := by decide +kernel
theorem d_X8_has_3 : decode cX8_has 3 = .ok (.aload_n 0, 1) ∧ 4 = 3 + 1 := by decide +kernel
theorem d_X8_has_4 : decode cX8_has 4 = .ok (.getfield 21, 3) ∧ 7 = 4 + 3 := by decide +kernel
theorem d_X8_has_7 : decode cX8_has 7 = .ok (.if_icmp .ge 21, 3) ∧ 10 = 7 + 3 ∧ (7 : Int) + 21 = ((28 : Nat) : Int) := by decide +kernel
theorem d_X8_has_10 : decode cX8_has 10 = .ok (.aload_n 0, 1) ∧ 11 = 10 + 1 := by decide +kernel
theorem d_X8_has_11 : decode cX8_has 11 = .ok (.getfield 9, 3) ∧ 14 = 11 + 3 := by decide +kernel
theorem d_X8_has_14 : decode cX8_has 14 = .ok (.iload_n 2, 1) ∧ 15 = 14 + 1 := by decide +kernel
theorem d_X8_has_15 : decode cX8_has 15 = .ok (.iaload, 1) ∧ 16 = 15 + 1 := by decide +kernel
theorem d_X8_has_16 : decode cX8_has 16 = .ok (.iload_n 1, 1) ∧ 17 = 16 + 1 := by decide +kernel
theorem d_X8_has_17 : decode cX8_has 17 = .ok (.if_icmp .ne 5, 3) ∧ 20 = 17 + 3 ∧ (17 : Int) + 5 = ((22 : Nat) : Int) := by decide +kernel
theorem d_X8_has_20 : decode cX8_has 20 = .ok (.iconst 1, 1) ∧ 21 = 20 + 1 := by decide +kernel
theorem d_X8_has_21 : decode cX8_has 21 = .ok (.ireturn, 1) := by decide +kernel
theorem d_X8_has_22 : decode cX8_has 22 = .ok (.iinc 2 1, 3) ∧ 25 = 22 + 3 := by decide +kernel
theorem d_X8_has_25 : decode cX8_has 25 = .ok (.goto (-23), 3) ∧ (25 : Int) + ((-23)) = ((2 : Nat) : Int) := by decide +kernel
theorem d_X8_has_28 : decode cX8_has 28 = .ok (.iconst 0, 1) ∧ 29 = 28 + 1 := by decide +kernel
theorem d_X8_has_29 : decode cX8_has 29 = .ok (.ireturn, 1) := by decide +kernel
theorem d_X9_init_0 : decode cX9_init 0 = .ok (.aload_n 0, 1) ∧ 1 = 0 + 1 := by decide +kernel
theorem d_X9_init_1 : decode cX9_init 1 = .ok (.invokespecial 3, 3) ∧ 4 = 1 + 3 := by decide +kernel
theorem d_X9_init_4 : decode cX9_init 4 = .ok (.aload_n 0, 1) ∧ 5 = 4 + 1 := by decide +kernel
theorem d_X9_init_5 : decode cX9_init 5 = .ok (.bipush 12, 2) ∧ 7 = 5 + 2 := by decide +kernel
theorem d_X9_init_7 : decode cX9_init 7 = .ok (.newarray .int, 2) ∧ 9 = 7 + 2 := by decide +kernel
theorem d_X9_init_9 : decode cX9_init 9 = .ok (.putfield 9, 3) ∧ 12 = 9 + 3 := by decide +kernel
theorem d_X9_init_12 : decode cX9_init 12 = .ok (.aload_n 0, 1) ∧ 13 = 12 + 1 := by decide +kernel
theorem d_X9_init_13 : decode cX9_init 13 = .ok (.bipush 12, 2) ∧ 15 = 13 + 2 := by decide +kernel
theorem d_X9_init_15 : decode cX9_init 15 = .ok (.newarray .int, 2) ∧ 17 = 15 + 2 := by decide +kernel
theorem d_X9_init_17 : decode cX9_init 17 = .ok (.putfield 15, 3) ∧ 20 = 17 + 3 := by decide +kernel
theorem d_X9_init_20 : decode cX9_init 20 = .ok (.aload_n 0, 1) ∧ 21 = 20 + 1 := by decide +kernel
theorem d_X9_init_21 : decode cX9_init 21 = .ok (.bipush 12, 2) ∧ 23 = 21 + 2 := by decide +kernel
theorem d_X9_init_23 : decode cX9_init 23 = .ok (.newarray .boolean, 2) ∧ 25 = 23 + 2 := by decide +kernel
theorem d_X9_init_25 : decode cX9_init 25 = .ok (.putfield 18, 3) ∧ 28 = 25 + 3 := by decide +kernel
theorem d_X9_init_28 : decode cX9_init 28 = .ok (.aload_n 0, 1) ∧ 29 = 28 + 1 := by decide +kernel
theorem d_X9_init_29 : decode cX9_init 29 = .ok (.bipush 12, 2) ∧ 31 = 29 + 2 := by decide +kernel
theorem d_X9_init_31 : decode cX9_init 31 = .ok (.newarray .int, 2) ∧ 33 = 31 + 2 := by decide +kernel
theorem d_X9_init_33 : decode cX9_init 33 = .ok (.putfield 22, 3) ∧ 36 = 33 + 3 := by decide +kernel
theorem d_X9_init_36 : decode cX9_init 36 = .ok (.aload_n 0, 1) ∧ 37 = 36 + 1 := by decide +kernel
theorem d_X9_init_37 : decode cX9_init 37 = .ok (.sipush 168, 3) ∧ 40 = 37 + 3 := by decide +kernel
theorem d_X9_init_40 : decode cX9_init 40 = .ok (.newarray .int, 2) ∧ 42 = 40 + 2 := by decide +kernel
theorem d_X9_init_42 : decode cX9_init 42 = .ok (.putfield 25, 3) ∧ 45 = 42 + 3 := by decide +kernel
theorem d_X9_init_45 : decode cX9_init 45 = .ok (.aload_n 0, 1) ∧ 46 = 45 + 1 := by decide +kernel
theorem d_X9_init_46 : decode cX9_init 46 = .ok (.getfield 25, 3) ∧ 49 = 46 + 3 := by decide +kernel
theorem d_X9_init_49 : decode cX9_init 49 = .ok (.iconst (-1), 1) ∧ 50 = 49 + 1 := by decide +kernel
theorem d_X9_init_50 : decode cX9_init 50 = .ok (.invokestatic 28, 3) ∧ 53 = 50 + 3 := by decide +kernel
theorem d_X9_init_53 : decode cX9_init 53 = .ok (.return_, 1) := by decide +kernel
theorem d_X9_add_0 : decode cX9_add 0 = .ok (.aload_n 0, 1) ∧ 1 = 0 + 1 := by decide +kernel
theorem d_X9_add_1 : decode cX9_add 1 = .ok (.getfield 34, 3) ∧ 4 = 1 + 3 := by decide +kernel
theorem d_X9_add_4 : decode cX9_add 4 = .ok (.bipush 12, 2) ∧ 6 = 4 + 2 := by decide +kernel
theorem d_X9_add_6 : decode cX9_add 6 = .ok (.if_icmp .lt 5, 3) ∧ 9 = 6 + 3 ∧ (6 : Int) + 5 = ((11 : Nat) : Int) := by decide +kernel
theorem d_X9_add_9 : decode cX9_add 9 = .ok (.iconst (-1), 1) ∧ 10 = 9 + 1 := by decide +kernel
theorem d_X9_add_10 : decode cX9_add 10 = .ok (.ireturn, 1) := by decide +kernel
theorem d_X9_add_11 : decode cX9_add 11 = .ok (.aload_n 0, 1) ∧ 12 = 11 + 1 := by decide +kernel
theorem d_X9_add_12 : decode cX9_add 12 = .ok (.getfield 9, 3) ∧ 15 = 12 + 3 := by decide +kernel
theorem d_X9_add_15 : decode cX9_add 15 = .ok (.aload_n 0, 1) ∧ 16 = 15 + 1 := by decide +kernel
theorem d_X9_add_16 : decode cX9_add 16 = .ok (.getfield 34, 3) ∧ 19 = 16 + 3 := by decide +kernel
theorem d_X9_add_19 : decode cX9_add 19 = .ok (.iload_n 1, 1) ∧ 20 = 19 + 1 := by decide +kernel
theorem d_X9_add_20 : decode cX9_add 20 = .ok (.iastore, 1) ∧ 21 = 20 + 1 := by decide +kernel
theorem d_X9_add_21 : decode cX9_add 21 = .ok (.aload_n 0, 1) ∧ 22 = 21 + 1 := by decide +kernel
theorem d_X9_add_22 : decode cX9_add 22 = .ok (.getfield 15, 3) ∧ 25 = 22 + 3 := by decide +kernel
theorem d_X9_add_25 : decode cX9_add 25 = .ok (.aload_n 0, 1) ∧ 26 = 25 + 1 := by decide +kernel
theorem d_X9_add_26 : decode cX9_add 26 = .ok (.getfield 34, 3) ∧ 29 = 26 + 3 := by decide +kernel
theorem d_X9_add_29 : decode cX9_add 29 = .ok (.iload_n 2, 1) ∧ 30 = 29 + 1 := by decide +kernel
theorem d_X9_add_30 : decode cX9_add 30 = .ok (.iastore, 1) ∧ 31 = 30 + 1 := by decide +kernel
theorem d_X9_add_31 : decode cX9_add 31 = .ok (.aload_n 0, 1) ∧ 32 = 31 + 1 := by decide +kernel
theorem d_X9_add_32 : decode cX9_add 32 = .ok (.getfield 18, 3) ∧ 35 = 32 + 3 := by decide +kernel
theorem d_X9_add_35 : decode cX9_add 35 = .ok (.aload_n 0, 1) ∧ 36 = 35 + 1 := by decide +kernel
theorem d_X9_add_36 : decode cX9_add 36 = .ok (.getfield 34, 3) ∧ 39 = 36 + 3 := by decide +kernel
theorem d_X9_add_39 : decode cX9_add 39 = .ok (.iload_n 3, 1) ∧ 40 = 39 + 1 := by decide +kernel
theorem d_X9_add_40 : decode cX9_add 40 = .ok (.bastore, 1) ∧ 41 = 40 + 1 := by decide +kernel
theorem d_X9_add_41 : decode cX9_add 41 = .ok (.aload_n 0, 1) ∧ 42 = 41 + 1 := by decide +kernel
theorem d_X9_add_42 : decode cX9_add 42 = .ok (.getfield 22, 3) ∧ 45 = 42 + 3 := by decide +kernel
theorem d_X9_add_45 : decode cX9_add 45 = .ok (.aload_n 0, 1) ∧ 46 = 45 + 1 := by decide +kernel
theorem d_X9_add_46 : decode cX9_add 46 = .ok (.getfield 34, 3) ∧ 49 = 46 + 3 := by decide +kernel
theorem d_X9_add_49 : decode cX9_add 49 = .ok (.iload 4, 2) ∧ 51 = 49 + 2 := by decide +kernel
theorem d_X9_add_51 : decode cX9_add 51 = .ok (.iastore, 1) ∧ 52 = 51 + 1 := by decide +kernel
theorem d_X9_add_52 : decode cX9_add 52 = .ok (.aload_n 0, 1) ∧ 53 = 52 + 1 := by decide +kernel
theorem d_X9_add_53 : decode cX9_add 53 = .ok (.dup, 1) ∧ 54 = 53 + 1 := by decide +kernel
theorem d_X9_add_54 : decode cX9_add 54 = .ok (.getfield 34, 3) ∧ 57 = 54 + 3 := by decide +kernel
theorem d_X9_add_57 : decode cX9_add 57 = .ok (.iconst 1, 1) ∧ 58 = 57 + 1 := by decide +kernel
theorem d_X9_add_58 : decode cX9_add 58 = .ok (.iadd, 1) ∧ 59 = 58 + 1 := by decide +kernel
theorem d_X9_add_59 : decode cX9_add 59 = .ok (.putfield 34, 3) ∧ 62 = 59 + 3 := by decide +kernel
theorem d_X9_add_62 : decode cX9_add 62 = .ok (.aload_n 0, 1) ∧ 63 = 62 + 1 := by decide +kernel
theorem d_X9_add_63 : decode cX9_add 63 = .ok (.getfield 34, 3) ∧ 66 = 63 + 3 := by decide +kernel
theorem d_X9_add_66 : decode cX9_add 66 = .ok (.iconst 1, 1) ∧ 67 = 66 + 1 := by decide +kernel
theorem d_X9_add_67 : decode cX9_add 67 = .ok (.isub, 1) ∧ 68 = 67 + 1 := by decide +kernel
theorem d_X9_add_68 : decode cX9_add 68 = .ok (.ireturn, 1) := by decide +kernel
theorem d_X9_has_0 : decode cX9_has 0 = .ok (.iload_n 1, 1) ∧ 1 = 0 + 1 := by decide +kernel
theorem d_X9_has_1 : decode cX9_has 1 = .ok (.ifCond .lt 15, 3) ∧ 4 = 1 + 3 ∧ (1 : Int) + 15 = ((16 : Nat) : Int) := by decide +kernel
theorem d_X9_has_4 : decode cX9_has 4 = .ok (.iload_n 1, 1) ∧ 5 = 4 + 1 := by decide +kernel
theorem d_X9_has_5 : decode cX9_has 5 = .ok (.aload_n 0, 1) ∧ 6 = 5 + 1 := by decide +kernel
theorem d_X9_has_6 : decode cX9_has 6 = .ok (.getfield 34, 3) ∧ 9 = 6 + 3 := by decide +kernel
theorem d_X9_has_9 : decode cX9_has 9 = .ok (.if_icmp .ge 7, 3) ∧ 12 = 9 + 3 ∧ (9 : Int) + 7 = ((16 : Nat) : Int) := by decide +kernel
theorem d_X9_has_12 : decode cX9_has 12 = .ok (.iconst 1, 1) ∧ 13 = 12 + 1 := by decide +kernel
theorem d_X9_has_13 : decode cX9_has 13 = .ok (.goto 4, 3) ∧ (13 : Int) + (4) = ((17 : Nat) : Int) := by decide +kernel
theorem d_X9_has_16 : decode cX9_has 16 = .ok (.iconst 0, 1) ∧ 17 = 16 + 1 := by decide +kernel
theorem d_X9_has_17 : decode cX9_has 17 = .ok (.ireturn, 1) := by decide +kernel
theorem d_X9_hasAll_0 : decode cX9_hasAll 0 = .ok (.iload_n 1, 1) ∧ 1 = 0 + 1 := by decide +kernel
theorem d_X9_hasAll_1 : decode cX9_hasAll 1 = .ok (.aload_n 0, 1) ∧ 2 = 1 + 1 := by decide +kernel
theorem d_X9_hasAll_2 : decode cX9_hasAll 2 = .ok (.getfield 34, 3) ∧ 5 = 2 + 3 := by decide +kernel
theorem d_X9_hasAll_5 : decode cX9_hasAll 5 = .ok (.iushr, 1) ∧ 6 = 5 + 1 := by decide +kernel
theorem d_X9_hasAll_6 : decode cX9_hasAll 6 = .ok (.ifCond .ne 7, 3) ∧ 9 = 6 + 3 ∧ (6 : Int) + 7 = ((13 : Nat) : Int) := by decide +kernel
theorem d_X9_hasAll_9 : decode cX9_hasAll 9 = .ok (.iconst 1, 1) ∧ 10 = 9 + 1 := by decide +kernel
theorem d_X9_hasAll_10 : decode cX9_hasAll 10 = .ok (.goto 4, 3) ∧ (10 : Int) + (4) = ((14 : Nat) : Int) := by decide +kernel
theorem d_X9_hasAll_13 : decode cX9_hasAll 13 = .ok (.iconst 0, 1) ∧ 14 = 13 + 1 := by decide +kernel
theorem d_X9_hasAll_14 : decode cX9_hasAll 14 = .ok (.ireturn, 1) := by decide +kernel
theorem d_X9_ofKind_0 : decode cX9_ofKind 0 = .ok (.iconst 0, 1) ∧ 1 = 0 + 1 := by decide +kernel
theorem d_X9_ofKind_1 : decode cX9_ofKind 1 = .ok (.istore_n 2, 1) ∧ 2 = 1 + 1 := by decide +kernel
theorem d_X9_ofKind_2 : decode cX9_ofKind 2 = .ok (.iconst 0, 1) ∧ 3 = 2 + 1 := by decide +kernel
theorem d_X9_ofKind_3 : decode cX9_ofKind 3 = .ok (.istore_n 3, 1) ∧ 4 = 3 + 1 := by decide +kernel
theorem d_X9_ofKind_4 : decode cX9_ofKind 4 = .ok (.iload_n 3, 1) ∧ 5 = 4 + 1 := by decide +kernel
theorem d_X9_ofKind_5 : decode cX9_ofKind 5 = .ok (.aload_n 0, 1) ∧ 6 = 5 + 1 := by decide +kernel
theorem d_X9_ofKind_6 : decode cX9_ofKind 6 = .ok (.getfield 34, 3) ∧ 9 = 6 + 3 := by decide +kernel
theorem d_X9_ofKind_9 : decode cX9_ofKind 9 = .ok (.if_icmp .ge 29, 3) ∧ 12 = 9 + 3 ∧ (9 : Int) + 29 = ((38 : Nat) : Int) := by decide +kernel
theorem d_X9_ofKind_12 : decode cX9_ofKind 12 = .ok (.iload_n 2, 1) ∧ 13 = 12 + 1 := by decide +kernel
theorem d_X9_ofKind_13 : decode cX9_ofKind 13 = .ok (.aload_n 0, 1) ∧ 14 = 13 + 1 := by decide +kernel
theorem d_X9_ofKind_14 : decode cX9_ofKind 14 = .ok (.getfield 9, 3) ∧ 17 = 14 + 3 := by decide +kernel
theorem d_X9_ofKind_17 : decode cX9_ofKind 17 = .ok (.iload_n 3, 1) ∧ 18 = 17 + 1 := by decide +kernel
theorem d_X9_ofKind_18 : decode cX9_ofKind 18 = .ok (.iaload, 1) ∧ 19 = 18 + 1 := by decide +kernel
theorem d_X9_ofKind_19 : decode cX9_ofKind 19 = .ok (.iload_n 1, 1) ∧ 20 = 19 + 1 := by decide +kernel
theorem d_X9_ofKind_20 : decode cX9_ofKind 20 = .ok (.if_icmp .ne 9, 3) ∧ 23 = 20 + 3 ∧ (20 : Int) + 9 = ((29 : Nat) : Int) := by decide +kernel
theorem d_X9_ofKind_23 : decode cX9_ofKind 23 = .ok (.iconst 1, 1) ∧ 24 = 23 + 1 := by decide +kernel
theorem d_X9_ofKind_24 : decode cX9_ofKind 24 = .ok (.iload_n 3, 1) ∧ 25 = 24 + 1 := by decide +kernel
theorem d_X9_ofKind_25 : decode cX9_ofKind 25 = .ok (.ishl, 1) ∧ 26 = 25 + 1 := by decide +kernel
theorem d_X9_ofKind_26 : decode cX9_ofKind 26 = .ok (.goto 4, 3) ∧ (26 : Int) + (4) = ((30 : Nat) : Int) := by decide +kernel
theorem d_X9_ofKind_29 : decode cX9_ofKind 29 = .ok (.iconst 0, 1) ∧ 30 = 29 + 1 := by decide +kernel
theorem d_X9_ofKind_30 : decode cX9_ofKind 30 = .ok (.ior, 1) ∧ 31 = 30 + 1 := by decide +kernel
theorem d_X9_ofKind_31 : decode cX9_ofKind 31 = .ok (.istore_n 2, 1) ∧ 32 = 31 + 1 := by decide +kernel
theorem d_X9_ofKind_32 : decode cX9_ofKind 32 = .ok (.iinc 3 1, 3) ∧ 35 = 32 + 3 := by decide +kernel
theorem d_X9_ofKind_35 : decode cX9_ofKind 35 = .ok (.goto (-31), 3) ∧ (35 : Int) + ((-31)) = ((4 : Nat) : Int) := by decide +kernel
theorem d_X9_ofKind_38 : decode cX9_ofKind 38 = .ok (.iload_n 2, 1) ∧ 39 = 38 + 1 := by decide +kernel
theorem d_X9_ofKind_39 : decode cX9_ofKind 39 = .ok (.ireturn, 1) := by decide +kernel
theorem d_X9_tell_0 : decode cX9_tell 0 = .ok (.iload_n 1, 1) ∧ 1 = 0 + 1 := by decide +kernel
theorem d_X9_tell_1 : decode cX9_tell 1 = .ok (.bipush 14, 2) ∧ 3 = 1 + 2 := by decide +kernel
theorem d_X9_tell_3 : decode cX9_tell 3 = .ok (.imul, 1) ∧ 4 = 3 + 1 := by decide +kernel
theorem d_X9_tell_4 : decode cX9_tell 4 = .ok (.iload_n 2, 1) ∧ 5 = 4 + 1 := by decide +kernel
theorem d_X9_tell_5 : decode cX9_tell 5 = .ok (.iadd, 1) ∧ 6 = 5 + 1 := by decide +kernel
theorem d_X9_tell_6 : decode cX9_tell 6 = .ok (.istore 4, 2) ∧ 8 = 6 + 2 := by decide +kernel
theorem d_X9_tell_8 : decode cX9_tell 8 = .ok (.iload 4, 2) ∧ 10 = 8 + 2 := by decide +kernel
theorem d_X9_tell_10 : decode cX9_tell 10 = .ok (.ifCond .lt 21, 3) ∧ 13 = 10 + 3 ∧ (10 : Int) + 21 = ((31 : Nat) : Int) := by decide +kernel
theorem d_X9_tell_13 : decode cX9_tell 13 = .ok (.iload 4, 2) ∧ 15 = 13 + 2 := by decide +kernel
theorem d_X9_tell_15 : decode cX9_tell 15 = .ok (.aload_n 0, 1) ∧ 16 = 15 + 1 := by decide +kernel
theorem d_X9_tell_16 : decode cX9_tell 16 = .ok (.getfield 25, 3) ∧ 19 = 16 + 3 := by decide +kernel
theorem d_X9_tell_19 : decode cX9_tell 19 = .ok (.arraylength, 1) ∧ 20 = 19 + 1 := by decide +kernel
theorem d_X9_tell_20 : decode cX9_tell 20 = .ok (.if_icmp .ge 11, 3) ∧ 23 = 20 + 3 ∧ (20 : Int) + 11 = ((31 : Nat) : Int) := by decide +kernel
theorem d_X9_tell_23 : decode cX9_tell 23 = .ok (.aload_n 0, 1) ∧ 24 = 23 + 1 := by decide +kernel
theorem d_X9_tell_24 : decode cX9_tell 24 = .ok (.getfield 25, 3) ∧ 27 = 24 + 3 := by decide +kernel
theorem d_X9_tell_27 : decode cX9_tell 27 = .ok (.iload 4, 2) ∧ 29 = 27 + 2 := by decide +kernel
theorem d_X9_tell_29 : decode cX9_tell 29 = .ok (.iload_n 3, 1) ∧ 30 = 29 + 1 := by decide +kernel
theorem d_X9_tell_30 : decode cX9_tell 30 = .ok (.iastore, 1) ∧ 31 = 30 + 1 := by decide +kernel
theorem d_X9_tell_31 : decode cX9_tell 31 = .ok (.return_, 1) := by decide +kernel
theorem d_X9_told_0 : decode cX9_told 0 = .ok (.iload_n 1, 1) ∧ 1 = 0 + 1 := by decide +kernel
theorem d_X9_told_1 : decode cX9_told 1 = .ok (.bipush 14, 2) ∧ 3 = 1 + 2 := by decide +kernel
theorem d_X9_told_3 : decode cX9_told 3 = .ok (.imul, 1) ∧ 4 = 3 + 1 := by decide +kernel
theorem d_X9_told_4 : decode cX9_told 4 = .ok (.iload_n 2, 1) ∧ 5 = 4 + 1 := by decide +kernel
theorem d_X9_told_5 : decode cX9_told 5 = .ok (.iadd, 1) ∧ 6 = 5 + 1 := by decide +kernel
theorem d_X9_told_6 : decode cX9_told 6 = .ok (.istore_n 3, 1) ∧ 7 = 6 + 1 := by decide +kernel
theorem d_X9_told_7 : decode cX9_told 7 = .ok (.iload_n 3, 1) ∧ 8 = 7 + 1 := by decide +kernel
theorem d_X9_told_8 : decode cX9_told 8 = .ok (.ifCond .lt 21, 3) ∧ 11 = 8 + 3 ∧ (8 : Int) + 21 = ((29 : Nat) : Int) := by decide +kernel
theorem d_X9_told_11 : decode cX9_told 11 = .ok (.iload_n 3, 1) ∧ 12 = 11 + 1 := by decide +kernel
theorem d_X9_told_12 : decode cX9_told 12 = .ok (.aload_n 0, 1) ∧ 13 = 12 + 1 := by decide +kernel
theorem d_X9_told_13 : decode cX9_told 13 = .ok (.getfield 25, 3) ∧ 16 = 13 + 3 := by decide +kernel
theorem d_X9_told_16 : decode cX9_told 16 = .ok (.arraylength, 1) ∧ 17 = 16 + 1 := by decide +kernel
theorem d_X9_told_17 : decode cX9_told 17 = .ok (.if_icmp .ge 12, 3) ∧ 20 = 17 + 3 ∧ (17 : Int) + 12 = ((29 : Nat) : Int) := by decide +kernel
theorem d_X9_told_20 : decode cX9_told 20 = .ok (.aload_n 0, 1) ∧ 21 = 20 + 1 := by decide +kernel
theorem d_X9_told_21 : decode cX9_told 21 = .ok (.getfield 25, 3) ∧ 24 = 21 + 3 := by decide +kernel
theorem d_X9_told_24 : decode cX9_told 24 = .ok (.iload_n 3, 1) ∧ 25 = 24 + 1 := by decide +kernel
theorem d_X9_told_25 : decode cX9_told 25 = .ok (.iaload, 1) ∧ 26 = 25 + 1 := by decide +kernel
theorem d_X9_told_26 : decode cX9_told 26 = .ok (.goto 4, 3) ∧ (26 : Int) + (4) = ((30 : Nat) : Int) := by decide +kernel
theorem d_X9_told_29 : decode cX9_told 29 = .ok (.iconst (-1), 1) ∧ 30 = 29 + 1 := by decide +kernel
theorem d_X9_told_30 : decode cX9_told 30 = .ok (.ireturn, 1) := by decide +kernel
theorem d_X9_value_0 : decode cX9_value 0 = .ok (.aload_n 0, 1) ∧ 1 = 0 + 1 := by decide +kernel
theorem d_X9_value_1 : decode cX9_value 1 = .ok (.iload_n 1, 1) ∧ 2 = 1 + 1 := by decide +kernel
theorem d_X9_value_2 : decode cX9_value 2 = .ok (.iload_n 2, 1) ∧ 3 = 2 + 1 := by decide +kernel
theorem d_X9_value_3 : decode cX9_value 3 = .ok (.invokevirtual 38, 3) ∧ 6 = 3 + 3 := by decide +kernel
theorem d_X9_value_6 : decode cX9_value 6 = .ok (.istore_n 3, 1) ∧ 7 = 6 + 1 := by decide +kernel
theorem d_X9_value_7 : decode cX9_value 7 = .ok (.iload_n 3, 1) ∧ 8 = 7 + 1 := by decide +kernel
theorem d_X9_value_8 : decode cX9_value 8 = .ok (.iconst (-1), 1) ∧ 9 = 8 + 1 := by decide +kernel
theorem d_X9_value_9 : decode cX9_value 9 = .ok (.if_icmp .eq 27, 3) ∧ 12 = 9 + 3 ∧ (9 : Int) + 27 = ((36 : Nat) : Int) := by decide +kernel
theorem d_X9_value_12 : decode cX9_value 12 = .ok (.aload_n 0, 1) ∧ 13 = 12 + 1 := by decide +kernel
theorem d_X9_value_13 : decode cX9_value 13 = .ok (.iload_n 1, 1) ∧ 14 = 13 + 1 := by decide +kernel
theorem d_X9_value_14 : decode cX9_value 14 = .ok (.invokevirtual 42, 3) ∧ 17 = 14 + 3 := by decide +kernel
theorem d_X9_value_17 : decode cX9_value 17 = .ok (.ifCond .eq 19, 3) ∧ 20 = 17 + 3 ∧ (17 : Int) + 19 = ((36 : Nat) : Int) := by decide +kernel
theorem d_X9_value_20 : decode cX9_value 20 = .ok (.aload_n 0, 1) ∧ 21 = 20 + 1 := by decide +kernel
theorem d_X9_value_21 : decode cX9_value 21 = .ok (.getfield 18, 3) ∧ 24 = 21 + 3 := by decide +kernel
theorem d_X9_value_24 : decode cX9_value 24 = .ok (.iload_n 1, 1) ∧ 25 = 24 + 1 := by decide +kernel
theorem d_X9_value_25 : decode cX9_value 25 = .ok (.baload, 1) ∧ 26 = 25 + 1 := by decide +kernel
theorem d_X9_value_26 : decode cX9_value 26 = .ok (.ifCond .eq 10, 3) ∧ 29 = 26 + 3 ∧ (26 : Int) + 10 = ((36 : Nat) : Int) := by decide +kernel
theorem d_X9_value_29 : decode cX9_value 29 = .ok (.bipush 99, 2) ∧ 31 = 29 + 2 := by decide +kernel
theorem d_X9_value_31 : decode cX9_value 31 = .ok (.iload_n 3, 1) ∧ 32 = 31 + 1 := by decide +kernel
theorem d_X9_value_32 : decode cX9_value 32 = .ok (.isub, 1) ∧ 33 = 32 + 1 := by decide +kernel
theorem d_X9_value_33 : decode cX9_value 33 = .ok (.goto 4, 3) ∧ (33 : Int) + (4) = ((37 : Nat) : Int) := by decide +kernel
theorem d_X9_value_36 : decode cX9_value 36 = .ok (.iload_n 3, 1) ∧ 37 = 36 + 1 := by decide +kernel
theorem d_X9_value_37 : decode cX9_value 37 = .ok (.ireturn, 1) := by decide +kernel
theorem d_X10_init_0 : decode cX10_init 0 = .ok (.aload_n 0, 1) ∧ 1 = 0 + 1 := by decide +kernel
theorem d_X10_init_1 : decode cX10_init 1 = .ok (.invokespecial 1, 3) ∧ 4 = 1 + 3 := by decide +kernel
theorem d_X10_init_4 : decode cX10_init 4 = .ok (.aload_n 0, 1) ∧ 5 = 4 + 1 := by decide +kernel
theorem d_X10_init_5 : decode cX10_init 5 = .ok (.new 7, 3) ∧ 8 = 5 + 3 := by decide +kernel
theorem d_X10_init_8 : decode cX10_init 8 = .ok (.dup, 1) ∧ 9 = 8 + 1 := by decide +kernel
theorem d_X10_init_9 : decode cX10_init 9 = .ok (.invokespecial 9, 3) ∧ 12 = 9 + 3 := by decide +kernel
theorem d_X10_init_12 : decode cX10_init 12 = .ok (.putfield 10, 3) ∧ 15 = 12 + 3 := by decide +kernel
theorem d_X10_init_15 : decode cX10_init 15 = .ok (.aload_n 0, 1) ∧ 16 = 15 + 1 := by decide +kernel
theorem d_X10_init_16 : decode cX10_init 16 = .ok (.new 16, 3) ∧ 19 = 16 + 3 := by decide +kernel
theorem d_X10_init_19 : decode cX10_init 19 = .ok (.dup, 1) ∧ 20 = 19 + 1 := by decide +kernel
theorem d_X10_init_20 : decode cX10_init 20 = .ok (.invokespecial 18, 3) ∧ 23 = 20 + 3 := by decide +kernel
theorem d_X10_init_23 : decode cX10_init 23 = .ok (.putfield 19, 3) ∧ 26 = 23 + 3 := by decide +kernel
theorem d_X10_init_26 : decode cX10_init 26 = .ok (.aload_n 0, 1) ∧ 27 = 26 + 1 := by decide +kernel
theorem d_X10_init_27 : decode cX10_init 27 = .ok (.new 23, 3) ∧ 30 = 27 + 3 := by decide +kernel
theorem d_X10_init_30 : decode cX10_init 30 = .ok (.dup, 1) ∧ 31 = 30 + 1 := by decide +kernel
theorem d_X10_init_31 : decode cX10_init 31 = .ok (.invokespecial 25, 3) ∧ 34 = 31 + 3 := by decide +kernel
theorem d_X10_init_34 : decode cX10_init 34 = .ok (.putfield 26, 3) ∧ 37 = 34 + 3 := by decide +kernel
theorem d_X10_init_37 : decode cX10_init 37 = .ok (.aload_n 0, 1) ∧ 38 = 37 + 1 := by decide +kernel
theorem d_X10_init_38 : decode cX10_init 38 = .ok (.new 30, 3) ∧ 41 = 38 + 3 := by decide +kernel
theorem d_X10_init_41 : decode cX10_init 41 = .ok (.dup, 1) ∧ 42 = 41 + 1 := by decide +kernel
theorem d_X10_init_42 : decode cX10_init 42 = .ok (.invokespecial 32, 3) ∧ 45 = 42 + 3 := by decide +kernel
theorem d_X10_init_45 : decode cX10_init 45 = .ok (.putfield 33, 3) ∧ 48 = 45 + 3 := by decide +kernel
theorem d_X10_init_48 : decode cX10_init 48 = .ok (.aload_n 0, 1) ∧ 49 = 48 + 1 := by decide +kernel
theorem d_X10_init_49 : decode cX10_init 49 = .ok (.bipush 6, 2) ∧ 51 = 49 + 2 := by decide +kernel
theorem d_X10_init_51 : decode cX10_init 51 = .ok (.anewarray 37, 3) ∧ 54 = 51 + 3 := by decide +kernel
theorem d_X10_init_54 : decode cX10_init 54 = .ok (.putfield 39, 3) ∧ 57 = 54 + 3 := by decide +kernel
theorem d_X10_init_57 : decode cX10_init 57 = .ok (.aload_n 0, 1) ∧ 58 = 57 + 1 := by decide +kernel
theorem d_X10_init_58 : decode cX10_init 58 = .ok (.sipush 300, 3) ∧ 61 = 58 + 3 := by decide +kernel
theorem d_X10_init_61 : decode cX10_init 61 = .ok (.newarray .int, 2) ∧ 63 = 61 + 2 := by decide +kernel
theorem d_X10_init_63 : decode cX10_init 63 = .ok (.putfield 43, 3) ∧ 66 = 63 + 3 := by decide +kernel
theorem d_X10_init_66 : decode cX10_init 66 = .ok (.aload_n 0, 1) ∧ 67 = 66 + 1 := by decide +kernel
theorem d_X10_init_67 : decode cX10_init 67 = .ok (.new 47, 3) ∧ 70 = 67 + 3 := by decide +kernel
theorem d_X10_init_70 : decode cX10_init 70 = .ok (.dup, 1) ∧ 71 = 70 + 1 := by decide +kernel
theorem d_X10_init_71 : decode cX10_init 71 = .ok (.invokespecial 49, 3) ∧ 74 = 71 + 3 := by decide +kernel
theorem d_X10_init_74 : decode cX10_init 74 = .ok (.putfield 50, 3) ∧ 77 = 74 + 3 := by decide +kernel
theorem d_X10_init_77 : decode cX10_init 77 = .ok (.aload_n 0, 1) ∧ 78 = 77 + 1 := by decide +kernel
theorem d_X10_init_78 : decode cX10_init 78 = .ok (.iconst (-1), 1) ∧ 79 = 78 + 1 := by decide +kernel
theorem d_X10_init_79 : decode cX10_init 79 = .ok (.putfield 54, 3) ∧ 82 = 79 + 3 := by decide +kernel
theorem d_X10_init_82 : decode cX10_init 82 = .ok (.aload_n 0, 1) ∧ 83 = 82 + 1 := by decide +kernel
theorem d_X10_init_83 : decode cX10_init 83 = .ok (.iconst (-1), 1) ∧ 84 = 83 + 1 := by decide +kernel
theorem d_X10_init_84 : decode cX10_init 84 = .ok (.putfield 58, 3) ∧ 87 = 84 + 3 := by decide +kernel
theorem d_X10_init_87 : decode cX10_init 87 = .ok (.aload_n 0, 1) ∧ 88 = 87 + 1 := by decide +kernel
theorem d_X10_init_88 : decode cX10_init 88 = .ok (.sipush 1000, 3) ∧ 91 = 88 + 3 := by decide +kernel
theorem d_X10_init_91 : decode cX10_init 91 = .ok (.putfield 61, 3) ∧ 94 = 91 + 3 := by decide +kernel
theorem d_X10_init_94 : decode cX10_init 94 = .ok (.aload_n 0, 1) ∧ 95 = 94 + 1 := by decide +kernel
theorem d_X10_init_95 : decode cX10_init 95 = .ok (.new 64, 3) ∧ 98 = 95 + 3 := by decide +kernel
theorem d_X10_init_98 : decode cX10_init 98 = .ok (.dup, 1) ∧ 99 = 98 + 1 := by decide +kernel
theorem d_X10_init_99 : decode cX10_init 99 = .ok (.invokespecial 66, 3) ∧ 102 = 99 + 3 := by decide +kernel
theorem d_X10_init_102 : decode cX10_init 102 = .ok (.putfield 67, 3) ∧ 105 = 102 + 3 := by decide +kernel
theorem d_X10_init_105 : decode cX10_init 105 = .ok (.aload_n 0, 1) ∧ 106 = 105 + 1 := by decide +kernel
theorem d_X10_init_106 : decode cX10_init 106 = .ok (.new 71, 3) ∧ 109 = 106 + 3 := by decide +kernel
theorem d_X10_init_109 : decode cX10_init 109 = .ok (.dup, 1) ∧ 110 = 109 + 1 := by decide +kernel
theorem d_X10_init_110 : decode cX10_init 110 = .ok (.invokespecial 73, 3) ∧ 113 = 110 + 3 := by decide +kernel
theorem d_X10_init_113 : decode cX10_init 113 = .ok (.putfield 74, 3) ∧ 116 = 113 + 3 := by decide +kernel
theorem d_X10_init_116 : decode cX10_init 116 = .ok (.aload_n 0, 1) ∧ 117 = 116 + 1 := by decide +kernel
theorem d_X10_init_117 : decode cX10_init 117 = .ok (.new 78, 3) ∧ 120 = 117 + 3 := by decide +kernel
theorem d_X10_init_120 : decode cX10_init 120 = .ok (.dup, 1) ∧ 121 = 120 + 1 := by decide +kernel
theorem d_X10_init_121 : decode cX10_init 121 = .ok (.invokespecial 80, 3) ∧ 124 = 121 + 3 := by decide +kernel
theorem d_X10_init_124 : decode cX10_init 124 = .ok (.putfield 81, 3) ∧ 127 = 124 + 3 := by decide +kernel
theorem d_X10_init_127 : decode cX10_init 127 = .ok (.aload_n 0, 1) ∧ 128 = 127 + 1 := by decide +kernel
theorem d_X10_init_128 : decode cX10_init 128 = .ok (.new 78, 3) ∧ 131 = 128 + 3 := by decide +kernel
theorem d_X10_init_131 : decode cX10_init 131 = .ok (.dup, 1) ∧ 132 = 131 + 1 := by decide +kernel
theorem d_X10_init_132 : decode cX10_init 132 = .ok (.invokespecial 80, 3) ∧ 135 = 132 + 3 := by decide +kernel
theorem d_X10_init_135 : decode cX10_init 135 = .ok (.putfield 85, 3) ∧ 138 = 135 + 3 := by decide +kernel
theorem d_X10_init_138 : decode cX10_init 138 = .ok (.aload_n 0, 1) ∧ 139 = 138 + 1 := by decide +kernel
theorem d_X10_init_139 : decode cX10_init 139 = .ok (.bipush 12, 2) ∧ 141 = 139 + 2 := by decide +kernel
theorem d_X10_init_141 : decode cX10_init 141 = .ok (.newarray .int, 2) ∧ 143 = 141 + 2 := by decide +kernel
theorem d_X10_init_143 : decode cX10_init 143 = .ok (.putfield 88, 3) ∧ 146 = 143 + 3 := by decide +kernel
theorem d_X10_init_146 : decode cX10_init 146 = .ok (.aload_n 0, 1) ∧ 147 = 146 + 1 := by decide +kernel
theorem d_X10_init_147 : decode cX10_init 147 = .ok (.new 91, 3) ∧ 150 = 147 + 3 := by decide +kernel
theorem d_X10_init_150 : decode cX10_init 150 = .ok (.dup, 1) ∧ 151 = 150 + 1 := by decide +kernel
theorem d_X10_init_151 : decode cX10_init 151 = .ok (.invokespecial 93, 3) ∧ 154 = 151 + 3 := by decide +kernel
theorem d_X10_init_154 : decode cX10_init 154 = .ok (.putfield 94, 3) ∧ 157 = 154 + 3 := by decide +kernel
theorem d_X10_init_157 : decode cX10_init 157 = .ok (.iconst 0, 1) ∧ 158 = 157 + 1 := by decide +kernel
theorem d_X10_init_158 : decode cX10_init 158 = .ok (.istore_n 1, 1) ∧ 159 = 158 + 1 := by decide +kernel
theorem d_X10_init_159 : decode cX10_init 159 = .ok (.iload_n 1, 1) ∧ 160 = 159 + 1 := by decide +kernel
theorem d_X10_init_160 : decode cX10_init 160 = .ok (.bipush 6, 2) ∧ 162 = 160 + 2 := by decide +kernel
theorem d_X10_init_162 : decode cX10_init 162 = .ok (.if_icmp .ge 22, 3) ∧ 165 = 162 + 3 ∧ (162 : Int) + 22 = ((184 : Nat) : Int) := by decide +kernel
theorem d_X10_init_165 : decode cX10_init 165 = .ok (.aload_n 0, 1) ∧ 166 = 165 + 1 := by decide +kernel
theorem d_X10_init_166 : decode cX10_init 166 = .ok (.getfield 39, 3) ∧ 169 = 166 + 3 := by decide +kernel
theorem d_X10_init_169 : decode cX10_init 169 = .ok (.iload_n 1, 1) ∧ 170 = 169 + 1 := by decide +kernel
theorem d_X10_init_170 : decode cX10_init 170 = .ok (.new 37, 3) ∧ 173 = 170 + 3 := by decide +kernel
theorem d_X10_init_173 : decode cX10_init 173 = .ok (.dup, 1) ∧ 174 = 173 + 1 := by decide +kernel
theorem d_X10_init_174 : decode cX10_init 174 = .ok (.invokespecial 98, 3) ∧ 177 = 174 + 3 := by decide +kernel
theorem d_X10_init_177 : decode cX10_init 177 = .ok (.aastore, 1) ∧ 178 = 177 + 1 := by decide +kernel
theorem d_X10_init_178 : decode cX10_init 178 = .ok (.iinc 1 1, 3) ∧ 181 = 178 + 3 := by decide +kernel
theorem d_X10_init_181 : decode cX10_init 181 = .ok (.goto (-22), 3) ∧ (181 : Int) + ((-22)) = ((159 : Nat) : Int) := by decide +kernel
theorem d_X10_init_184 : decode cX10_init 184 = .ok (.return_, 1) := by decide +kernel
theorem d_X10_child_0 : decode cX10_child 0 = .ok (.iload_n 1, 1) ∧ 1 = 0 + 1 := by decide +kernel
theorem d_X10_child_1 : decode cX10_child 1 = .ok (.iconst 1, 1) ∧ 2 = 1 + 1 := by decide +kernel
theorem d_X10_child_2 : decode cX10_child 2 = .ok (.invokestatic 99, 3) ∧ 5 = 2 + 3 := by decide +kernel
theorem d_X10_child_5 : decode cX10_child 5 = .ok (.ifCond .eq 33, 3) ∧ 8 = 5 + 3 ∧ (5 : Int) + 33 = ((38 : Nat) : Int) := by decide +kernel
theorem d_X10_child_8 : decode cX10_child 8 = .ok (.iload_n 2, 1) ∧ 9 = 8 + 1 := by decide +kernel
theorem d_X10_child_9 : decode cX10_child 9 = .ok (.bipush 99, 2) ∧ 11 = 9 + 2 := by decide +kernel
theorem d_X10_child_11 : decode cX10_child 11 = .ok (.invokestatic 99, 3) ∧ 14 = 11 + 3 := by decide +kernel
theorem d_X10_child_14 : decode cX10_child 14 = .ok (.ifCond .eq 24, 3) ∧ 17 = 14 + 3 ∧ (14 : Int) + 24 = ((38 : Nat) : Int) := by decide +kernel
theorem d_X10_child_17 : decode cX10_child 17 = .ok (.iload_n 3, 1) ∧ 18 = 17 + 1 := by decide +kernel
theorem d_X10_child_18 : decode cX10_child 18 = .ok (.bipush 9, 2) ∧ 20 = 18 + 2 := by decide +kernel
theorem d_X10_child_20 : decode cX10_child 20 = .ok (.invokestatic 99, 3) ∧ 23 = 20 + 3 := by decide +kernel
theorem d_X10_child_23 : decode cX10_child 23 = .ok (.ifCond .eq 15, 3) ∧ 26 = 23 + 3 ∧ (23 : Int) + 15 = ((38 : Nat) : Int) := by decide +kernel
theorem d_X10_child_26 : decode cX10_child 26 = .ok (.aload_n 0, 1) ∧ 27 = 26 + 1 := by decide +kernel
theorem d_X10_child_27 : decode cX10_child 27 = .ok (.getfield 10, 3) ∧ 30 = 27 + 3 := by decide +kernel
theorem d_X10_child_30 : decode cX10_child 30 = .ok (.getfield 103, 3) ∧ 33 = 30 + 3 := by decide +kernel
theorem d_X10_child_33 : decode cX10_child 33 = .ok (.bipush 14, 2) ∧ 35 = 33 + 2 := by decide +kernel
theorem d_X10_child_35 : decode cX10_child 35 = .ok (.if_icmp .lt 5, 3) ∧ 38 = 35 + 3 ∧ (35 : Int) + 5 = ((40 : Nat) : Int) := by decide +kernel
theorem d_X10_child_38 : decode cX10_child 38 = .ok (.iconst (-1), 1) ∧ 39 = 38 + 1 := by decide +kernel
theorem d_X10_child_39 : decode cX10_child 39 = .ok (.ireturn, 1) := by decide +kernel
theorem d_X10_child_40 : decode cX10_child 40 = .ok (.aload_n 0, 1) ∧ 41 = 40 + 1 := by decide +kernel
theorem d_X10_child_41 : decode cX10_child 41 = .ok (.getfield 74, 3) ∧ 44 = 41 + 3 := by decide +kernel
theorem d_X10_child_44 : decode cX10_child 44 = .ok (.invokevirtual 106, 3) ∧ 47 = 44 + 3 := by decide +kernel
theorem d_X10_child_47 : decode cX10_child 47 = .ok (.aload_n 0, 1) ∧ 48 = 47 + 1 := by decide +kernel
theorem d_X10_child_48 : decode cX10_child 48 = .ok (.getfield 10, 3) ∧ 51 = 48 + 3 := by decide +kernel
theorem d_X10_child_51 : decode cX10_child 51 = .ok (.iload_n 1, 1) ∧ 52 = 51 + 1 := by decide +kernel
theorem d_X10_child_52 : decode cX10_child 52 = .ok (.iload_n 2, 1) ∧ 53 = 52 + 1 := by decide +kernel
theorem d_X10_child_53 : decode cX10_child 53 = .ok (.iload_n 3, 1) ∧ 54 = 53 + 1 := by decide +kernel
theorem d_X10_child_54 : decode cX10_child 54 = .ok (.iload 4, 2) ∧ 56 = 54 + 2 := by decide +kernel
theorem d_X10_child_56 : decode cX10_child 56 = .ok (.ifCond .eq 7, 3) ∧ 59 = 56 + 3 ∧ (56 : Int) + 7 = ((63 : Nat) : Int) := by decide +kernel
theorem d_X10_child_59 : decode cX10_child 59 = .ok (.iconst 1, 1) ∧ 60 = 59 + 1 := by decide +kernel
theorem d_X10_child_60 : decode cX10_child 60 = .ok (.goto 4, 3) ∧ (60 : Int) + (4) = ((64 : Nat) : Int) := by decide +kernel
theorem d_X10_child_63 : decode cX10_child 63 = .ok (.iconst 0, 1) ∧ 64 = 63 + 1 := by decide +kernel
theorem d_X10_child_64 : decode cX10_child 64 = .ok (.iload 5, 2) ∧ 66 = 64 + 2 := by decide +kernel
theorem d_X10_child_66 : decode cX10_child 66 = .ok (.invokevirtual 109, 3) ∧ 69 = 66 + 3 := by decide +kernel
theorem d_X10_child_69 : decode cX10_child 69 = .ok (.ireturn, 1) := by decide +kernel
theorem d_X10_had_0 : decode cX10_had 0 = .ok (.aload_n 0, 1) ∧ 1 = 0 + 1 := by decide +kernel
theorem d_X10_had_1 : decode cX10_had 1 = .ok (.getfield 10, 3) ∧ 4 = 1 + 3 := by decide +kernel
theorem d_X10_had_4 : decode cX10_had 4 = .ok (.iload_n 1, 1) ∧ 5 = 4 + 1 := by decide +kernel
theorem d_X10_had_5 : decode cX10_had 5 = .ok (.invokevirtual 113, 3) ∧ 8 = 5 + 3 := by decide +kernel
theorem d_X10_had_8 : decode cX10_had 8 = .ok (.ifCond .ne 5, 3) ∧ 11 = 8 + 3 ∧ (8 : Int) + 5 = ((13 : Nat) : Int) := by decide +kernel
theorem d_X10_had_11 : decode cX10_had 11 = .ok (.iconst 0, 1) ∧ 12 = 11 + 1 := by decide +kernel
theorem d_X10_had_12 : decode cX10_had 12 = .ok (.ireturn, 1) := by decide +kernel
theorem d_X10_had_13 : decode cX10_had 13 = .ok (.aload_n 0, 1) ∧ 14 = 13 + 1 := by decide +kernel
theorem d_X10_had_14 : decode cX10_had 14 = .ok (.getfield 10, 3) ∧ 17 = 14 + 3 := by decide +kernel
theorem d_X10_had_17 : decode cX10_had 17 = .ok (.iload_n 2, 1) ∧ 18 = 17 + 1 := by decide +kernel
theorem d_X10_had_18 : decode cX10_had 18 = .ok (.ifCond .eq 17, 3) ∧ 21 = 18 + 3 ∧ (18 : Int) + 17 = ((35 : Nat) : Int) := by decide +kernel
theorem d_X10_had_21 : decode cX10_had 21 = .ok (.aload_n 0, 1) ∧ 22 = 21 + 1 := by decide +kernel
theorem d_X10_had_22 : decode cX10_had 22 = .ok (.getfield 10, 3) ∧ 25 = 22 + 3 := by decide +kernel
theorem d_X10_had_25 : decode cX10_had 25 = .ok (.getfield 117, 3) ∧ 28 = 25 + 3 := by decide +kernel
theorem d_X10_had_28 : decode cX10_had 28 = .ok (.iconst 1, 1) ∧ 29 = 28 + 1 := by decide +kernel
theorem d_X10_had_29 : decode cX10_had 29 = .ok (.iload_n 1, 1) ∧ 30 = 29 + 1 := by decide +kernel
theorem d_X10_had_30 : decode cX10_had 30 = .ok (.ishl, 1) ∧ 31 = 30 + 1 := by decide +kernel
theorem d_X10_had_31 : decode cX10_had 31 = .ok (.ior, 1) ∧ 32 = 31 + 1 := by decide +kernel
theorem d_X10_had_32 : decode cX10_had 32 = .ok (.goto 16, 3) ∧ (32 : Int) + (16) = ((48 : Nat) : Int) := by decide +kernel
theorem d_X10_had_35 : decode cX10_had 35 = .ok (.aload_n 0, 1) ∧ 36 = 35 + 1 := by decide +kernel
theorem d_X10_had_36 : decode cX10_had 36 = .ok (.getfield 10, 3) ∧ 39 = 36 + 3 := by decide +kernel
theorem d_X10_had_39 : decode cX10_had 39 = .ok (.getfield 117, 3) ∧ 42 = 39 + 3 := by decide +kernel
theorem d_X10_had_42 : decode cX10_had 42 = .ok (.iconst 1, 1) ∧ 43 = 42 + 1 := by decide +kernel
theorem d_X10_had_43 : decode cX10_had 43 = .ok (.iload_n 1, 1) ∧ 44 = 43 + 1 := by decide +kernel
theorem d_X10_had_44 : decode cX10_had 44 = .ok (.ishl, 1) ∧ 45 = 44 + 1 := by decide +kernel
theorem d_X10_had_45 : decode cX10_had 45 = .ok (.iconst (-1), 1) ∧ 46 = 45 + 1 := by decide +kernel
theorem d_X10_had_46 : decode cX10_had 46 = .ok (.ixor, 1) ∧ 47 = 46 + 1 := by decide +kernel
theorem d_X10_had_47 : decode cX10_had 47 = .ok (.iand, 1) ∧ 48 = 47 + 1 := by decide +kernel
theorem d_X10_had_48 : decode cX10_had 48 = .ok (.putfield 117, 3) ∧ 51 = 48 + 3 := by decide +kernel
theorem d_X10_had_51 : decode cX10_had 51 = .ok (.iconst 1, 1) ∧ 52 = 51 + 1 := by decide +kernel
theorem d_X10_had_52 : decode cX10_had 52 = .ok (.ireturn, 1) := by decide +kernel
theorem d_X10_thing_0 : decode cX10_thing 0 = .ok (.iload_n 1, 1) ∧ 1 = 0 + 1 := by decide +kernel
theorem d_X10_thing_1 : decode cX10_thing 1 = .ok (.iconst 3, 1) ∧ 2 = 1 + 1 := by decide +kernel
theorem d_X10_thing_2 : decode cX10_thing 2 = .ok (.invokestatic 99, 3) ∧ 5 = 2 + 3 := by decide +kernel
theorem d_X10_thing_5 : decode cX10_thing 5 = .ok (.ifCond .eq 35, 3) ∧ 8 = 5 + 3 ∧ (5 : Int) + 35 = ((40 : Nat) : Int) := by decide +kernel
theorem d_X10_thing_8 : decode cX10_thing 8 = .ok (.iload_n 2, 1) ∧ 9 = 8 + 1 := by decide +kernel
theorem d_X10_thing_9 : decode cX10_thing 9 = .ok (.bipush 99, 2) ∧ 11 = 9 + 2 := by decide +kernel
theorem d_X10_thing_11 : decode cX10_thing 11 = .ok (.invokestatic 99, 3) ∧ 14 = 11 + 3 := by decide +kernel
theorem d_X10_thing_14 : decode cX10_thing 14 = .ok (.ifCond .eq 26, 3) ∧ 17 = 14 + 3 ∧ (14 : Int) + 26 = ((40 : Nat) : Int) := by decide +kernel
theorem d_X10_thing_17 : decode cX10_thing 17 = .ok (.iload 4, 2) ∧ 19 = 17 + 2 := by decide +kernel
theorem d_X10_thing_19 : decode cX10_thing 19 = .ok (.sipush 999, 3) ∧ 22 = 19 + 3 := by decide +kernel
theorem d_X10_thing_22 : decode cX10_thing 22 = .ok (.invokestatic 99, 3) ∧ 25 = 22 + 3 := by decide +kernel
theorem d_X10_thing_25 : decode cX10_thing 25 = .ok (.ifCond .eq 15, 3) ∧ 28 = 25 + 3 ∧ (25 : Int) + 15 = ((40 : Nat) : Int) := by decide +kernel
theorem d_X10_thing_28 : decode cX10_thing 28 = .ok (.aload_n 0, 1) ∧ 29 = 28 + 1 := by decide +kernel
theorem d_X10_thing_29 : decode cX10_thing 29 = .ok (.getfield 19, 3) ∧ 32 = 29 + 3 := by decide +kernel
theorem d_X10_thing_32 : decode cX10_thing 32 = .ok (.getfield 120, 3) ∧ 35 = 32 + 3 := by decide +kernel
theorem d_X10_thing_35 : decode cX10_thing 35 = .ok (.bipush 12, 2) ∧ 37 = 35 + 2 := by decide +kernel
theorem d_X10_thing_37 : decode cX10_thing 37 = .ok (.if_icmp .lt 5, 3) ∧ 40 = 37 + 3 ∧ (37 : Int) + 5 = ((42 : Nat) : Int) := by decide +kernel
theorem d_X10_thing_40 : decode cX10_thing 40 = .ok (.iconst (-1), 1) ∧ 41 = 40 + 1 := by decide +kernel
theorem d_X10_thing_41 : decode cX10_thing 41 = .ok (.ireturn, 1) := by decide +kernel
theorem d_X10_thing_42 : decode cX10_thing 42 = .ok (.aload_n 0, 1) ∧ 43 = 42 + 1 := by decide +kernel
theorem d_X10_thing_43 : decode cX10_thing 43 = .ok (.getfield 19, 3) ∧ 46 = 43 + 3 := by decide +kernel
theorem d_X10_thing_46 : decode cX10_thing 46 = .ok (.iload_n 1, 1) ∧ 47 = 46 + 1 := by decide +kernel
theorem d_X10_thing_47 : decode cX10_thing 47 = .ok (.iload_n 2, 1) ∧ 48 = 47 + 1 := by decide +kernel
theorem d_X10_thing_48 : decode cX10_thing 48 = .ok (.iload_n 3, 1) ∧ 49 = 48 + 1 := by decide +kernel
theorem d_X10_thing_49 : decode cX10_thing 49 = .ok (.iload 4, 2) ∧ 51 = 49 + 2 := by decide +kernel
theorem d_X10_thing_51 : decode cX10_thing 51 = .ok (.invokevirtual 121, 3) ∧ 54 = 51 + 3 := by decide +kernel
theorem d_X10_thing_54 : decode cX10_thing 54 = .ok (.ireturn, 1) := by decide +kernel
theorem d_X10_answer_0 : decode cX10_answer 0 = .ok (.aload_n 0, 1) ∧ 1 = 0 + 1 := by decide +kernel
theorem d_X10_answer_1 : decode cX10_answer 1 = .ok (.getfield 19, 3) ∧ 4 = 1 + 3 := by decide +kernel
theorem d_X10_answer_4 : decode cX10_answer 4 = .ok (.iload_n 1, 1) ∧ 5 = 4 + 1 := by decide +kernel
theorem d_X10_answer_5 : decode cX10_answer 5 = .ok (.invokevirtual 124, 3) ∧ 8 = 5 + 3 := by decide +kernel
theorem d_X10_answer_8 : decode cX10_answer 8 = .ok (.ifCond .eq 28, 3) ∧ 11 = 8 + 3 ∧ (8 : Int) + 28 = ((36 : Nat) : Int) := by decide +kernel
theorem d_X10_answer_11 : decode cX10_answer 11 = .ok (.aload_n 0, 1) ∧ 12 = 11 + 1 := by decide +kernel
theorem d_X10_answer_12 : decode cX10_answer 12 = .ok (.getfield 10, 3) ∧ 15 = 12 + 3 := by decide +kernel
theorem d_X10_answer_15 : decode cX10_answer 15 = .ok (.iload_n 2, 1) ∧ 16 = 15 + 1 := by decide +kernel
theorem d_X10_answer_16 : decode cX10_answer 16 = .ok (.invokevirtual 113, 3) ∧ 19 = 16 + 3 := by decide +kernel
theorem d_X10_answer_19 : decode cX10_answer 19 = .ok (.ifCond .eq 17, 3) ∧ 22 = 19 + 3 ∧ (19 : Int) + 17 = ((36 : Nat) : Int) := by decide +kernel
theorem d_X10_answer_22 : decode cX10_answer 22 = .ok (.iload_n 3, 1) ∧ 23 = 22 + 1 := by decide +kernel
theorem d_X10_answer_23 : decode cX10_answer 23 = .ok (.iconst (-1), 1) ∧ 24 = 23 + 1 := by decide +kernel
theorem d_X10_answer_24 : decode cX10_answer 24 = .ok (.if_icmp .eq 14, 3) ∧ 27 = 24 + 3 ∧ (24 : Int) + 14 = ((38 : Nat) : Int) := by decide +kernel
theorem d_X10_answer_27 : decode cX10_answer 27 = .ok (.iload_n 3, 1) ∧ 28 = 27 + 1 := by decide +kernel
theorem d_X10_answer_28 : decode cX10_answer 28 = .ok (.bipush 99, 2) ∧ 30 = 28 + 2 := by decide +kernel
theorem d_X10_answer_30 : decode cX10_answer 30 = .ok (.invokestatic 99, 3) ∧ 33 = 30 + 3 := by decide +kernel
theorem d_X10_answer_33 : decode cX10_answer 33 = .ok (.ifCond .ne 5, 3) ∧ 36 = 33 + 3 ∧ (33 : Int) + 5 = ((38 : Nat) : Int) := by decide +kernel
theorem d_X10_answer_36 : decode cX10_answer 36 = .ok (.iconst 0, 1) ∧ 37 = 36 + 1 := by decide +kernel
theorem d_X10_answer_37 : decode cX10_answer 37 = .ok (.ireturn, 1) := by decide +kernel
theorem d_X10_answer_38 : decode cX10_answer 38 = .ok (.aload_n 0, 1) ∧ 39 = 38 + 1 := by decide +kernel
theorem d_X10_answer_39 : decode cX10_answer 39 = .ok (.getfield 19, 3) ∧ 42 = 39 + 3 := by decide +kernel
theorem d_X10_answer_42 : decode cX10_answer 42 = .ok (.iload_n 1, 1) ∧ 43 = 42 + 1 := by decide +kernel
theorem d_X10_answer_43 : decode cX10_answer 43 = .ok (.iload_n 2, 1) ∧ 44 = 43 + 1 := by decide +kernel
theorem d_X10_answer_44 : decode cX10_answer 44 = .ok (.iload_n 3, 1) ∧ 45 = 44 + 1 := by decide +kernel
theorem d_X10_answer_45 : decode cX10_answer 45 = .ok (.invokevirtual 125, 3) ∧ 48 = 45 + 3 := by decide +kernel
theorem d_X10_answer_48 : decode cX10_answer 48 = .ok (.iconst 1, 1) ∧ 49 = 48 + 1 := by decide +kernel
theorem d_X10_answer_49 : decode cX10_answer 49 = .ok (.ireturn, 1) := by decide +kernel
theorem d_X10_answered_0 : decode cX10_answered 0 = .ok (.aload_n 0, 1) ∧ 1 = 0 + 1 := by decide +kernel
theorem d_X10_answered_1 : decode cX10_answered 1 = .ok (.getfield 19, 3) ∧ 4 = 1 + 3 := by decide +kernel
theorem d_X10_answered_4 : decode cX10_answered 4 = .ok (.iload_n 1, 1) ∧ 5 = 4 + 1 := by decide +kernel
theorem d_X10_answered_5 : decode cX10_answered 5 = .ok (.invokevirtual 124, 3) ∧ 8 = 5 + 3 := by decide +kernel
theorem d_X10_answered_8 : decode cX10_answered 8 = .ok (.ifCond .eq 26, 3) ∧ 11 = 8 + 3 ∧ (8 : Int) + 26 = ((34 : Nat) : Int) := by decide +kernel
theorem d_X10_answered_11 : decode cX10_answered 11 = .ok (.aload_n 0, 1) ∧ 12 = 11 + 1 := by decide +kernel
theorem d_X10_answered_12 : decode cX10_answered 12 = .ok (.getfield 10, 3) ∧ 15 = 12 + 3 := by decide +kernel
theorem d_X10_answered_15 : decode cX10_answered 15 = .ok (.iload_n 2, 1) ∧ 16 = 15 + 1 := by decide +kernel
theorem d_X10_answered_16 : decode cX10_answered 16 = .ok (.invokevirtual 113, 3) ∧ 19 = 16 + 3 := by decide +kernel
theorem d_X10_answered_19 : decode cX10_answered 19 = .ok (.ifCond .eq 15, 3) ∧ 22 = 19 + 3 ∧ (19 : Int) + 15 = ((34 : Nat) : Int) := by decide +kernel
theorem d_X10_answered_22 : decode cX10_answered 22 = .ok (.aload_n 0, 1) ∧ 23 = 22 + 1 := by decide +kernel
theorem d_X10_answered_23 : decode cX10_answered 23 = .ok (.getfield 19, 3) ∧ 26 = 23 + 3 := by decide +kernel
theorem d_X10_answered_26 : decode cX10_answered 26 = .ok (.iload_n 1, 1) ∧ 27 = 26 + 1 := by decide +kernel
theorem d_X10_answered_27 : decode cX10_answered 27 = .ok (.iload_n 2, 1) ∧ 28 = 27 + 1 := by decide +kernel
theorem d_X10_answered_28 : decode cX10_answered 28 = .ok (.invokevirtual 129, 3) ∧ 31 = 28 + 3 := by decide +kernel
theorem d_X10_answered_31 : decode cX10_answered 31 = .ok (.goto 4, 3) ∧ (31 : Int) + (4) = ((35 : Nat) : Int) := by decide +kernel
theorem d_X10_answered_34 : decode cX10_answered 34 = .ok (.iconst (-1), 1) ∧ 35 = 34 + 1 := by decide +kernel
theorem d_X10_answered_35 : decode cX10_answered 35 = .ok (.ireturn, 1) := by decide +kernel
theorem d_X10_difference_0 : decode cX10_difference 0 = .ok (.aload_n 0, 1) ∧ 1 = 0 + 1 := by decide +kernel
theorem d_X10_difference_1 : decode cX10_difference 1 = .ok (.getfield 19, 3) ∧ 4 = 1 + 3 := by decide +kernel
theorem d_X10_difference_4 : decode cX10_difference 4 = .ok (.iload_n 1, 1) ∧ 5 = 4 + 1 := by decide +kernel
theorem d_X10_difference_5 : decode cX10_difference 5 = .ok (.invokevirtual 124, 3) ∧ 8 = 5 + 3 := by decide +kernel
theorem d_X10_difference_8 : decode cX10_difference 8 = .ok (.ifCond .eq 19, 3) ∧ 11 = 8 + 3 ∧ (8 : Int) + 19 = ((27 : Nat) : Int) := by decide +kernel
theorem d_X10_difference_11 : decode cX10_difference 11 = .ok (.iload_n 2, 1) ∧ 12 = 11 + 1 := by decide +kernel
theorem d_X10_difference_12 : decode cX10_difference 12 = .ok (.iconst 2, 1) ∧ 13 = 12 + 1 := by decide +kernel
theorem d_X10_difference_13 : decode cX10_difference 13 = .ok (.invokestatic 99, 3) ∧ 16 = 13 + 3 := by decide +kernel
theorem d_X10_difference_16 : decode cX10_difference 16 = .ok (.ifCond .eq 11, 3) ∧ 19 = 16 + 3 ∧ (16 : Int) + 11 = ((27 : Nat) : Int) := by decide +kernel
theorem d_X10_difference_19 : decode cX10_difference 19 = .ok (.iload_n 3, 1) ∧ 20 = 19 + 1 := by decide +kernel
theorem d_X10_difference_20 : decode cX10_difference 20 = .ok (.iconst 2, 1) ∧ 21 = 20 + 1 := by decide +kernel
theorem d_X10_difference_21 : decode cX10_difference 21 = .ok (.invokestatic 99, 3) ∧ 24 = 21 + 3 := by decide +kernel
theorem d_X10_difference_24 : decode cX10_difference 24 = .ok (.ifCond .ne 6, 3) ∧ 27 = 24 + 3 ∧ (24 : Int) + 6 = ((30 : Nat) : Int) := by decide +kernel
theorem d_X10_difference_27 : decode cX10_difference 27 = .ok (.ldc 133, 2) ∧ 29 = 27 + 2 := by decide +kernel
theorem d_X10_difference_29 : decode cX10_difference 29 = .ok (.ireturn, 1) := by decide +kernel
theorem d_X10_difference_30 : decode cX10_difference 30 = .ok (.aload_n 0, 1) ∧ 31 = 30 + 1 := by decide +kernel
theorem d_X10_difference_31 : decode cX10_difference 31 = .ok (.getfield 81, 3) ∧ 34 = 31 + 3 := by decide +kernel
theorem d_X10_difference_34 : decode cX10_difference 34 = .ok (.aload_n 0, 1) ∧ 35 = 34 + 1 := by decide +kernel
theorem d_X10_difference_35 : decode cX10_difference 35 = .ok (.getfield 19, 3) ∧ 38 = 35 + 3 := by decide +kernel
theorem d_X10_difference_38 : decode cX10_difference 38 = .ok (.iload_n 1, 1) ∧ 39 = 38 + 1 := by decide +kernel
theorem d_X10_difference_39 : decode cX10_difference 39 = .ok (.iload_n 2, 1) ∧ 40 = 39 + 1 := by decide +kernel
theorem d_X10_difference_40 : decode cX10_difference 40 = .ok (.iconst 2, 1) ∧ 41 = 40 + 1 := by decide +kernel
theorem d_X10_difference_41 : decode cX10_difference 41 = .ok (.if_icmp .ne 13, 3) ∧ 44 = 41 + 3 ∧ (41 : Int) + 13 = ((54 : Nat) : Int) := by decide +kernel
theorem d_X10_difference_44 : decode cX10_difference 44 = .ok (.aload_n 0, 1) ∧ 45 = 44 + 1 := by decide +kernel
theorem d_X10_difference_45 : decode cX10_difference 45 = .ok (.getfield 10, 3) ∧ 48 = 45 + 3 := by decide +kernel
theorem d_X10_difference_48 : decode cX10_difference 48 = .ok (.invokevirtual 134, 3) ∧ 51 = 48 + 3 := by decide +kernel
theorem d_X10_difference_51 : decode cX10_difference 51 = .ok (.goto 11, 3) ∧ (51 : Int) + (11) = ((62 : Nat) : Int) := by decide +kernel
theorem d_X10_difference_54 : decode cX10_difference 54 = .ok (.aload_n 0, 1) ∧ 55 = 54 + 1 := by decide +kernel
theorem d_X10_difference_55 : decode cX10_difference 55 = .ok (.getfield 10, 3) ∧ 58 = 55 + 3 := by decide +kernel
theorem d_X10_difference_58 : decode cX10_difference 58 = .ok (.iload_n 2, 1) ∧ 59 = 58 + 1 := by decide +kernel
theorem d_X10_difference_59 : decode cX10_difference 59 = .ok (.invokevirtual 138, 3) ∧ 62 = 59 + 3 := by decide +kernel
theorem d_X10_difference_62 : decode cX10_difference 62 = .ok (.invokevirtual 142, 3) ∧ 65 = 62 + 3 := by decide +kernel
theorem d_X10_difference_65 : decode cX10_difference 65 = .ok (.aload_n 0, 1) ∧ 66 = 65 + 1 := by decide +kernel
theorem d_X10_difference_66 : decode cX10_difference 66 = .ok (.getfield 81, 3) ∧ 69 = 66 + 3 := by decide +kernel
theorem d_X10_difference_69 : decode cX10_difference 69 = .ok (.aload_n 0, 1) ∧ 70 = 69 + 1 := by decide +kernel
theorem d_X10_difference_70 : decode cX10_difference 70 = .ok (.getfield 10, 3) ∧ 73 = 70 + 3 := by decide +kernel
theorem d_X10_difference_73 : decode cX10_difference 73 = .ok (.getfield 117, 3) ∧ 76 = 73 + 3 := by decide +kernel
theorem d_X10_difference_76 : decode cX10_difference 76 = .ok (.invokevirtual 146, 3) ∧ 79 = 76 + 3 := by decide +kernel
theorem d_X10_difference_79 : decode cX10_difference 79 = .ok (.istore 4, 2) ∧ 81 = 79 + 2 := by decide +kernel
theorem d_X10_difference_81 : decode cX10_difference 81 = .ok (.iload 4, 2) ∧ 83 = 81 + 2 := by decide +kernel
theorem d_X10_difference_83 : decode cX10_difference 83 = .ok (.ifCond .ne 6, 3) ∧ 86 = 83 + 3 ∧ (83 : Int) + 6 = ((89 : Nat) : Int) := by decide +kernel
theorem d_X10_difference_86 : decode cX10_difference 86 = .ok (.ldc 133, 2) ∧ 88 = 86 + 2 := by decide +kernel
theorem d_X10_difference_88 : decode cX10_difference 88 = .ok (.ireturn, 1) := by decide +kernel
theorem d_X10_difference_89 : decode cX10_difference 89 = .ok (.aload_n 0, 1) ∧ 90 = 89 + 1 := by decide +kernel
theorem d_X10_difference_90 : decode cX10_difference 90 = .ok (.getfield 81, 3) ∧ 93 = 90 + 3 := by decide +kernel
theorem d_X10_difference_93 : decode cX10_difference 93 = .ok (.aload_n 0, 1) ∧ 94 = 93 + 1 := by decide +kernel
theorem d_X10_difference_94 : decode cX10_difference 94 = .ok (.getfield 10, 3) ∧ 97 = 94 + 3 := by decide +kernel
theorem d_X10_difference_97 : decode cX10_difference 97 = .ok (.getfield 117, 3) ∧ 100 = 97 + 3 := by decide +kernel
theorem d_X10_difference_100 : decode cX10_difference 100 = .ok (.invokevirtual 149, 3) ∧ 103 = 100 + 3 := by decide +kernel
theorem d_X10_difference_103 : decode cX10_difference 103 = .ok (.istore 5, 2) ∧ 105 = 103 + 2 := by decide +kernel
theorem d_X10_difference_105 : decode cX10_difference 105 = .ok (.iload_n 3, 1) ∧ 106 = 105 + 1 := by decide +kernel
theorem d_X10_difference_106 : decode cX10_difference 106 = .ok (.iconst 2, 1) ∧ 107 = 106 + 1 := by decide +kernel
theorem d_X10_difference_107 : decode cX10_difference 107 = .ok (.if_icmp .ne 13, 3) ∧ 110 = 107 + 3 ∧ (107 : Int) + 13 = ((120 : Nat) : Int) := by decide +kernel
theorem d_X10_difference_110 : decode cX10_difference 110 = .ok (.iload 5, 2) ∧ 112 = 110 + 2 := by decide +kernel
theorem d_X10_difference_112 : decode cX10_difference 112 = .ok (.sipush 1000, 3) ∧ 115 = 112 + 3 := by decide +kernel
theorem d_X10_difference_115 : decode cX10_difference 115 = .ok (.imul, 1) ∧ 116 = 115 + 1 := by decide +kernel
theorem d_X10_difference_116 : decode cX10_difference 116 = .ok (.iload 4, 2) ∧ 118 = 116 + 2 := by decide +kernel
theorem d_X10_difference_118 : decode cX10_difference 118 = .ok (.idiv, 1) ∧ 119 = 118 + 1 := by decide +kernel
theorem d_X10_difference_119 : decode cX10_difference 119 = .ok (.ireturn, 1) := by decide +kernel
theorem d_X10_difference_120 : decode cX10_difference 120 = .ok (.iload_n 3, 1) ∧ 121 = 120 + 1 := by decide +kernel
theorem d_X10_difference_121 : decode cX10_difference 121 = .ok (.ifCond .ne 8, 3) ∧ 124 = 121 + 3 ∧ (121 : Int) + 8 = ((129 : Nat) : Int) := by decide +kernel
theorem d_X10_difference_124 : decode cX10_difference 124 = .ok (.iload 5, 2) ∧ 126 = 124 + 2 := by decide +kernel
theorem d_X10_difference_126 : decode cX10_difference 126 = .ok (.goto 5, 3) ∧ (126 : Int) + (5) = ((131 : Nat) : Int) := by decide +kernel
theorem d_X10_difference_129 : decode cX10_difference 129 = .ok (.iload 4, 2) ∧ 131 = 129 + 2 := by decide +kernel
theorem d_X10_difference_131 : decode cX10_difference 131 = .ok (.ireturn, 1) := by decide +kernel
theorem d_X10_feed_0 : decode cX10_feed 0 = .ok (.aload_n 0, 1) ∧ 1 = 0 + 1 := by decide +kernel
theorem d_X10_feed_1 : decode cX10_feed 1 = .ok (.getfield 152, 3) ∧ 4 = 1 + 3 := by decide +kernel
theorem d_X10_feed_4 : decode cX10_feed 4 = .ok (.bipush 20, 2) ∧ 6 = 4 + 2 := by decide +kernel
theorem d_X10_feed_6 : decode cX10_feed 6 = .ok (.iadd, 1) ∧ 7 = 6 + 1 := by decide +kernel
theorem d_X10_feed_7 : decode cX10_feed 7 = .ok (.sipush 300, 3) ∧ 10 = 7 + 3 := by decide +kernel
theorem d_X10_feed_10 : decode cX10_feed 10 = .ok (.if_icmp .le 5, 3) ∧ 13 = 10 + 3 ∧ (10 : Int) + 5 = ((15 : Nat) : Int) := by decide +kernel
theorem d_X10_feed_13 : decode cX10_feed 13 = .ok (.iconst (-1), 1) ∧ 14 = 13 + 1 := by decide +kernel
theorem d_X10_feed_14 : decode cX10_feed 14 = .ok (.ireturn, 1) := by decide +kernel
theorem d_X10_feed_15 : decode cX10_feed 15 = .ok (.aload_n 0, 1) ∧ 16 = 15 + 1 := by decide +kernel
theorem d_X10_feed_16 : decode cX10_feed 16 = .ok (.iload_n 1, 1) ∧ 17 = 16 + 1 := by decide +kernel
theorem d_X10_feed_17 : decode cX10_feed 17 = .ok (.invokevirtual 155, 3) ∧ 20 = 17 + 3 := by decide +kernel
theorem d_X10_feed_20 : decode cX10_feed 20 = .ok (.aload_n 0, 1) ∧ 21 = 20 + 1 := by decide +kernel
theorem d_X10_feed_21 : decode cX10_feed 21 = .ok (.iload_n 2, 1) ∧ 22 = 21 + 1 := by decide +kernel
theorem d_X10_feed_22 : decode cX10_feed 22 = .ok (.invokevirtual 155, 3) ∧ 25 = 22 + 3 := by decide +kernel
theorem d_X10_feed_25 : decode cX10_feed 25 = .ok (.aload_n 0, 1) ∧ 26 = 25 + 1 := by decide +kernel
theorem d_X10_feed_26 : decode cX10_feed 26 = .ok (.iload_n 3, 1) ∧ 27 = 26 + 1 := by decide +kernel
theorem d_X10_feed_27 : decode cX10_feed 27 = .ok (.invokevirtual 155, 3) ∧ 30 = 27 + 3 := by decide +kernel
theorem d_X10_feed_30 : decode cX10_feed 30 = .ok (.aload_n 0, 1) ∧ 31 = 30 + 1 := by decide +kernel
theorem d_X10_feed_31 : decode cX10_feed 31 = .ok (.iload 4, 2) ∧ 33 = 31 + 2 := by decide +kernel
theorem d_X10_feed_33 : decode cX10_feed 33 = .ok (.invokevirtual 155, 3) ∧ 36 = 33 + 3 := by decide +kernel
theorem d_X10_feed_36 : decode cX10_feed 36 = .ok (.aload_n 0, 1) ∧ 37 = 36 + 1 := by decide +kernel
theorem d_X10_feed_37 : decode cX10_feed 37 = .ok (.iload 5, 2) ∧ 39 = 37 + 2 := by decide +kernel
theorem d_X10_feed_39 : decode cX10_feed 39 = .ok (.invokevirtual 155, 3) ∧ 42 = 39 + 3 := by decide +kernel
theorem d_X10_feed_42 : decode cX10_feed 42 = .ok (.aload_n 0, 1) ∧ 43 = 42 + 1 := by decide +kernel
theorem d_X10_feed_43 : decode cX10_feed 43 = .ok (.getfield 152, 3) ∧ 46 = 43 + 3 := by decide +kernel
theorem d_X10_feed_46 : decode cX10_feed 46 = .ok (.ireturn, 1) := by decide +kernel
theorem d_X10_end_0 : decode cX10_end 0 = .ok (.iload_n 1, 1) ∧ 1 = 0 + 1 := by decide +kernel
theorem d_X10_end_1 : decode cX10_end 1 = .ok (.ifCond .lt 11, 3) ∧ 4 = 1 + 3 ∧ (1 : Int) + 11 = ((12 : Nat) : Int) := by decide +kernel
theorem d_X10_end_4 : decode cX10_end 4 = .ok (.iload_n 1, 1) ∧ 5 = 4 + 1 := by decide +kernel
theorem d_X10_end_5 : decode cX10_end 5 = .ok (.aload_n 0, 1) ∧ 6 = 5 + 1 := by decide +kernel
theorem d_X10_end_6 : decode cX10_end 6 = .ok (.getfield 152, 3) ∧ 9 = 6 + 3 := by decide +kernel
theorem d_X10_end_9 : decode cX10_end 9 = .ok (.if_icmp .le 5, 3) ∧ 12 = 9 + 3 ∧ (9 : Int) + 5 = ((14 : Nat) : Int) := by decide +kernel
theorem d_X10_end_12 : decode cX10_end 12 = .ok (.iconst (-1), 1) ∧ 13 = 12 + 1 := by decide +kernel
theorem d_X10_end_13 : decode cX10_end 13 = .ok (.ireturn, 1) := by decide +kernel
theorem d_X10_end_14 : decode cX10_end 14 = .ok (.aload_n 0, 1) ∧ 15 = 14 + 1 := by decide +kernel
theorem d_X10_end_15 : decode cX10_end 15 = .ok (.iload_n 1, 1) ∧ 16 = 15 + 1 := by decide +kernel
theorem d_X10_end_16 : decode cX10_end 16 = .ok (.putfield 152, 3) ∧ 19 = 16 + 3 := by decide +kernel
theorem d_X10_end_19 : decode cX10_end 19 = .ok (.iload_n 1, 1) ∧ 20 = 19 + 1 := by decide +kernel
theorem d_X10_end_20 : decode cX10_end 20 = .ok (.ireturn, 1) := by decide +kernel
theorem d_X10_text_0 : decode cX10_text 0 = .ok (.aload_n 0, 1) ∧ 1 = 0 + 1 := by decide +kernel
theorem d_X10_text_1 : decode cX10_text 1 = .ok (.getfield 159, 3) ∧ 4 = 1 + 3 := by decide +kernel
theorem d_X10_text_4 : decode cX10_text 4 = .ok (.bipush 6, 2) ∧ 6 = 4 + 2 := by decide +kernel
theorem d_X10_text_6 : decode cX10_text 6 = .ok (.if_icmp .lt 5, 3) ∧ 9 = 6 + 3 ∧ (6 : Int) + 5 = ((11 : Nat) : Int) := by decide +kernel
theorem d_X10_text_9 : decode cX10_text 9 = .ok (.iconst (-1), 1) ∧ 10 = 9 + 1 := by decide +kernel
theorem d_X10_text_10 : decode cX10_text 10 = .ok (.ireturn, 1) := by decide +kernel
theorem d_X10_text_11 : decode cX10_text 11 = .ok (.aload_n 0, 1) ∧ 12 = 11 + 1 := by decide +kernel
theorem d_X10_text_12 : decode cX10_text 12 = .ok (.getfield 50, 3) ∧ 15 = 12 + 3 := by decide +kernel
theorem d_X10_text_15 : decode cX10_text 15 = .ok (.aload_n 0, 1) ∧ 16 = 15 + 1 := by decide +kernel
theorem d_X10_text_16 : decode cX10_text 16 = .ok (.getfield 43, 3) ∧ 19 = 16 + 3 := by decide +kernel
theorem d_X10_text_19 : decode cX10_text 19 = .ok (.aload_n 0, 1) ∧ 20 = 19 + 1 := by decide +kernel
theorem d_X10_text_20 : decode cX10_text 20 = .ok (.getfield 152, 3) ∧ 23 = 20 + 3 := by decide +kernel
theorem d_X10_text_23 : decode cX10_text 23 = .ok (.aload_n 0, 1) ∧ 24 = 23 + 1 := by decide +kernel
theorem d_X10_text_24 : decode cX10_text 24 = .ok (.getfield 39, 3) ∧ 27 = 24 + 3 := by decide +kernel
theorem d_X10_text_27 : decode cX10_text 27 = .ok (.aload_n 0, 1) ∧ 28 = 27 + 1 := by decide +kernel
theorem d_X10_text_28 : decode cX10_text 28 = .ok (.getfield 159, 3) ∧ 31 = 28 + 3 := by decide +kernel
theorem d_X10_text_31 : decode cX10_text 31 = .ok (.aaload, 1) ∧ 32 = 31 + 1 := by decide +kernel
theorem d_X10_text_32 : decode cX10_text 32 = .ok (.invokevirtual 162, 3) ∧ 35 = 32 + 3 := by decide +kernel
theorem d_X10_text_35 : decode cX10_text 35 = .ok (.aload_n 0, 1) ∧ 36 = 35 + 1 := by decide +kernel
theorem d_X10_text_36 : decode cX10_text 36 = .ok (.aload_n 0, 1) ∧ 37 = 36 + 1 := by decide +kernel
theorem d_X10_text_37 : decode cX10_text 37 = .ok (.getfield 50, 3) ∧ 40 = 37 + 3 := by decide +kernel
theorem d_X10_text_40 : decode cX10_text 40 = .ok (.getfield 166, 3) ∧ 43 = 40 + 3 := by decide +kernel
theorem d_X10_text_43 : decode cX10_text 43 = .ok (.putfield 54, 3) ∧ 46 = 43 + 3 := by decide +kernel
theorem d_X10_text_46 : decode cX10_text 46 = .ok (.aload_n 0, 1) ∧ 47 = 46 + 1 := by decide +kernel
theorem d_X10_text_47 : decode cX10_text 47 = .ok (.aload_n 0, 1) ∧ 48 = 47 + 1 := by decide +kernel
theorem d_X10_text_48 : decode cX10_text 48 = .ok (.getfield 50, 3) ∧ 51 = 48 + 3 := by decide +kernel
theorem d_X10_text_51 : decode cX10_text 51 = .ok (.getfield 169, 3) ∧ 54 = 51 + 3 := by decide +kernel
theorem d_X10_text_54 : decode cX10_text 54 = .ok (.putfield 58, 3) ∧ 57 = 54 + 3 := by decide +kernel
theorem d_X10_text_57 : decode cX10_text 57 = .ok (.aload_n 0, 1) ∧ 58 = 57 + 1 := by decide +kernel
theorem d_X10_text_58 : decode cX10_text 58 = .ok (.iconst 0, 1) ∧ 59 = 58 + 1 := by decide +kernel
theorem d_X10_text_59 : decode cX10_text 59 = .ok (.putfield 152, 3) ∧ 62 = 59 + 3 := by decide +kernel
theorem d_X10_text_62 : decode cX10_text 62 = .ok (.aload_n 0, 1) ∧ 63 = 62 + 1 := by decide +kernel
theorem d_X10_text_63 : decode cX10_text 63 = .ok (.getfield 50, 3) ∧ 66 = 63 + 3 := by decide +kernel
theorem d_X10_text_66 : decode cX10_text 66 = .ok (.getfield 166, 3) ∧ 69 = 66 + 3 := by decide +kernel
theorem d_X10_text_69 : decode cX10_text 69 = .ok (.ifCond .eq 5, 3) ∧ 72 = 69 + 3 ∧ (69 : Int) + 5 = ((74 : Nat) : Int) := by decide +kernel
theorem d_X10_text_72 : decode cX10_text 72 = .ok (.iconst (-1), 1) ∧ 73 = 72 + 1 := by decide +kernel
theorem d_X10_text_73 : decode cX10_text 73 = .ok (.ireturn, 1) := by decide +kernel
theorem d_X10_text_74 : decode cX10_text 74 = .ok (.aload_n 0, 1) ∧ 75 = 74 + 1 := by decide +kernel
theorem d_X10_text_75 : decode cX10_text 75 = .ok (.dup, 1) ∧ 76 = 75 + 1 := by decide +kernel
theorem d_X10_text_76 : decode cX10_text 76 = .ok (.getfield 159, 3) ∧ 79 = 76 + 3 := by decide +kernel
theorem d_X10_text_79 : decode cX10_text 79 = .ok (.iconst 1, 1) ∧ 80 = 79 + 1 := by decide +kernel
theorem d_X10_text_80 : decode cX10_text 80 = .ok (.iadd, 1) ∧ 81 = 80 + 1 := by decide +kernel
theorem d_X10_text_81 : decode cX10_text 81 = .ok (.putfield 159, 3) ∧ 84 = 81 + 3 := by decide +kernel
theorem d_X10_text_84 : decode cX10_text 84 = .ok (.aload_n 0, 1) ∧ 85 = 84 + 1 := by decide +kernel
theorem d_X10_text_85 : decode cX10_text 85 = .ok (.getfield 159, 3) ∧ 88 = 85 + 3 := by decide +kernel
theorem d_X10_text_88 : decode cX10_text 88 = .ok (.iconst 1, 1) ∧ 89 = 88 + 1 := by decide +kernel
theorem d_X10_text_89 : decode cX10_text 89 = .ok (.isub, 1) ∧ 90 = 89 + 1 := by decide +kernel
theorem d_X10_text_90 : decode cX10_text 90 = .ok (.ireturn, 1) := by decide +kernel
theorem d_X10_fault_0 : decode cX10_fault 0 = .ok (.iload_n 1, 1) ∧ 1 = 0 + 1 := by decide +kernel
theorem d_X10_fault_1 : decode cX10_fault 1 = .ok (.ifCond .ne 8, 3) ∧ 4 = 1 + 3 ∧ (1 : Int) + 8 = ((9 : Nat) : Int) := by decide +kernel
theorem d_X10_fault_4 : decode cX10_fault 4 = .ok (.aload_n 0, 1) ∧ 5 = 4 + 1 := by decide +kernel
theorem d_X10_fault_5 : decode cX10_fault 5 = .ok (.getfield 54, 3) ∧ 8 = 5 + 3 := by decide +kernel
theorem d_X10_fault_8 : decode cX10_fault 8 = .ok (.ireturn, 1) := by decide +kernel
theorem d_X10_fault_9 : decode cX10_fault 9 = .ok (.iload_n 1, 1) ∧ 10 = 9 + 1 := by decide +kernel
theorem d_X10_fault_10 : decode cX10_fault 10 = .ok (.iconst 1, 1) ∧ 11 = 10 + 1 := by decide +kernel
theorem d_X10_fault_11 : decode cX10_fault 11 = .ok (.if_icmp .ne 10, 3) ∧ 14 = 11 + 3 ∧ (11 : Int) + 10 = ((21 : Nat) : Int) := by decide +kernel
theorem d_X10_fault_14 : decode cX10_fault 14 = .ok (.aload_n 0, 1) ∧ 15 = 14 + 1 := by decide +kernel
theorem d_X10_fault_15 : decode cX10_fault 15 = .ok (.getfield 58, 3) ∧ 18 = 15 + 3 := by decide +kernel
theorem d_X10_fault_18 : decode cX10_fault 18 = .ok (.goto 4, 3) ∧ (18 : Int) + (4) = ((22 : Nat) : Int) := by decide +kernel
theorem d_X10_fault_21 : decode cX10_fault 21 = .ok (.iconst (-1), 1) ∧ 22 = 21 + 1 := by decide +kernel
theorem d_X10_fault_22 : decode cX10_fault 22 = .ok (.ireturn, 1) := by decide +kernel
theorem d_X10_deals_0 : decode cX10_deals 0 = .ok (.aload_n 0, 1) ∧ 1 = 0 + 1 := by decide +kernel
theorem d_X10_deals_1 : decode cX10_deals 1 = .ok (.iload_n 1, 1) ∧ 2 = 1 + 1 := by decide +kernel
theorem d_X10_deals_2 : decode cX10_deals 2 = .ok (.invokevirtual 172, 3) ∧ 5 = 2 + 3 := by decide +kernel
theorem d_X10_deals_5 : decode cX10_deals 5 = .ok (.ifCond .eq 8, 3) ∧ 8 = 5 + 3 ∧ (5 : Int) + 8 = ((13 : Nat) : Int) := by decide +kernel
theorem d_X10_deals_8 : decode cX10_deals 8 = .ok (.iload_n 2, 1) ∧ 9 = 8 + 1 := by decide +kernel
theorem d_X10_deals_9 : decode cX10_deals 9 = .ok (.iconst (-1), 1) ∧ 10 = 9 + 1 := by decide +kernel
theorem d_X10_deals_10 : decode cX10_deals 10 = .ok (.if_icmp .ge 5, 3) ∧ 13 = 10 + 3 ∧ (10 : Int) + 5 = ((15 : Nat) : Int) := by decide +kernel
theorem d_X10_deals_13 : decode cX10_deals 13 = .ok (.iconst (-1), 1) ∧ 14 = 13 + 1 := by decide +kernel
theorem d_X10_deals_14 : decode cX10_deals 14 = .ok (.ireturn, 1) := by decide +kernel
theorem d_X10_deals_15 : decode cX10_deals 15 = .ok (.aload_n 0, 1) ∧ 16 = 15 + 1 := by decide +kernel
theorem d_X10_deals_16 : decode cX10_deals 16 = .ok (.iload_n 1, 1) ∧ 17 = 16 + 1 := by decide +kernel
theorem d_X10_deals_17 : decode cX10_deals 17 = .ok (.invokevirtual 175, 3) ∧ 20 = 17 + 3 := by decide +kernel
theorem d_X10_deals_20 : decode cX10_deals 20 = .ok (.iload_n 2, 1) ∧ 21 = 20 + 1 := by decide +kernel
theorem d_X10_deals_21 : decode cX10_deals 21 = .ok (.iconst (-1), 1) ∧ 22 = 21 + 1 := by decide +kernel
theorem d_X10_deals_22 : decode cX10_deals 22 = .ok (.if_icmp .ne 11, 3) ∧ 25 = 22 + 3 ∧ (22 : Int) + 11 = ((33 : Nat) : Int) := by decide +kernel
theorem d_X10_deals_25 : decode cX10_deals 25 = .ok (.aload_n 0, 1) ∧ 26 = 25 + 1 := by decide +kernel
theorem d_X10_deals_26 : decode cX10_deals 26 = .ok (.getfield 74, 3) ∧ 29 = 26 + 3 := by decide +kernel
theorem d_X10_deals_29 : decode cX10_deals 29 = .ok (.getfield 178, 3) ∧ 32 = 29 + 3 := by decide +kernel
theorem d_X10_deals_32 : decode cX10_deals 32 = .ok (.ireturn, 1) := by decide +kernel
theorem d_X10_deals_33 : decode cX10_deals 33 = .ok (.iload_n 2, 1) ∧ 34 = 33 + 1 := by decide +kernel
theorem d_X10_deals_34 : decode cX10_deals 34 = .ok (.aload_n 0, 1) ∧ 35 = 34 + 1 := by decide +kernel
theorem d_X10_deals_35 : decode cX10_deals 35 = .ok (.getfield 74, 3) ∧ 38 = 35 + 3 := by decide +kernel
theorem d_X10_deals_38 : decode cX10_deals 38 = .ok (.getfield 178, 3) ∧ 41 = 38 + 3 := by decide +kernel
theorem d_X10_deals_41 : decode cX10_deals 41 = .ok (.if_icmp .ge 27, 3) ∧ 44 = 41 + 3 ∧ (41 : Int) + 27 = ((68 : Nat) : Int) := by decide +kernel
theorem d_X10_deals_44 : decode cX10_deals 44 = .ok (.iload_n 2, 1) ∧ 45 = 44 + 1 := by decide +kernel
theorem d_X10_deals_45 : decode cX10_deals 45 = .ok (.aload_n 0, 1) ∧ 46 = 45 + 1 := by decide +kernel
theorem d_X10_deals_46 : decode cX10_deals 46 = .ok (.getfield 74, 3) ∧ 49 = 46 + 3 := by decide +kernel
theorem d_X10_deals_49 : decode cX10_deals 49 = .ok (.getfield 179, 3) ∧ 52 = 49 + 3 := by decide +kernel
theorem d_X10_deals_52 : decode cX10_deals 52 = .ok (.arraylength, 1) ∧ 53 = 52 + 1 := by decide +kernel
theorem d_X10_deals_53 : decode cX10_deals 53 = .ok (.if_icmp .ge 15, 3) ∧ 56 = 53 + 3 ∧ (53 : Int) + 15 = ((68 : Nat) : Int) := by decide +kernel
theorem d_X10_deals_56 : decode cX10_deals 56 = .ok (.aload_n 0, 1) ∧ 57 = 56 + 1 := by decide +kernel
theorem d_X10_deals_57 : decode cX10_deals 57 = .ok (.getfield 74, 3) ∧ 60 = 57 + 3 := by decide +kernel
theorem d_X10_deals_60 : decode cX10_deals 60 = .ok (.getfield 179, 3) ∧ 63 = 60 + 3 := by decide +kernel
theorem d_X10_deals_63 : decode cX10_deals 63 = .ok (.iload_n 2, 1) ∧ 64 = 63 + 1 := by decide +kernel
theorem d_X10_deals_64 : decode cX10_deals 64 = .ok (.iaload, 1) ∧ 65 = 64 + 1 := by decide +kernel
theorem d_X10_deals_65 : decode cX10_deals 65 = .ok (.goto 4, 3) ∧ (65 : Int) + (4) = ((69 : Nat) : Int) := by decide +kernel
theorem d_X10_deals_68 : decode cX10_deals 68 = .ok (.iconst (-1), 1) ∧ 69 = 68 + 1 := by decide +kernel
theorem d_X10_deals_69 : decode cX10_deals 69 = .ok (.ireturn, 1) := by decide +kernel
theorem d_X10_odds_0 : decode cX10_odds 0 = .ok (.iload_n 3, 1) ∧ 1 = 0 + 1 := by decide +kernel
theorem d_X10_odds_1 : decode cX10_odds 1 = .ok (.sipush 1000, 3) ∧ 4 = 1 + 3 := by decide +kernel
theorem d_X10_odds_4 : decode cX10_odds 4 = .ok (.isub, 1) ∧ 5 = 4 + 1 := by decide +kernel
theorem d_X10_odds_5 : decode cX10_odds 5 = .ok (.invokestatic 182, 3) ∧ 8 = 5 + 3 := by decide +kernel
theorem d_X10_odds_8 : decode cX10_odds 8 = .ok (.istore 4, 2) ∧ 10 = 8 + 2 := by decide +kernel
theorem d_X10_odds_10 : decode cX10_odds 10 = .ok (.aload_n 0, 1) ∧ 11 = 10 + 1 := by decide +kernel
theorem d_X10_odds_11 : decode cX10_odds 11 = .ok (.iload_n 1, 1) ∧ 12 = 11 + 1 := by decide +kernel
theorem d_X10_odds_12 : decode cX10_odds 12 = .ok (.invokevirtual 172, 3) ∧ 15 = 12 + 3 := by decide +kernel
theorem d_X10_odds_15 : decode cX10_odds 15 = .ok (.ifCond .eq 27, 3) ∧ 18 = 15 + 3 ∧ (15 : Int) + 27 = ((42 : Nat) : Int) := by decide +kernel
theorem d_X10_odds_18 : decode cX10_odds 18 = .ok (.aload_n 0, 1) ∧ 19 = 18 + 1 := by decide +kernel
theorem d_X10_odds_19 : decode cX10_odds 19 = .ok (.getfield 19, 3) ∧ 22 = 19 + 3 := by decide +kernel
theorem d_X10_odds_22 : decode cX10_odds 22 = .ok (.iload_n 2, 1) ∧ 23 = 22 + 1 := by decide +kernel
theorem d_X10_odds_23 : decode cX10_odds 23 = .ok (.invokevirtual 124, 3) ∧ 26 = 23 + 3 := by decide +kernel
theorem d_X10_odds_26 : decode cX10_odds 26 = .ok (.ifCond .eq 16, 3) ∧ 29 = 26 + 3 ∧ (26 : Int) + 16 = ((42 : Nat) : Int) := by decide +kernel
theorem d_X10_odds_29 : decode cX10_odds 29 = .ok (.iload_n 3, 1) ∧ 30 = 29 + 1 := by decide +kernel
theorem d_X10_odds_30 : decode cX10_odds 30 = .ok (.iconst 1, 1) ∧ 31 = 30 + 1 := by decide +kernel
theorem d_X10_odds_31 : decode cX10_odds 31 = .ok (.invokestatic 99, 3) ∧ 34 = 31 + 3 := by decide +kernel
theorem d_X10_odds_34 : decode cX10_odds 34 = .ok (.ifCond .ne 10, 3) ∧ 37 = 34 + 3 ∧ (34 : Int) + 10 = ((44 : Nat) : Int) := by decide +kernel
theorem d_X10_odds_37 : decode cX10_odds 37 = .ok (.iload 4, 2) ∧ 39 = 37 + 2 := by decide +kernel
theorem d_X10_odds_39 : decode cX10_odds 39 = .ok (.ifCond .ne 5, 3) ∧ 42 = 39 + 3 ∧ (39 : Int) + 5 = ((44 : Nat) : Int) := by decide +kernel
theorem d_X10_odds_42 : decode cX10_odds 42 = .ok (.iconst (-1), 1) ∧ 43 = 42 + 1 := by decide +kernel
theorem d_X10_odds_43 : decode cX10_odds 43 = .ok (.ireturn, 1) := by decide +kernel
theorem d_X10_odds_44 : decode cX10_odds 44 = .ok (.aload_n 0, 1) ∧ 45 = 44 + 1 := by decide +kernel
theorem d_X10_odds_45 : decode cX10_odds 45 = .ok (.iload_n 1, 1) ∧ 46 = 45 + 1 := by decide +kernel
theorem d_X10_odds_46 : decode cX10_odds 46 = .ok (.invokevirtual 175, 3) ∧ 49 = 46 + 3 := by decide +kernel
theorem d_X10_odds_49 : decode cX10_odds 49 = .ok (.aload_n 0, 1) ∧ 50 = 49 + 1 := by decide +kernel
theorem d_X10_odds_50 : decode cX10_odds 50 = .ok (.iload_n 2, 1) ∧ 51 = 50 + 1 := by decide +kernel
theorem d_X10_odds_51 : decode cX10_odds 51 = .ok (.aload_n 0, 1) ∧ 52 = 51 + 1 := by decide +kernel
theorem d_X10_odds_52 : decode cX10_odds 52 = .ok (.getfield 10, 3) ∧ 55 = 52 + 3 := by decide +kernel
theorem d_X10_odds_55 : decode cX10_odds 55 = .ok (.invokevirtual 134, 3) ∧ 58 = 55 + 3 := by decide +kernel
theorem d_X10_odds_58 : decode cX10_odds 58 = .ok (.aload_n 0, 1) ∧ 59 = 58 + 1 := by decide +kernel
theorem d_X10_odds_59 : decode cX10_odds 59 = .ok (.getfield 10, 3) ∧ 62 = 59 + 3 := by decide +kernel
theorem d_X10_odds_62 : decode cX10_odds 62 = .ok (.getfield 117, 3) ∧ 65 = 62 + 3 := by decide +kernel
theorem d_X10_odds_65 : decode cX10_odds 65 = .ok (.invokevirtual 185, 3) ∧ 68 = 65 + 3 := by decide +kernel
theorem d_X10_odds_68 : decode cX10_odds 68 = .ok (.istore 5, 2) ∧ 70 = 68 + 2 := by decide +kernel
theorem d_X10_odds_70 : decode cX10_odds 70 = .ok (.iload 5, 2) ∧ 72 = 70 + 2 := by decide +kernel
theorem d_X10_odds_72 : decode cX10_odds 72 = .ok (.iconst (-1), 1) ∧ 73 = 72 + 1 := by decide +kernel
theorem d_X10_odds_73 : decode cX10_odds 73 = .ok (.if_icmp .eq 13, 3) ∧ 76 = 73 + 3 ∧ (73 : Int) + 13 = ((86 : Nat) : Int) := by decide +kernel
theorem d_X10_odds_76 : decode cX10_odds 76 = .ok (.aload_n 0, 1) ∧ 77 = 76 + 1 := by decide +kernel
theorem d_X10_odds_77 : decode cX10_odds 77 = .ok (.getfield 74, 3) ∧ 80 = 77 + 3 := by decide +kernel
theorem d_X10_odds_80 : decode cX10_odds 80 = .ok (.getfield 178, 3) ∧ 83 = 80 + 3 := by decide +kernel
theorem d_X10_odds_83 : decode cX10_odds 83 = .ok (.ifCond .ne 5, 3) ∧ 86 = 83 + 3 ∧ (83 : Int) + 5 = ((88 : Nat) : Int) := by decide +kernel
theorem d_X10_odds_86 : decode cX10_odds 86 = .ok (.iconst (-1), 1) ∧ 87 = 86 + 1 := by decide +kernel
theorem d_X10_odds_87 : decode cX10_odds 87 = .ok (.ireturn, 1) := by decide +kernel
theorem d_X10_odds_88 : decode cX10_odds 88 = .ok (.iload 4, 2) ∧ 90 = 88 + 2 := by decide +kernel
theorem d_X10_odds_90 : decode cX10_odds 90 = .ok (.ifCond .eq 23, 3) ∧ 93 = 90 + 3 ∧ (90 : Int) + 23 = ((113 : Nat) : Int) := by decide +kernel
theorem d_X10_odds_93 : decode cX10_odds 93 = .ok (.aload_n 0, 1) ∧ 94 = 93 + 1 := by decide +kernel
theorem d_X10_odds_94 : decode cX10_odds 94 = .ok (.iload 5, 2) ∧ 96 = 94 + 2 := by decide +kernel
theorem d_X10_odds_96 : decode cX10_odds 96 = .ok (.iload_n 3, 1) ∧ 97 = 96 + 1 := by decide +kernel
theorem d_X10_odds_97 : decode cX10_odds 97 = .ok (.sipush 1000, 3) ∧ 100 = 97 + 3 := by decide +kernel
theorem d_X10_odds_100 : decode cX10_odds 100 = .ok (.isub, 1) ∧ 101 = 100 + 1 := by decide +kernel
theorem d_X10_odds_101 : decode cX10_odds 101 = .ok (.invokevirtual 189, 3) ∧ 104 = 101 + 3 := by decide +kernel
theorem d_X10_odds_104 : decode cX10_odds 104 = .ok (.ifCond .eq 7, 3) ∧ 107 = 104 + 3 ∧ (104 : Int) + 7 = ((111 : Nat) : Int) := by decide +kernel
theorem d_X10_odds_107 : decode cX10_odds 107 = .ok (.iconst 1, 1) ∧ 108 = 107 + 1 := by decide +kernel
theorem d_X10_odds_108 : decode cX10_odds 108 = .ok (.goto 4, 3) ∧ (108 : Int) + (4) = ((112 : Nat) : Int) := by decide +kernel
theorem d_X10_odds_111 : decode cX10_odds 111 = .ok (.iconst 0, 1) ∧ 112 = 111 + 1 := by decide +kernel
theorem d_X10_odds_112 : decode cX10_odds 112 = .ok (.ireturn, 1) := by decide +kernel
theorem d_X10_odds_113 : decode cX10_odds 113 = .ok (.iload_n 3, 1) ∧ 114 = 113 + 1 := by decide +kernel
theorem d_X10_odds_114 : decode cX10_odds 114 = .ok (.ifCond .ne 8, 3) ∧ 117 = 114 + 3 ∧ (114 : Int) + 8 = ((122 : Nat) : Int) := by decide +kernel
theorem d_X10_odds_117 : decode cX10_odds 117 = .ok (.iload 5, 2) ∧ 119 = 117 + 2 := by decide +kernel
theorem d_X10_odds_119 : decode cX10_odds 119 = .ok (.goto 17, 3) ∧ (119 : Int) + (17) = ((136 : Nat) : Int) := by decide +kernel
theorem d_X10_odds_122 : decode cX10_odds 122 = .ok (.iload 5, 2) ∧ 124 = 122 + 2 := by decide +kernel
theorem d_X10_odds_124 : decode cX10_odds 124 = .ok (.sipush 1000, 3) ∧ 127 = 124 + 3 := by decide +kernel
theorem d_X10_odds_127 : decode cX10_odds 127 = .ok (.imul, 1) ∧ 128 = 127 + 1 := by decide +kernel
theorem d_X10_odds_128 : decode cX10_odds 128 = .ok (.aload_n 0, 1) ∧ 129 = 128 + 1 := by decide +kernel
theorem d_X10_odds_129 : decode cX10_odds 129 = .ok (.getfield 74, 3) ∧ 132 = 129 + 3 := by decide +kernel
theorem d_X10_odds_132 : decode cX10_odds 132 = .ok (.getfield 178, 3) ∧ 135 = 132 + 3 := by decide +kernel
theorem d_X10_odds_135 : decode cX10_odds 135 = .ok (.idiv, 1) ∧ 136 = 135 + 1 := by decide +kernel
theorem d_X10_odds_136 : decode cX10_odds 136 = .ok (.ireturn, 1) := by decide +kernel
theorem d_X10_paid_0 : decode cX10_paid 0 = .ok (.aload_n 0, 1) ∧ 1 = 0 + 1 := by decide +kernel
theorem d_X10_paid_1 : decode cX10_paid 1 = .ok (.iload_n 1, 1) ∧ 2 = 1 + 1 := by decide +kernel
theorem d_X10_paid_2 : decode cX10_paid 2 = .ok (.invokevirtual 172, 3) ∧ 5 = 2 + 3 := by decide +kernel
theorem d_X10_paid_5 : decode cX10_paid 5 = .ok (.ifCond .eq 21, 3) ∧ 8 = 5 + 3 ∧ (5 : Int) + 21 = ((26 : Nat) : Int) := by decide +kernel
theorem d_X10_paid_8 : decode cX10_paid 8 = .ok (.aload_n 0, 1) ∧ 9 = 8 + 1 := by decide +kernel
theorem d_X10_paid_9 : decode cX10_paid 9 = .ok (.getfield 19, 3) ∧ 12 = 9 + 3 := by decide +kernel
theorem d_X10_paid_12 : decode cX10_paid 12 = .ok (.iload_n 2, 1) ∧ 13 = 12 + 1 := by decide +kernel
theorem d_X10_paid_13 : decode cX10_paid 13 = .ok (.invokevirtual 192, 3) ∧ 16 = 13 + 3 := by decide +kernel
theorem d_X10_paid_16 : decode cX10_paid 16 = .ok (.ifCond .eq 10, 3) ∧ 19 = 16 + 3 ∧ (16 : Int) + 10 = ((26 : Nat) : Int) := by decide +kernel
theorem d_X10_paid_19 : decode cX10_paid 19 = .ok (.iload_n 3, 1) ∧ 20 = 19 + 1 := by decide +kernel
theorem d_X10_paid_20 : decode cX10_paid 20 = .ok (.invokestatic 182, 3) ∧ 23 = 20 + 3 := by decide +kernel
theorem d_X10_paid_23 : decode cX10_paid 23 = .ok (.ifCond .ne 5, 3) ∧ 26 = 23 + 3 ∧ (23 : Int) + 5 = ((28 : Nat) : Int) := by decide +kernel
theorem d_X10_paid_26 : decode cX10_paid 26 = .ok (.iconst (-1), 1) ∧ 27 = 26 + 1 := by decide +kernel
theorem d_X10_paid_27 : decode cX10_paid 27 = .ok (.ireturn, 1) := by decide +kernel
theorem d_X10_paid_28 : decode cX10_paid 28 = .ok (.aload_n 0, 1) ∧ 29 = 28 + 1 := by decide +kernel
theorem d_X10_paid_29 : decode cX10_paid 29 = .ok (.iload_n 1, 1) ∧ 30 = 29 + 1 := by decide +kernel
theorem d_X10_paid_30 : decode cX10_paid 30 = .ok (.invokevirtual 175, 3) ∧ 33 = 30 + 3 := by decide +kernel
theorem d_X10_paid_33 : decode cX10_paid 33 = .ok (.aload_n 0, 1) ∧ 34 = 33 + 1 := by decide +kernel
theorem d_X10_paid_34 : decode cX10_paid 34 = .ok (.iload_n 2, 1) ∧ 35 = 34 + 1 := by decide +kernel
theorem d_X10_paid_35 : decode cX10_paid 35 = .ok (.invokevirtual 195, 3) ∧ 38 = 35 + 3 := by decide +kernel
theorem d_X10_paid_38 : decode cX10_paid 38 = .ok (.istore 4, 2) ∧ 40 = 38 + 2 := by decide +kernel
theorem d_X10_paid_40 : decode cX10_paid 40 = .ok (.iconst 0, 1) ∧ 41 = 40 + 1 := by decide +kernel
theorem d_X10_paid_41 : decode cX10_paid 41 = .ok (.istore 5, 2) ∧ 43 = 41 + 2 := by decide +kernel
theorem d_X10_paid_43 : decode cX10_paid 43 = .ok (.iload 4, 2) ∧ 45 = 43 + 2 := by decide +kernel
theorem d_X10_paid_45 : decode cX10_paid 45 = .ok (.invokestatic 198, 3) ∧ 48 = 45 + 3 := by decide +kernel
theorem d_X10_paid_48 : decode cX10_paid 48 = .ok (.istore 6, 2) ∧ 50 = 48 + 2 := by decide +kernel
theorem d_X10_paid_50 : decode cX10_paid 50 = .ok (.iload 6, 2) ∧ 52 = 50 + 2 := by decide +kernel
theorem d_X10_paid_52 : decode cX10_paid 52 = .ok (.ifCond .le 67, 3) ∧ 55 = 52 + 3 ∧ (52 : Int) + 67 = ((119 : Nat) : Int) := by decide +kernel
theorem d_X10_paid_55 : decode cX10_paid 55 = .ok (.aload_n 0, 1) ∧ 56 = 55 + 1 := by decide +kernel
theorem d_X10_paid_56 : decode cX10_paid 56 = .ok (.getfield 88, 3) ∧ 59 = 56 + 3 := by decide +kernel
theorem d_X10_paid_59 : decode cX10_paid 59 = .ok (.iload 4, 2) ∧ 61 = 59 + 2 := by decide +kernel
theorem d_X10_paid_61 : decode cX10_paid 61 = .ok (.invokestatic 203, 3) ∧ 64 = 61 + 3 := by decide +kernel
theorem d_X10_paid_64 : decode cX10_paid 64 = .ok (.istore 7, 2) ∧ 66 = 64 + 2 := by decide +kernel
theorem d_X10_paid_66 : decode cX10_paid 66 = .ok (.iload 7, 2) ∧ 68 = 66 + 2 := by decide +kernel
theorem d_X10_paid_68 : decode cX10_paid 68 = .ok (.iconst (-1), 1) ∧ 69 = 68 + 1 := by decide +kernel
theorem d_X10_paid_69 : decode cX10_paid 69 = .ok (.if_icmp .eq 50, 3) ∧ 72 = 69 + 3 ∧ (69 : Int) + 50 = ((119 : Nat) : Int) := by decide +kernel
theorem d_X10_paid_72 : decode cX10_paid 72 = .ok (.aload_n 0, 1) ∧ 73 = 72 + 1 := by decide +kernel
theorem d_X10_paid_73 : decode cX10_paid 73 = .ok (.aload_n 0, 1) ∧ 74 = 73 + 1 := by decide +kernel
theorem d_X10_paid_74 : decode cX10_paid 74 = .ok (.getfield 88, 3) ∧ 77 = 74 + 3 := by decide +kernel
theorem d_X10_paid_77 : decode cX10_paid 77 = .ok (.iload 7, 2) ∧ 79 = 77 + 2 := by decide +kernel
theorem d_X10_paid_79 : decode cX10_paid 79 = .ok (.iaload, 1) ∧ 80 = 79 + 1 := by decide +kernel
theorem d_X10_paid_80 : decode cX10_paid 80 = .ok (.iload 6, 2) ∧ 82 = 80 + 2 := by decide +kernel
theorem d_X10_paid_82 : decode cX10_paid 82 = .ok (.imul, 1) ∧ 83 = 82 + 1 := by decide +kernel
theorem d_X10_paid_83 : decode cX10_paid 83 = .ok (.iload_n 3, 1) ∧ 84 = 83 + 1 := by decide +kernel
theorem d_X10_paid_84 : decode cX10_paid 84 = .ok (.invokevirtual 189, 3) ∧ 87 = 84 + 3 := by decide +kernel
theorem d_X10_paid_87 : decode cX10_paid 87 = .ok (.ifCond .ne 6, 3) ∧ 90 = 87 + 3 ∧ (87 : Int) + 6 = ((93 : Nat) : Int) := by decide +kernel
theorem d_X10_paid_90 : decode cX10_paid 90 = .ok (.goto 29, 3) ∧ (90 : Int) + (29) = ((119 : Nat) : Int) := by decide +kernel
theorem d_X10_paid_93 : decode cX10_paid 93 = .ok (.iload 5, 2) ∧ 95 = 93 + 2 := by decide +kernel
theorem d_X10_paid_95 : decode cX10_paid 95 = .ok (.iconst 1, 1) ∧ 96 = 95 + 1 := by decide +kernel
theorem d_X10_paid_96 : decode cX10_paid 96 = .ok (.iload 7, 2) ∧ 98 = 96 + 2 := by decide +kernel
theorem d_X10_paid_98 : decode cX10_paid 98 = .ok (.ishl, 1) ∧ 99 = 98 + 1 := by decide +kernel
theorem d_X10_paid_99 : decode cX10_paid 99 = .ok (.ior, 1) ∧ 100 = 99 + 1 := by decide +kernel
theorem d_X10_paid_100 : decode cX10_paid 100 = .ok (.istore 5, 2) ∧ 102 = 100 + 2 := by decide +kernel
theorem d_X10_paid_102 : decode cX10_paid 102 = .ok (.iload 4, 2) ∧ 104 = 102 + 2 := by decide +kernel
theorem d_X10_paid_104 : decode cX10_paid 104 = .ok (.iconst 1, 1) ∧ 105 = 104 + 1 := by decide +kernel
theorem d_X10_paid_105 : decode cX10_paid 105 = .ok (.iload 7, 2) ∧ 107 = 105 + 2 := by decide +kernel
theorem d_X10_paid_107 : decode cX10_paid 107 = .ok (.ishl, 1) ∧ 108 = 107 + 1 := by decide +kernel
theorem d_X10_paid_108 : decode cX10_paid 108 = .ok (.iconst (-1), 1) ∧ 109 = 108 + 1 := by decide +kernel
theorem d_X10_paid_109 : decode cX10_paid 109 = .ok (.ixor, 1) ∧ 110 = 109 + 1 := by decide +kernel
theorem d_X10_paid_110 : decode cX10_paid 110 = .ok (.iand, 1) ∧ 111 = 110 + 1 := by decide +kernel
theorem d_X10_paid_111 : decode cX10_paid 111 = .ok (.istore 4, 2) ∧ 113 = 111 + 2 := by decide +kernel
theorem d_X10_paid_113 : decode cX10_paid 113 = .ok (.iinc 6 (-1), 3) ∧ 116 = 113 + 3 := by decide +kernel
theorem d_X10_paid_116 : decode cX10_paid 116 = .ok (.goto (-66), 3) ∧ (116 : Int) + ((-66)) = ((50 : Nat) : Int) := by decide +kernel
theorem d_X10_paid_119 : decode cX10_paid 119 = .ok (.iload 5, 2) ∧ 121 = 119 + 2 := by decide +kernel
theorem d_X10_paid_121 : decode cX10_paid 121 = .ok (.ireturn, 1) := by decide +kernel
theorem d_X10_few_0 : decode cX10_few 0 = .ok (.aload_n 0, 1) ∧ 1 = 0 + 1 := by decide +kernel
theorem d_X10_few_1 : decode cX10_few 1 = .ok (.iload_n 1, 1) ∧ 2 = 1 + 1 := by decide +kernel
theorem d_X10_few_2 : decode cX10_few 2 = .ok (.invokevirtual 172, 3) ∧ 5 = 2 + 3 := by decide +kernel
theorem d_X10_few_5 : decode cX10_few 5 = .ok (.ifCond .eq 30, 3) ∧ 8 = 5 + 3 ∧ (5 : Int) + 30 = ((35 : Nat) : Int) := by decide +kernel
theorem d_X10_few_8 : decode cX10_few 8 = .ok (.aload_n 0, 1) ∧ 9 = 8 + 1 := by decide +kernel
theorem d_X10_few_9 : decode cX10_few 9 = .ok (.getfield 19, 3) ∧ 12 = 9 + 3 := by decide +kernel
theorem d_X10_few_12 : decode cX10_few 12 = .ok (.iload_n 2, 1) ∧ 13 = 12 + 1 := by decide +kernel
theorem d_X10_few_13 : decode cX10_few 13 = .ok (.invokevirtual 124, 3) ∧ 16 = 13 + 3 := by decide +kernel
theorem d_X10_few_16 : decode cX10_few 16 = .ok (.ifCond .eq 19, 3) ∧ 19 = 16 + 3 ∧ (16 : Int) + 19 = ((35 : Nat) : Int) := by decide +kernel
theorem d_X10_few_19 : decode cX10_few 19 = .ok (.iload_n 3, 1) ∧ 20 = 19 + 1 := by decide +kernel
theorem d_X10_few_20 : decode cX10_few 20 = .ok (.invokestatic 182, 3) ∧ 23 = 20 + 3 := by decide +kernel
theorem d_X10_few_23 : decode cX10_few 23 = .ok (.ifCond .eq 12, 3) ∧ 26 = 23 + 3 ∧ (23 : Int) + 12 = ((35 : Nat) : Int) := by decide +kernel
theorem d_X10_few_26 : decode cX10_few 26 = .ok (.iload 4, 2) ∧ 28 = 26 + 2 := by decide +kernel
theorem d_X10_few_28 : decode cX10_few 28 = .ok (.iconst 2, 1) ∧ 29 = 28 + 1 := by decide +kernel
theorem d_X10_few_29 : decode cX10_few 29 = .ok (.invokestatic 99, 3) ∧ 32 = 29 + 3 := by decide +kernel
theorem d_X10_few_32 : decode cX10_few 32 = .ok (.ifCond .ne 5, 3) ∧ 35 = 32 + 3 ∧ (32 : Int) + 5 = ((37 : Nat) : Int) := by decide +kernel
theorem d_X10_few_35 : decode cX10_few 35 = .ok (.iconst (-1), 1) ∧ 36 = 35 + 1 := by decide +kernel
theorem d_X10_few_36 : decode cX10_few 36 = .ok (.ireturn, 1) := by decide +kernel
theorem d_X10_few_37 : decode cX10_few 37 = .ok (.aload_n 0, 1) ∧ 38 = 37 + 1 := by decide +kernel
theorem d_X10_few_38 : decode cX10_few 38 = .ok (.iload_n 1, 1) ∧ 39 = 38 + 1 := by decide +kernel
theorem d_X10_few_39 : decode cX10_few 39 = .ok (.invokevirtual 175, 3) ∧ 42 = 39 + 3 := by decide +kernel
theorem d_X10_few_42 : decode cX10_few 42 = .ok (.aload_n 0, 1) ∧ 43 = 42 + 1 := by decide +kernel
theorem d_X10_few_43 : decode cX10_few 43 = .ok (.iload_n 2, 1) ∧ 44 = 43 + 1 := by decide +kernel
theorem d_X10_few_44 : decode cX10_few 44 = .ok (.aload_n 0, 1) ∧ 45 = 44 + 1 := by decide +kernel
theorem d_X10_few_45 : decode cX10_few 45 = .ok (.getfield 10, 3) ∧ 48 = 45 + 3 := by decide +kernel
theorem d_X10_few_48 : decode cX10_few 48 = .ok (.invokevirtual 134, 3) ∧ 51 = 48 + 3 := by decide +kernel
theorem d_X10_few_51 : decode cX10_few 51 = .ok (.aload_n 0, 1) ∧ 52 = 51 + 1 := by decide +kernel
theorem d_X10_few_52 : decode cX10_few 52 = .ok (.getfield 10, 3) ∧ 55 = 52 + 3 := by decide +kernel
theorem d_X10_few_55 : decode cX10_few 55 = .ok (.getfield 117, 3) ∧ 58 = 55 + 3 := by decide +kernel
theorem d_X10_few_58 : decode cX10_few 58 = .ok (.invokevirtual 185, 3) ∧ 61 = 58 + 3 := by decide +kernel
theorem d_X10_few_61 : decode cX10_few 61 = .ok (.iconst (-1), 1) ∧ 62 = 61 + 1 := by decide +kernel
theorem d_X10_few_62 : decode cX10_few 62 = .ok (.if_icmp .ne 5, 3) ∧ 65 = 62 + 3 ∧ (62 : Int) + 5 = ((67 : Nat) : Int) := by decide +kernel
theorem d_X10_few_65 : decode cX10_few 65 = .ok (.iconst (-1), 1) ∧ 66 = 65 + 1 := by decide +kernel
theorem d_X10_few_66 : decode cX10_few 66 = .ok (.ireturn, 1) := by decide +kernel
theorem d_X10_few_67 : decode cX10_few 67 = .ok (.aload_n 0, 1) ∧ 68 = 67 + 1 := by decide +kernel
theorem d_X10_few_68 : decode cX10_few 68 = .ok (.iload_n 2, 1) ∧ 69 = 68 + 1 := by decide +kernel
theorem d_X10_few_69 : decode cX10_few 69 = .ok (.iload_n 3, 1) ∧ 70 = 69 + 1 := by decide +kernel
theorem d_X10_few_70 : decode cX10_few 70 = .ok (.invokevirtual 207, 3) ∧ 73 = 70 + 3 := by decide +kernel
theorem d_X10_few_73 : decode cX10_few 73 = .ok (.istore 5, 2) ∧ 75 = 73 + 2 := by decide +kernel
theorem d_X10_few_75 : decode cX10_few 75 = .ok (.iload 5, 2) ∧ 77 = 75 + 2 := by decide +kernel
theorem d_X10_few_77 : decode cX10_few 77 = .ok (.iconst (-1), 1) ∧ 78 = 77 + 1 := by decide +kernel
theorem d_X10_few_78 : decode cX10_few 78 = .ok (.if_icmp .ne 5, 3) ∧ 81 = 78 + 3 ∧ (78 : Int) + 5 = ((83 : Nat) : Int) := by decide +kernel
theorem d_X10_few_81 : decode cX10_few 81 = .ok (.iconst (-1), 1) ∧ 82 = 81 + 1 := by decide +kernel
theorem d_X10_few_82 : decode cX10_few 82 = .ok (.ireturn, 1) := by decide +kernel
theorem d_X10_few_83 : decode cX10_few 83 = .ok (.iload 4, 2) ∧ 85 = 83 + 2 := by decide +kernel
theorem d_X10_few_85 : decode cX10_few 85 = .ok (.ifCond .ne 9, 3) ∧ 88 = 85 + 3 ∧ (85 : Int) + 9 = ((94 : Nat) : Int) := by decide +kernel
theorem d_X10_few_88 : decode cX10_few 88 = .ok (.iload 5, 2) ∧ 90 = 88 + 2 := by decide +kernel
theorem d_X10_few_90 : decode cX10_few 90 = .ok (.invokestatic 198, 3) ∧ 93 = 90 + 3 := by decide +kernel
theorem d_X10_few_93 : decode cX10_few 93 = .ok (.ireturn, 1) := by decide +kernel
theorem d_X10_few_94 : decode cX10_few 94 = .ok (.iload 4, 2) ∧ 96 = 94 + 2 := by decide +kernel
theorem d_X10_few_96 : decode cX10_few 96 = .ok (.iconst 1, 1) ∧ 97 = 96 + 1 := by decide +kernel
theorem d_X10_few_97 : decode cX10_few 97 = .ok (.if_icmp .ne 8, 3) ∧ 100 = 97 + 3 ∧ (97 : Int) + 8 = ((105 : Nat) : Int) := by decide +kernel
theorem d_X10_few_100 : decode cX10_few 100 = .ok (.iload 5, 2) ∧ 102 = 100 + 2 := by decide +kernel
theorem d_X10_few_102 : decode cX10_few 102 = .ok (.goto 10, 3) ∧ (102 : Int) + (10) = ((112 : Nat) : Int) := by decide +kernel
theorem d_X10_few_105 : decode cX10_few 105 = .ok (.iload 5, 2) ∧ 107 = 105 + 2 := by decide +kernel
theorem d_X10_few_107 : decode cX10_few 107 = .ok (.iload 5, 2) ∧ 109 = 107 + 2 := by decide +kernel
theorem d_X10_few_109 : decode cX10_few 109 = .ok (.iconst 1, 1) ∧ 110 = 109 + 1 := by decide +kernel
theorem d_X10_few_110 : decode cX10_few 110 = .ok (.isub, 1) ∧ 111 = 110 + 1 := by decide +kernel
theorem d_X10_few_111 : decode cX10_few 111 = .ok (.iand, 1) ∧ 112 = 111 + 1 := by decide +kernel
theorem d_X10_few_112 : decode cX10_few 112 = .ok (.invokestatic 210, 3) ∧ 115 = 112 + 3 := by decide +kernel
theorem d_X10_few_115 : decode cX10_few 115 = .ok (.ireturn, 1) := by decide +kernel
theorem d_X10_changed_0 : decode cX10_changed 0 = .ok (.aload_n 0, 1) ∧ 1 = 0 + 1 := by decide +kernel
theorem d_X10_changed_1 : decode cX10_changed 1 = .ok (.iload_n 1, 1) ∧ 2 = 1 + 1 := by decide +kernel
theorem d_X10_changed_2 : decode cX10_changed 2 = .ok (.invokevirtual 172, 3) ∧ 5 = 2 + 3 := by decide +kernel
theorem d_X10_changed_5 : decode cX10_changed 5 = .ok (.ifCond .eq 14, 3) ∧ 8 = 5 + 3 ∧ (5 : Int) + 14 = ((19 : Nat) : Int) := by decide +kernel
theorem d_X10_changed_8 : decode cX10_changed 8 = .ok (.aload_n 0, 1) ∧ 9 = 8 + 1 := by decide +kernel
theorem d_X10_changed_9 : decode cX10_changed 9 = .ok (.getfield 19, 3) ∧ 12 = 9 + 3 := by decide +kernel
theorem d_X10_changed_12 : decode cX10_changed 12 = .ok (.iload_n 2, 1) ∧ 13 = 12 + 1 := by decide +kernel
theorem d_X10_changed_13 : decode cX10_changed 13 = .ok (.invokevirtual 124, 3) ∧ 16 = 13 + 3 := by decide +kernel
theorem d_X10_changed_16 : decode cX10_changed 16 = .ok (.ifCond .ne 5, 3) ∧ 19 = 16 + 3 ∧ (16 : Int) + 5 = ((21 : Nat) : Int) := by decide +kernel
theorem d_X10_changed_19 : decode cX10_changed 19 = .ok (.iconst (-1), 1) ∧ 20 = 19 + 1 := by decide +kernel
theorem d_X10_changed_20 : decode cX10_changed 20 = .ok (.ireturn, 1) := by decide +kernel
theorem d_X10_changed_21 : decode cX10_changed 21 = .ok (.aload_n 0, 1) ∧ 22 = 21 + 1 := by decide +kernel
theorem d_X10_changed_22 : decode cX10_changed 22 = .ok (.iload_n 1, 1) ∧ 23 = 22 + 1 := by decide +kernel
theorem d_X10_changed_23 : decode cX10_changed 23 = .ok (.invokevirtual 175, 3) ∧ 26 = 23 + 3 := by decide +kernel
theorem d_X10_changed_26 : decode cX10_changed 26 = .ok (.aload_n 0, 1) ∧ 27 = 26 + 1 := by decide +kernel
theorem d_X10_changed_27 : decode cX10_changed 27 = .ok (.getfield 10, 3) ∧ 30 = 27 + 3 := by decide +kernel
theorem d_X10_changed_30 : decode cX10_changed 30 = .ok (.getfield 117, 3) ∧ 33 = 30 + 3 := by decide +kernel
theorem d_X10_changed_33 : decode cX10_changed 33 = .ok (.aload_n 0, 1) ∧ 34 = 33 + 1 := by decide +kernel
theorem d_X10_changed_34 : decode cX10_changed 34 = .ok (.getfield 10, 3) ∧ 37 = 34 + 3 := by decide +kernel
theorem d_X10_changed_37 : decode cX10_changed 37 = .ok (.getfield 213, 3) ∧ 40 = 37 + 3 := by decide +kernel
theorem d_X10_changed_40 : decode cX10_changed 40 = .ok (.ixor, 1) ∧ 41 = 40 + 1 := by decide +kernel
theorem d_X10_changed_41 : decode cX10_changed 41 = .ok (.iconst 4, 1) ∧ 42 = 41 + 1 := by decide +kernel
theorem d_X10_changed_42 : decode cX10_changed 42 = .ok (.invokestatic 216, 3) ∧ 45 = 42 + 3 := by decide +kernel
theorem d_X10_changed_45 : decode cX10_changed 45 = .ok (.istore 4, 2) ∧ 47 = 45 + 2 := by decide +kernel
theorem d_X10_changed_47 : decode cX10_changed 47 = .ok (.iconst 1, 1) ∧ 48 = 47 + 1 := by decide +kernel
theorem d_X10_changed_48 : decode cX10_changed 48 = .ok (.iload 4, 2) ∧ 50 = 48 + 2 := by decide +kernel
theorem d_X10_changed_50 : decode cX10_changed 50 = .ok (.invokestatic 198, 3) ∧ 53 = 50 + 3 := by decide +kernel
theorem d_X10_changed_53 : decode cX10_changed 53 = .ok (.ishl, 1) ∧ 54 = 53 + 1 := by decide +kernel
theorem d_X10_changed_54 : decode cX10_changed 54 = .ok (.istore 5, 2) ∧ 56 = 54 + 2 := by decide +kernel
theorem d_X10_changed_56 : decode cX10_changed 56 = .ok (.iconst (-1), 1) ∧ 57 = 56 + 1 := by decide +kernel
theorem d_X10_changed_57 : decode cX10_changed 57 = .ok (.istore 6, 2) ∧ 59 = 57 + 2 := by decide +kernel
theorem d_X10_changed_59 : decode cX10_changed 59 = .ok (.iconst 0, 1) ∧ 60 = 59 + 1 := by decide +kernel
theorem d_X10_changed_60 : decode cX10_changed 60 = .ok (.istore 7, 2) ∧ 62 = 60 + 2 := by decide +kernel
theorem d_X10_changed_62 : decode cX10_changed 62 = .ok (.iconst 0, 1) ∧ 63 = 62 + 1 := by decide +kernel
theorem d_X10_changed_63 : decode cX10_changed 63 = .ok (.istore 8, 2) ∧ 65 = 63 + 2 := by decide +kernel
theorem d_X10_changed_65 : decode cX10_changed 65 = .ok (.iload 8, 2) ∧ 67 = 65 + 2 := by decide +kernel
theorem d_X10_changed_67 : decode cX10_changed 67 = .ok (.iload 5, 2) ∧ 69 = 67 + 2 := by decide +kernel
theorem d_X10_changed_69 : decode cX10_changed 69 = .ok (.if_icmp .ge 80, 3) ∧ 72 = 69 + 3 ∧ (69 : Int) + 80 = ((149 : Nat) : Int) := by decide +kernel
theorem d_X10_changed_72 : decode cX10_changed 72 = .ok (.aload_n 0, 1) ∧ 73 = 72 + 1 := by decide +kernel
theorem d_X10_changed_73 : decode cX10_changed 73 = .ok (.iload_n 2, 1) ∧ 74 = 73 + 1 := by decide +kernel
theorem d_X10_changed_74 : decode cX10_changed 74 = .ok (.aload_n 0, 1) ∧ 75 = 74 + 1 := by decide +kernel
theorem d_X10_changed_75 : decode cX10_changed 75 = .ok (.getfield 10, 3) ∧ 78 = 75 + 3 := by decide +kernel
theorem d_X10_changed_78 : decode cX10_changed 78 = .ok (.invokevirtual 134, 3) ∧ 81 = 78 + 3 := by decide +kernel
theorem d_X10_changed_81 : decode cX10_changed 81 = .ok (.aload_n 0, 1) ∧ 82 = 81 + 1 := by decide +kernel
theorem d_X10_changed_82 : decode cX10_changed 82 = .ok (.getfield 10, 3) ∧ 85 = 82 + 3 := by decide +kernel
theorem d_X10_changed_85 : decode cX10_changed 85 = .ok (.getfield 117, 3) ∧ 88 = 85 + 3 := by decide +kernel
theorem d_X10_changed_88 : decode cX10_changed 88 = .ok (.iload 7, 2) ∧ 90 = 88 + 2 := by decide +kernel
theorem d_X10_changed_90 : decode cX10_changed 90 = .ok (.ixor, 1) ∧ 91 = 90 + 1 := by decide +kernel
theorem d_X10_changed_91 : decode cX10_changed 91 = .ok (.invokevirtual 185, 3) ∧ 94 = 91 + 3 := by decide +kernel
theorem d_X10_changed_94 : decode cX10_changed 94 = .ok (.istore 9, 2) ∧ 96 = 94 + 2 := by decide +kernel
theorem d_X10_changed_96 : decode cX10_changed 96 = .ok (.iload 9, 2) ∧ 98 = 96 + 2 := by decide +kernel
theorem d_X10_changed_98 : decode cX10_changed 98 = .ok (.iconst (-1), 1) ∧ 99 = 98 + 1 := by decide +kernel
theorem d_X10_changed_99 : decode cX10_changed 99 = .ok (.if_icmp .eq 34, 3) ∧ 102 = 99 + 3 ∧ (99 : Int) + 34 = ((133 : Nat) : Int) := by decide +kernel
theorem d_X10_changed_102 : decode cX10_changed 102 = .ok (.iload 6, 2) ∧ 104 = 102 + 2 := by decide +kernel
theorem d_X10_changed_104 : decode cX10_changed 104 = .ok (.iconst (-1), 1) ∧ 105 = 104 + 1 := by decide +kernel
theorem d_X10_changed_105 : decode cX10_changed 105 = .ok (.if_icmp .eq 24, 3) ∧ 108 = 105 + 3 ∧ (105 : Int) + 24 = ((129 : Nat) : Int) := by decide +kernel
theorem d_X10_changed_108 : decode cX10_changed 108 = .ok (.iload_n 3, 1) ∧ 109 = 108 + 1 := by decide +kernel
theorem d_X10_changed_109 : decode cX10_changed 109 = .ok (.ifCond .eq 13, 3) ∧ 112 = 109 + 3 ∧ (109 : Int) + 13 = ((122 : Nat) : Int) := by decide +kernel
theorem d_X10_changed_112 : decode cX10_changed 112 = .ok (.iload 9, 2) ∧ 114 = 112 + 2 := by decide +kernel
theorem d_X10_changed_114 : decode cX10_changed 114 = .ok (.iload 6, 2) ∧ 116 = 114 + 2 := by decide +kernel
theorem d_X10_changed_116 : decode cX10_changed 116 = .ok (.if_icmp .le 17, 3) ∧ 119 = 116 + 3 ∧ (116 : Int) + 17 = ((133 : Nat) : Int) := by decide +kernel
theorem d_X10_changed_119 : decode cX10_changed 119 = .ok (.goto 10, 3) ∧ (119 : Int) + (10) = ((129 : Nat) : Int) := by decide +kernel
theorem d_X10_changed_122 : decode cX10_changed 122 = .ok (.iload 9, 2) ∧ 124 = 122 + 2 := by decide +kernel
theorem d_X10_changed_124 : decode cX10_changed 124 = .ok (.iload 6, 2) ∧ 126 = 124 + 2 := by decide +kernel
theorem d_X10_changed_126 : decode cX10_changed 126 = .ok (.if_icmp .ge 7, 3) ∧ 129 = 126 + 3 ∧ (126 : Int) + 7 = ((133 : Nat) : Int) := by decide +kernel
theorem d_X10_changed_129 : decode cX10_changed 129 = .ok (.iload 9, 2) ∧ 131 = 129 + 2 := by decide +kernel
theorem d_X10_changed_131 : decode cX10_changed 131 = .ok (.istore 6, 2) ∧ 133 = 131 + 2 := by decide +kernel
theorem d_X10_changed_133 : decode cX10_changed 133 = .ok (.iload 7, 2) ∧ 135 = 133 + 2 := by decide +kernel
theorem d_X10_changed_135 : decode cX10_changed 135 = .ok (.iload 4, 2) ∧ 137 = 135 + 2 := by decide +kernel
theorem d_X10_changed_137 : decode cX10_changed 137 = .ok (.isub, 1) ∧ 138 = 137 + 1 := by decide +kernel
theorem d_X10_changed_138 : decode cX10_changed 138 = .ok (.iload 4, 2) ∧ 140 = 138 + 2 := by decide +kernel
theorem d_X10_changed_140 : decode cX10_changed 140 = .ok (.iand, 1) ∧ 141 = 140 + 1 := by decide +kernel
theorem d_X10_changed_141 : decode cX10_changed 141 = .ok (.istore 7, 2) ∧ 143 = 141 + 2 := by decide +kernel
theorem d_X10_changed_143 : decode cX10_changed 143 = .ok (.iinc 8 1, 3) ∧ 146 = 143 + 3 := by decide +kernel
theorem d_X10_changed_146 : decode cX10_changed 146 = .ok (.goto (-81), 3) ∧ (146 : Int) + ((-81)) = ((65 : Nat) : Int) := by decide +kernel
theorem d_X10_changed_149 : decode cX10_changed 149 = .ok (.iload 6, 2) ∧ 151 = 149 + 2 := by decide +kernel
theorem d_X10_changed_151 : decode cX10_changed 151 = .ok (.ireturn, 1) := by decide +kernel
theorem d_X10_lost_0 : decode cX10_lost 0 = .ok (.aload_n 0, 1) ∧ 1 = 0 + 1 := by decide +kernel
theorem d_X10_lost_1 : decode cX10_lost 1 = .ok (.getfield 19, 3) ∧ 4 = 1 + 3 := by decide +kernel
theorem d_X10_lost_4 : decode cX10_lost 4 = .ok (.iload_n 1, 1) ∧ 5 = 4 + 1 := by decide +kernel
theorem d_X10_lost_5 : decode cX10_lost 5 = .ok (.invokevirtual 124, 3) ∧ 8 = 5 + 3 := by decide +kernel
theorem d_X10_lost_8 : decode cX10_lost 8 = .ok (.ifCond .ne 6, 3) ∧ 11 = 8 + 3 ∧ (8 : Int) + 6 = ((14 : Nat) : Int) := by decide +kernel
theorem d_X10_lost_11 : decode cX10_lost 11 = .ok (.ldc 133, 2) ∧ 13 = 11 + 2 := by decide +kernel
theorem d_X10_lost_13 : decode cX10_lost 13 = .ok (.ireturn, 1) := by decide +kernel
theorem d_X10_lost_14 : decode cX10_lost 14 = .ok (.aload_n 0, 1) ∧ 15 = 14 + 1 := by decide +kernel
theorem d_X10_lost_15 : decode cX10_lost 15 = .ok (.getfield 10, 3) ∧ 18 = 15 + 3 := by decide +kernel
theorem d_X10_lost_18 : decode cX10_lost 18 = .ok (.getfield 117, 3) ∧ 21 = 18 + 3 := by decide +kernel
theorem d_X10_lost_21 : decode cX10_lost 21 = .ok (.invokestatic 198, 3) ∧ 24 = 21 + 3 := by decide +kernel
theorem d_X10_lost_24 : decode cX10_lost 24 = .ok (.istore_n 3, 1) ∧ 25 = 24 + 1 := by decide +kernel
theorem d_X10_lost_25 : decode cX10_lost 25 = .ok (.aload_n 0, 1) ∧ 26 = 25 + 1 := by decide +kernel
theorem d_X10_lost_26 : decode cX10_lost 26 = .ok (.getfield 10, 3) ∧ 29 = 26 + 3 := by decide +kernel
theorem d_X10_lost_29 : decode cX10_lost 29 = .ok (.getfield 103, 3) ∧ 32 = 29 + 3 := by decide +kernel
theorem d_X10_lost_32 : decode cX10_lost 32 = .ok (.iload_n 3, 1) ∧ 33 = 32 + 1 := by decide +kernel
theorem d_X10_lost_33 : decode cX10_lost 33 = .ok (.isub, 1) ∧ 34 = 33 + 1 := by decide +kernel
theorem d_X10_lost_34 : decode cX10_lost 34 = .ok (.istore 4, 2) ∧ 36 = 34 + 2 := by decide +kernel
theorem d_X10_lost_36 : decode cX10_lost 36 = .ok (.iload_n 3, 1) ∧ 37 = 36 + 1 := by decide +kernel
theorem d_X10_lost_37 : decode cX10_lost 37 = .ok (.ifCond .le 8, 3) ∧ 40 = 37 + 3 ∧ (37 : Int) + 8 = ((45 : Nat) : Int) := by decide +kernel
theorem d_X10_lost_40 : decode cX10_lost 40 = .ok (.iload 4, 2) ∧ 42 = 40 + 2 := by decide +kernel
theorem d_X10_lost_42 : decode cX10_lost 42 = .ok (.ifCond .gt 6, 3) ∧ 45 = 42 + 3 ∧ (42 : Int) + 6 = ((48 : Nat) : Int) := by decide +kernel
theorem d_X10_lost_45 : decode cX10_lost 45 = .ok (.ldc 133, 2) ∧ 47 = 45 + 2 := by decide +kernel
theorem d_X10_lost_47 : decode cX10_lost 47 = .ok (.ireturn, 1) := by decide +kernel
theorem d_X10_lost_48 : decode cX10_lost 48 = .ok (.iconst 0, 1) ∧ 49 = 48 + 1 := by decide +kernel
theorem d_X10_lost_49 : decode cX10_lost 49 = .ok (.istore 5, 2) ∧ 51 = 49 + 2 := by decide +kernel
theorem d_X10_lost_51 : decode cX10_lost 51 = .ok (.iconst 0, 1) ∧ 52 = 51 + 1 := by decide +kernel
theorem d_X10_lost_52 : decode cX10_lost 52 = .ok (.istore 6, 2) ∧ 54 = 52 + 2 := by decide +kernel
theorem d_X10_lost_54 : decode cX10_lost 54 = .ok (.iconst 0, 1) ∧ 55 = 54 + 1 := by decide +kernel
theorem d_X10_lost_55 : decode cX10_lost 55 = .ok (.istore 7, 2) ∧ 57 = 55 + 2 := by decide +kernel
theorem d_X10_lost_57 : decode cX10_lost 57 = .ok (.iload 7, 2) ∧ 59 = 57 + 2 := by decide +kernel
theorem d_X10_lost_59 : decode cX10_lost 59 = .ok (.aload_n 0, 1) ∧ 60 = 59 + 1 := by decide +kernel
theorem d_X10_lost_60 : decode cX10_lost 60 = .ok (.getfield 10, 3) ∧ 63 = 60 + 3 := by decide +kernel
theorem d_X10_lost_63 : decode cX10_lost 63 = .ok (.getfield 103, 3) ∧ 66 = 63 + 3 := by decide +kernel
theorem d_X10_lost_66 : decode cX10_lost 66 = .ok (.if_icmp .ge 96, 3) ∧ 69 = 66 + 3 ∧ (66 : Int) + 96 = ((162 : Nat) : Int) := by decide +kernel
theorem d_X10_lost_69 : decode cX10_lost 69 = .ok (.aload_n 0, 1) ∧ 70 = 69 + 1 := by decide +kernel
theorem d_X10_lost_70 : decode cX10_lost 70 = .ok (.getfield 10, 3) ∧ 73 = 70 + 3 := by decide +kernel
theorem d_X10_lost_73 : decode cX10_lost 73 = .ok (.getfield 117, 3) ∧ 76 = 73 + 3 := by decide +kernel
theorem d_X10_lost_76 : decode cX10_lost 76 = .ok (.iload 7, 2) ∧ 78 = 76 + 2 := by decide +kernel
theorem d_X10_lost_78 : decode cX10_lost 78 = .ok (.ishr, 1) ∧ 79 = 78 + 1 := by decide +kernel
theorem d_X10_lost_79 : decode cX10_lost 79 = .ok (.iconst 1, 1) ∧ 80 = 79 + 1 := by decide +kernel
theorem d_X10_lost_80 : decode cX10_lost 80 = .ok (.iand, 1) ∧ 81 = 80 + 1 := by decide +kernel
theorem d_X10_lost_81 : decode cX10_lost 81 = .ok (.iconst 1, 1) ∧ 82 = 81 + 1 := by decide +kernel
theorem d_X10_lost_82 : decode cX10_lost 82 = .ok (.if_icmp .ne 7, 3) ∧ 85 = 82 + 3 ∧ (82 : Int) + 7 = ((89 : Nat) : Int) := by decide +kernel
theorem d_X10_lost_85 : decode cX10_lost 85 = .ok (.iconst 1, 1) ∧ 86 = 85 + 1 := by decide +kernel
theorem d_X10_lost_86 : decode cX10_lost 86 = .ok (.goto 4, 3) ∧ (86 : Int) + (4) = ((90 : Nat) : Int) := by decide +kernel
theorem d_X10_lost_89 : decode cX10_lost 89 = .ok (.iconst 0, 1) ∧ 90 = 89 + 1 := by decide +kernel
theorem d_X10_lost_90 : decode cX10_lost 90 = .ok (.istore 8, 2) ∧ 92 = 90 + 2 := by decide +kernel
theorem d_X10_lost_92 : decode cX10_lost 92 = .ok (.aload_n 0, 1) ∧ 93 = 92 + 1 := by decide +kernel
theorem d_X10_lost_93 : decode cX10_lost 93 = .ok (.getfield 19, 3) ∧ 96 = 93 + 3 := by decide +kernel
theorem d_X10_lost_96 : decode cX10_lost 96 = .ok (.iload_n 1, 1) ∧ 97 = 96 + 1 := by decide +kernel
theorem d_X10_lost_97 : decode cX10_lost 97 = .ok (.iload 7, 2) ∧ 99 = 97 + 2 := by decide +kernel
theorem d_X10_lost_99 : decode cX10_lost 99 = .ok (.invokevirtual 219, 3) ∧ 102 = 99 + 3 := by decide +kernel
theorem d_X10_lost_102 : decode cX10_lost 102 = .ok (.istore 9, 2) ∧ 104 = 102 + 2 := by decide +kernel
theorem d_X10_lost_104 : decode cX10_lost 104 = .ok (.iload 9, 2) ∧ 106 = 104 + 2 := by decide +kernel
theorem d_X10_lost_106 : decode cX10_lost 106 = .ok (.iconst (-1), 1) ∧ 107 = 106 + 1 := by decide +kernel
theorem d_X10_lost_107 : decode cX10_lost 107 = .ok (.if_icmp .ne 17, 3) ∧ 110 = 107 + 3 ∧ (107 : Int) + 17 = ((124 : Nat) : Int) := by decide +kernel
theorem d_X10_lost_110 : decode cX10_lost 110 = .ok (.iload 8, 2) ∧ 112 = 110 + 2 := by decide +kernel
theorem d_X10_lost_112 : decode cX10_lost 112 = .ok (.iload_n 2, 1) ∧ 113 = 112 + 1 := by decide +kernel
theorem d_X10_lost_113 : decode cX10_lost 113 = .ok (.if_icmp .ne 8, 3) ∧ 116 = 113 + 3 ∧ (113 : Int) + 8 = ((121 : Nat) : Int) := by decide +kernel
theorem d_X10_lost_116 : decode cX10_lost 116 = .ok (.bipush 99, 2) ∧ 118 = 116 + 2 := by decide +kernel
theorem d_X10_lost_118 : decode cX10_lost 118 = .ok (.goto 4, 3) ∧ (118 : Int) + (4) = ((122 : Nat) : Int) := by decide +kernel
theorem d_X10_lost_121 : decode cX10_lost 121 = .ok (.iconst 0, 1) ∧ 122 = 121 + 1 := by decide +kernel
theorem d_X10_lost_122 : decode cX10_lost 122 = .ok (.istore 9, 2) ∧ 124 = 122 + 2 := by decide +kernel
theorem d_X10_lost_124 : decode cX10_lost 124 = .ok (.iload 5, 2) ∧ 126 = 124 + 2 := by decide +kernel
theorem d_X10_lost_126 : decode cX10_lost 126 = .ok (.iload 8, 2) ∧ 128 = 126 + 2 := by decide +kernel
theorem d_X10_lost_128 : decode cX10_lost 128 = .ok (.ifCond .eq 8, 3) ∧ 131 = 128 + 3 ∧ (128 : Int) + 8 = ((136 : Nat) : Int) := by decide +kernel
theorem d_X10_lost_131 : decode cX10_lost 131 = .ok (.iload 9, 2) ∧ 133 = 131 + 2 := by decide +kernel
theorem d_X10_lost_133 : decode cX10_lost 133 = .ok (.goto 4, 3) ∧ (133 : Int) + (4) = ((137 : Nat) : Int) := by decide +kernel
theorem d_X10_lost_136 : decode cX10_lost 136 = .ok (.iconst 0, 1) ∧ 137 = 136 + 1 := by decide +kernel
theorem d_X10_lost_137 : decode cX10_lost 137 = .ok (.iadd, 1) ∧ 138 = 137 + 1 := by decide +kernel
theorem d_X10_lost_138 : decode cX10_lost 138 = .ok (.istore 5, 2) ∧ 140 = 138 + 2 := by decide +kernel
theorem d_X10_lost_140 : decode cX10_lost 140 = .ok (.iload 6, 2) ∧ 142 = 140 + 2 := by decide +kernel
theorem d_X10_lost_142 : decode cX10_lost 142 = .ok (.iload 8, 2) ∧ 144 = 142 + 2 := by decide +kernel
theorem d_X10_lost_144 : decode cX10_lost 144 = .ok (.ifCond .eq 7, 3) ∧ 147 = 144 + 3 ∧ (144 : Int) + 7 = ((151 : Nat) : Int) := by decide +kernel
theorem d_X10_lost_147 : decode cX10_lost 147 = .ok (.iconst 0, 1) ∧ 148 = 147 + 1 := by decide +kernel
theorem d_X10_lost_148 : decode cX10_lost 148 = .ok (.goto 5, 3) ∧ (148 : Int) + (5) = ((153 : Nat) : Int) := by decide +kernel
theorem d_X10_lost_151 : decode cX10_lost 151 = .ok (.iload 9, 2) ∧ 153 = 151 + 2 := by decide +kernel
theorem d_X10_lost_153 : decode cX10_lost 153 = .ok (.iadd, 1) ∧ 154 = 153 + 1 := by decide +kernel
theorem d_X10_lost_154 : decode cX10_lost 154 = .ok (.istore 6, 2) ∧ 156 = 154 + 2 := by decide +kernel
theorem d_X10_lost_156 : decode cX10_lost 156 = .ok (.iinc 7 1, 3) ∧ 159 = 156 + 3 := by decide +kernel
theorem d_X10_lost_159 : decode cX10_lost 159 = .ok (.goto (-102), 3) ∧ (159 : Int) + ((-102)) = ((57 : Nat) : Int) := by decide +kernel
theorem d_X10_lost_162 : decode cX10_lost 162 = .ok (.iload 5, 2) ∧ 164 = 162 + 2 := by decide +kernel
theorem d_X10_lost_164 : decode cX10_lost 164 = .ok (.iload 4, 2) ∧ 166 = 164 + 2 := by decide +kernel
theorem d_X10_lost_166 : decode cX10_lost 166 = .ok (.imul, 1) ∧ 167 = 166 + 1 := by decide +kernel
theorem d_X10_lost_167 : decode cX10_lost 167 = .ok (.iload 6, 2) ∧ 169 = 167 + 2 := by decide +kernel
theorem d_X10_lost_169 : decode cX10_lost 169 = .ok (.iload_n 3, 1) ∧ 170 = 169 + 1 := by decide +kernel
theorem d_X10_lost_170 : decode cX10_lost 170 = .ok (.imul, 1) ∧ 171 = 170 + 1 := by decide +kernel
theorem d_X10_lost_171 : decode cX10_lost 171 = .ok (.isub, 1) ∧ 172 = 171 + 1 := by decide +kernel
theorem d_X10_lost_172 : decode cX10_lost 172 = .ok (.sipush 1000, 3) ∧ 175 = 172 + 3 := by decide +kernel
theorem d_X10_lost_175 : decode cX10_lost 175 = .ok (.imul, 1) ∧ 176 = 175 + 1 := by decide +kernel
theorem d_X10_lost_176 : decode cX10_lost 176 = .ok (.iload_n 3, 1) ∧ 177 = 176 + 1 := by decide +kernel
theorem d_X10_lost_177 : decode cX10_lost 177 = .ok (.iload 4, 2) ∧ 179 = 177 + 2 := by decide +kernel
theorem d_X10_lost_179 : decode cX10_lost 179 = .ok (.imul, 1) ∧ 180 = 179 + 1 := by decide +kernel
theorem d_X10_lost_180 : decode cX10_lost 180 = .ok (.idiv, 1) ∧ 181 = 180 + 1 := by decide +kernel
theorem d_X10_lost_181 : decode cX10_lost 181 = .ok (.ireturn, 1) := by decide +kernel
theorem d_X10_costs_0 : decode cX10_costs 0 = .ok (.iload_n 1, 1) ∧ 1 = 0 + 1 := by decide +kernel
theorem d_X10_costs_1 : decode cX10_costs 1 = .ok (.iconst 1, 1) ∧ 2 = 1 + 1 := by decide +kernel
theorem d_X10_costs_2 : decode cX10_costs 2 = .ok (.if_icmp .lt 10, 3) ∧ 5 = 2 + 3 ∧ (2 : Int) + 10 = ((12 : Nat) : Int) := by decide +kernel
theorem d_X10_costs_5 : decode cX10_costs 5 = .ok (.iload_n 1, 1) ∧ 6 = 5 + 1 := by decide +kernel
theorem d_X10_costs_6 : decode cX10_costs 6 = .ok (.sipush 9999, 3) ∧ 9 = 6 + 3 := by decide +kernel
theorem d_X10_costs_9 : decode cX10_costs 9 = .ok (.if_icmp .le 5, 3) ∧ 12 = 9 + 3 ∧ (9 : Int) + 5 = ((14 : Nat) : Int) := by decide +kernel
theorem d_X10_costs_12 : decode cX10_costs 12 = .ok (.iconst 0, 1) ∧ 13 = 12 + 1 := by decide +kernel
theorem d_X10_costs_13 : decode cX10_costs 13 = .ok (.ireturn, 1) := by decide +kernel
theorem d_X10_costs_14 : decode cX10_costs 14 = .ok (.aload_n 0, 1) ∧ 15 = 14 + 1 := by decide +kernel
theorem d_X10_costs_15 : decode cX10_costs 15 = .ok (.iload_n 1, 1) ∧ 16 = 15 + 1 := by decide +kernel
theorem d_X10_costs_16 : decode cX10_costs 16 = .ok (.putfield 61, 3) ∧ 19 = 16 + 3 := by decide +kernel
theorem d_X10_costs_19 : decode cX10_costs 19 = .ok (.iconst 1, 1) ∧ 20 = 19 + 1 := by decide +kernel
theorem d_X10_costs_20 : decode cX10_costs 20 = .ok (.ireturn, 1) := by decide +kernel
theorem d_X10_back_0 : decode cX10_back 0 = .ok (.aload_n 0, 1) ∧ 1 = 0 + 1 := by decide +kernel
theorem d_X10_back_1 : decode cX10_back 1 = .ok (.getfield 19, 3) ∧ 4 = 1 + 3 := by decide +kernel
theorem d_X10_back_4 : decode cX10_back 4 = .ok (.iload_n 1, 1) ∧ 5 = 4 + 1 := by decide +kernel
theorem d_X10_back_5 : decode cX10_back 5 = .ok (.invokevirtual 192, 3) ∧ 8 = 5 + 3 := by decide +kernel
theorem d_X10_back_8 : decode cX10_back 8 = .ok (.ifCond .eq 11, 3) ∧ 11 = 8 + 3 ∧ (8 : Int) + 11 = ((19 : Nat) : Int) := by decide +kernel
theorem d_X10_back_11 : decode cX10_back 11 = .ok (.iload_n 2, 1) ∧ 12 = 11 + 1 := by decide +kernel
theorem d_X10_back_12 : decode cX10_back 12 = .ok (.iconst 1, 1) ∧ 13 = 12 + 1 := by decide +kernel
theorem d_X10_back_13 : decode cX10_back 13 = .ok (.invokestatic 99, 3) ∧ 16 = 13 + 3 := by decide +kernel
theorem d_X10_back_16 : decode cX10_back 16 = .ok (.ifCond .ne 6, 3) ∧ 19 = 16 + 3 ∧ (16 : Int) + 6 = ((22 : Nat) : Int) := by decide +kernel
theorem d_X10_back_19 : decode cX10_back 19 = .ok (.ldc 133, 2) ∧ 21 = 19 + 2 := by decide +kernel
theorem d_X10_back_21 : decode cX10_back 21 = .ok (.ireturn, 1) := by decide +kernel
theorem d_X10_back_22 : decode cX10_back 22 = .ok (.lconst 0, 1) ∧ 23 = 22 + 1 := by decide +kernel
theorem d_X10_back_23 : decode cX10_back 23 = .ok (.lstore_n 3, 1) ∧ 24 = 23 + 1 := by decide +kernel
theorem d_X10_back_24 : decode cX10_back 24 = .ok (.lconst 0, 1) ∧ 25 = 24 + 1 := by decide +kernel
theorem d_X10_back_25 : decode cX10_back 25 = .ok (.lstore 5, 2) ∧ 27 = 25 + 2 := by decide +kernel
theorem d_X10_back_27 : decode cX10_back 27 = .ok (.iconst (-1), 1) ∧ 28 = 27 + 1 := by decide +kernel
theorem d_X10_back_28 : decode cX10_back 28 = .ok (.istore 7, 2) ∧ 30 = 28 + 2 := by decide +kernel
theorem d_X10_back_30 : decode cX10_back 30 = .ok (.iconst 0, 1) ∧ 31 = 30 + 1 := by decide +kernel
theorem d_X10_back_31 : decode cX10_back 31 = .ok (.istore 8, 2) ∧ 33 = 31 + 2 := by decide +kernel
theorem d_X10_back_33 : decode cX10_back 33 = .ok (.iload 8, 2) ∧ 35 = 33 + 2 := by decide +kernel
theorem d_X10_back_35 : decode cX10_back 35 = .ok (.aload_n 0, 1) ∧ 36 = 35 + 1 := by decide +kernel
theorem d_X10_back_36 : decode cX10_back 36 = .ok (.getfield 19, 3) ∧ 39 = 36 + 3 := by decide +kernel
theorem d_X10_back_39 : decode cX10_back 39 = .ok (.getfield 120, 3) ∧ 42 = 39 + 3 := by decide +kernel
theorem d_X10_back_42 : decode cX10_back 42 = .ok (.if_icmp .ge 83, 3) ∧ 45 = 42 + 3 ∧ (42 : Int) + 83 = ((125 : Nat) : Int) := by decide +kernel
theorem d_X10_back_45 : decode cX10_back 45 = .ok (.iload_n 1, 1) ∧ 46 = 45 + 1 := by decide +kernel
theorem d_X10_back_46 : decode cX10_back 46 = .ok (.iload 8, 2) ∧ 48 = 46 + 2 := by decide +kernel
theorem d_X10_back_48 : decode cX10_back 48 = .ok (.ishr, 1) ∧ 49 = 48 + 1 := by decide +kernel
theorem d_X10_back_49 : decode cX10_back 49 = .ok (.iconst 1, 1) ∧ 50 = 49 + 1 := by decide +kernel
theorem d_X10_back_50 : decode cX10_back 50 = .ok (.iand, 1) ∧ 51 = 50 + 1 := by decide +kernel
theorem d_X10_back_51 : decode cX10_back 51 = .ok (.iconst 1, 1) ∧ 52 = 51 + 1 := by decide +kernel
theorem d_X10_back_52 : decode cX10_back 52 = .ok (.if_icmp .ne 12, 3) ∧ 55 = 52 + 3 ∧ (52 : Int) + 12 = ((64 : Nat) : Int) := by decide +kernel
theorem d_X10_back_55 : decode cX10_back 55 = .ok (.aload_n 0, 1) ∧ 56 = 55 + 1 := by decide +kernel
theorem d_X10_back_56 : decode cX10_back 56 = .ok (.iload 8, 2) ∧ 58 = 56 + 2 := by decide +kernel
theorem d_X10_back_58 : decode cX10_back 58 = .ok (.invokevirtual 222, 3) ∧ 61 = 58 + 3 := by decide +kernel
theorem d_X10_back_61 : decode cX10_back 61 = .ok (.goto 5, 3) ∧ (61 : Int) + (5) = ((66 : Nat) : Int) := by decide +kernel
theorem d_X10_back_64 : decode cX10_back 64 = .ok (.ldc 133, 2) ∧ 66 = 64 + 2 := by decide +kernel
theorem d_X10_back_66 : decode cX10_back 66 = .ok (.istore 9, 2) ∧ 68 = 66 + 2 := by decide +kernel
theorem d_X10_back_68 : decode cX10_back 68 = .ok (.iload 9, 2) ∧ 70 = 68 + 2 := by decide +kernel
theorem d_X10_back_70 : decode cX10_back 70 = .ok (.ldc 133, 2) ∧ 72 = 70 + 2 := by decide +kernel
theorem d_X10_back_72 : decode cX10_back 72 = .ok (.if_icmp .eq 47, 3) ∧ 75 = 72 + 3 ∧ (72 : Int) + 47 = ((119 : Nat) : Int) := by decide +kernel
theorem d_X10_back_75 : decode cX10_back 75 = .ok (.aload_n 0, 1) ∧ 76 = 75 + 1 := by decide +kernel
theorem d_X10_back_76 : decode cX10_back 76 = .ok (.getfield 19, 3) ∧ 79 = 76 + 3 := by decide +kernel
theorem d_X10_back_79 : decode cX10_back 79 = .ok (.getfield 225, 3) ∧ 82 = 79 + 3 := by decide +kernel
theorem d_X10_back_82 : decode cX10_back 82 = .ok (.iload 8, 2) ∧ 84 = 82 + 2 := by decide +kernel
theorem d_X10_back_84 : decode cX10_back 84 = .ok (.iaload, 1) ∧ 85 = 84 + 1 := by decide +kernel
theorem d_X10_back_85 : decode cX10_back 85 = .ok (.i2l, 1) ∧ 86 = 85 + 1 := by decide +kernel
theorem d_X10_back_86 : decode cX10_back 86 = .ok (.iload 9, 2) ∧ 88 = 86 + 2 := by decide +kernel
theorem d_X10_back_88 : decode cX10_back 88 = .ok (.i2l, 1) ∧ 89 = 88 + 1 := by decide +kernel
theorem d_X10_back_89 : decode cX10_back 89 = .ok (.lmul, 1) ∧ 90 = 89 + 1 := by decide +kernel
theorem d_X10_back_90 : decode cX10_back 90 = .ok (.lstore 10, 2) ∧ 92 = 90 + 2 := by decide +kernel
theorem d_X10_back_92 : decode cX10_back 92 = .ok (.lload_n 3, 1) ∧ 93 = 92 + 1 := by decide +kernel
theorem d_X10_back_93 : decode cX10_back 93 = .ok (.lload 10, 2) ∧ 95 = 93 + 2 := by decide +kernel
theorem d_X10_back_95 : decode cX10_back 95 = .ok (.ladd, 1) ∧ 96 = 95 + 1 := by decide +kernel
theorem d_X10_back_96 : decode cX10_back 96 = .ok (.lstore_n 3, 1) ∧ 97 = 96 + 1 := by decide +kernel
theorem d_X10_back_97 : decode cX10_back 97 = .ok (.iload 7, 2) ∧ 99 = 97 + 2 := by decide +kernel
theorem d_X10_back_99 : decode cX10_back 99 = .ok (.iconst (-1), 1) ∧ 100 = 99 + 1 := by decide +kernel
theorem d_X10_back_100 : decode cX10_back 100 = .ok (.if_icmp .eq 11, 3) ∧ 103 = 100 + 3 ∧ (100 : Int) + 11 = ((111 : Nat) : Int) := by decide +kernel
theorem d_X10_back_103 : decode cX10_back 103 = .ok (.lload 10, 2) ∧ 105 = 103 + 2 := by decide +kernel
theorem d_X10_back_105 : decode cX10_back 105 = .ok (.lload 5, 2) ∧ 107 = 105 + 2 := by decide +kernel
theorem d_X10_back_107 : decode cX10_back 107 = .ok (.lcmp, 1) ∧ 108 = 107 + 1 := by decide +kernel
theorem d_X10_back_108 : decode cX10_back 108 = .ok (.ifCond .le 11, 3) ∧ 111 = 108 + 3 ∧ (108 : Int) + 11 = ((119 : Nat) : Int) := by decide +kernel
theorem d_X10_back_111 : decode cX10_back 111 = .ok (.iload 8, 2) ∧ 113 = 111 + 2 := by decide +kernel
theorem d_X10_back_113 : decode cX10_back 113 = .ok (.istore 7, 2) ∧ 115 = 113 + 2 := by decide +kernel
theorem d_X10_back_115 : decode cX10_back 115 = .ok (.lload 10, 2) ∧ 117 = 115 + 2 := by decide +kernel
theorem d_X10_back_117 : decode cX10_back 117 = .ok (.lstore 5, 2) ∧ 119 = 117 + 2 := by decide +kernel
theorem d_X10_back_119 : decode cX10_back 119 = .ok (.iinc 8 1, 3) ∧ 122 = 119 + 3 := by decide +kernel
theorem d_X10_back_122 : decode cX10_back 122 = .ok (.goto (-89), 3) ∧ (122 : Int) + ((-89)) = ((33 : Nat) : Int) := by decide +kernel
theorem d_X10_back_125 : decode cX10_back 125 = .ok (.iload 7, 2) ∧ 127 = 125 + 2 := by decide +kernel
theorem d_X10_back_127 : decode cX10_back 127 = .ok (.iconst (-1), 1) ∧ 128 = 127 + 1 := by decide +kernel
theorem d_X10_back_128 : decode cX10_back 128 = .ok (.if_icmp .eq 11, 3) ∧ 131 = 128 + 3 ∧ (128 : Int) + 11 = ((139 : Nat) : Int) := by decide +kernel
theorem d_X10_back_131 : decode cX10_back 131 = .ok (.aload_n 0, 1) ∧ 132 = 131 + 1 := by decide +kernel
theorem d_X10_back_132 : decode cX10_back 132 = .ok (.getfield 61, 3) ∧ 135 = 132 + 3 := by decide +kernel
theorem d_X10_back_135 : decode cX10_back 135 = .ok (.iconst 1, 1) ∧ 136 = 135 + 1 := by decide +kernel
theorem d_X10_back_136 : decode cX10_back 136 = .ok (.if_icmp .ge 6, 3) ∧ 139 = 136 + 3 ∧ (136 : Int) + 6 = ((142 : Nat) : Int) := by decide +kernel
theorem d_X10_back_139 : decode cX10_back 139 = .ok (.ldc 133, 2) ∧ 141 = 139 + 2 := by decide +kernel
theorem d_X10_back_141 : decode cX10_back 141 = .ok (.ireturn, 1) := by decide +kernel
theorem d_X10_back_142 : decode cX10_back 142 = .ok (.iload_n 2, 1) ∧ 143 = 142 + 1 := by decide +kernel
theorem d_X10_back_143 : decode cX10_back 143 = .ok (.ifCond .ne 14, 3) ∧ 146 = 143 + 3 ∧ (143 : Int) + 14 = ((157 : Nat) : Int) := by decide +kernel
theorem d_X10_back_146 : decode cX10_back 146 = .ok (.lload_n 3, 1) ∧ 147 = 146 + 1 := by decide +kernel
theorem d_X10_back_147 : decode cX10_back 147 = .ok (.aload_n 0, 1) ∧ 148 = 147 + 1 := by decide +kernel
theorem d_X10_back_148 : decode cX10_back 148 = .ok (.getfield 61, 3) ∧ 151 = 148 + 3 := by decide +kernel
theorem d_X10_back_151 : decode cX10_back 151 = .ok (.i2l, 1) ∧ 152 = 151 + 1 := by decide +kernel
theorem d_X10_back_152 : decode cX10_back 152 = .ok (.ldiv, 1) ∧ 153 = 152 + 1 := by decide +kernel
theorem d_X10_back_153 : decode cX10_back 153 = .ok (.l2i, 1) ∧ 154 = 153 + 1 := by decide +kernel
theorem d_X10_back_154 : decode cX10_back 154 = .ok (.goto 5, 3) ∧ (154 : Int) + (5) = ((159 : Nat) : Int) := by decide +kernel
theorem d_X10_back_157 : decode cX10_back 157 = .ok (.iload 7, 2) ∧ 159 = 157 + 2 := by decide +kernel
theorem d_X10_back_159 : decode cX10_back 159 = .ok (.ireturn, 1) := by decide +kernel
theorem d_X10_course_0 : decode cX10_course 0 = .ok (.aload_n 0, 1) ∧ 1 = 0 + 1 := by decide +kernel
theorem d_X10_course_1 : decode cX10_course 1 = .ok (.iload_n 1, 1) ∧ 2 = 1 + 1 := by decide +kernel
theorem d_X10_course_2 : decode cX10_course 2 = .ok (.invokevirtual 172, 3) ∧ 5 = 2 + 3 := by decide +kernel
theorem d_X10_course_5 : decode cX10_course 5 = .ok (.ifCond .eq 27, 3) ∧ 8 = 5 + 3 ∧ (5 : Int) + 27 = ((32 : Nat) : Int) := by decide +kernel
theorem d_X10_course_8 : decode cX10_course 8 = .ok (.iload_n 2, 1) ∧ 9 = 8 + 1 := by decide +kernel
theorem d_X10_course_9 : decode cX10_course 9 = .ok (.iconst 3, 1) ∧ 10 = 9 + 1 := by decide +kernel
theorem d_X10_course_10 : decode cX10_course 10 = .ok (.invokestatic 99, 3) ∧ 13 = 10 + 3 := by decide +kernel
theorem d_X10_course_13 : decode cX10_course 13 = .ok (.ifCond .eq 19, 3) ∧ 16 = 13 + 3 ∧ (13 : Int) + 19 = ((32 : Nat) : Int) := by decide +kernel
theorem d_X10_course_16 : decode cX10_course 16 = .ok (.iload_n 3, 1) ∧ 17 = 16 + 1 := by decide +kernel
theorem d_X10_course_17 : decode cX10_course 17 = .ok (.invokestatic 182, 3) ∧ 20 = 17 + 3 := by decide +kernel
theorem d_X10_course_20 : decode cX10_course 20 = .ok (.ifCond .eq 12, 3) ∧ 23 = 20 + 3 ∧ (20 : Int) + 12 = ((32 : Nat) : Int) := by decide +kernel
theorem d_X10_course_23 : decode cX10_course 23 = .ok (.iload 4, 2) ∧ 25 = 23 + 2 := by decide +kernel
theorem d_X10_course_25 : decode cX10_course 25 = .ok (.iconst 2, 1) ∧ 26 = 25 + 1 := by decide +kernel
theorem d_X10_course_26 : decode cX10_course 26 = .ok (.invokestatic 99, 3) ∧ 29 = 26 + 3 := by decide +kernel
theorem d_X10_course_29 : decode cX10_course 29 = .ok (.ifCond .ne 5, 3) ∧ 32 = 29 + 3 ∧ (29 : Int) + 5 = ((34 : Nat) : Int) := by decide +kernel
theorem d_X10_course_32 : decode cX10_course 32 = .ok (.iconst (-1), 1) ∧ 33 = 32 + 1 := by decide +kernel
theorem d_X10_course_33 : decode cX10_course 33 = .ok (.ireturn, 1) := by decide +kernel
theorem d_X10_course_34 : decode cX10_course 34 = .ok (.aload_n 0, 1) ∧ 35 = 34 + 1 := by decide +kernel
theorem d_X10_course_35 : decode cX10_course 35 = .ok (.iload_n 1, 1) ∧ 36 = 35 + 1 := by decide +kernel
theorem d_X10_course_36 : decode cX10_course 36 = .ok (.invokevirtual 175, 3) ∧ 39 = 36 + 3 := by decide +kernel
theorem d_X10_course_39 : decode cX10_course 39 = .ok (.iconst 0, 1) ∧ 40 = 39 + 1 := by decide +kernel
theorem d_X10_course_40 : decode cX10_course 40 = .ok (.istore 5, 2) ∧ 42 = 40 + 2 := by decide +kernel
theorem d_X10_course_42 : decode cX10_course 42 = .ok (.aload_n 0, 1) ∧ 43 = 42 + 1 := by decide +kernel
theorem d_X10_course_43 : decode cX10_course 43 = .ok (.getfield 19, 3) ∧ 46 = 43 + 3 := by decide +kernel
theorem d_X10_course_46 : decode cX10_course 46 = .ok (.iload_n 2, 1) ∧ 47 = 46 + 1 := by decide +kernel
theorem d_X10_course_47 : decode cX10_course 47 = .ok (.invokevirtual 228, 3) ∧ 50 = 47 + 3 := by decide +kernel
theorem d_X10_course_50 : decode cX10_course 50 = .ok (.istore 6, 2) ∧ 52 = 50 + 2 := by decide +kernel
theorem d_X10_course_52 : decode cX10_course 52 = .ok (.iload 6, 2) ∧ 54 = 52 + 2 := by decide +kernel
theorem d_X10_course_54 : decode cX10_course 54 = .ok (.invokestatic 198, 3) ∧ 57 = 54 + 3 := by decide +kernel
theorem d_X10_course_57 : decode cX10_course 57 = .ok (.istore 7, 2) ∧ 59 = 57 + 2 := by decide +kernel
theorem d_X10_course_59 : decode cX10_course 59 = .ok (.iconst 0, 1) ∧ 60 = 59 + 1 := by decide +kernel
theorem d_X10_course_60 : decode cX10_course 60 = .ok (.istore 8, 2) ∧ 62 = 60 + 2 := by decide +kernel
theorem d_X10_course_62 : decode cX10_course 62 = .ok (.iload 8, 2) ∧ 64 = 62 + 2 := by decide +kernel
theorem d_X10_course_64 : decode cX10_course 64 = .ok (.iload 7, 2) ∧ 66 = 64 + 2 := by decide +kernel
theorem d_X10_course_66 : decode cX10_course 66 = .ok (.if_icmp .ge 88, 3) ∧ 69 = 66 + 3 ∧ (66 : Int) + 88 = ((154 : Nat) : Int) := by decide +kernel
theorem d_X10_course_69 : decode cX10_course 69 = .ok (.aload_n 0, 1) ∧ 70 = 69 + 1 := by decide +kernel
theorem d_X10_course_70 : decode cX10_course 70 = .ok (.getfield 19, 3) ∧ 73 = 70 + 3 := by decide +kernel
theorem d_X10_course_73 : decode cX10_course 73 = .ok (.getfield 231, 3) ∧ 76 = 73 + 3 := by decide +kernel
theorem d_X10_course_76 : decode cX10_course 76 = .ok (.iload 6, 2) ∧ 78 = 76 + 2 := by decide +kernel
theorem d_X10_course_78 : decode cX10_course 78 = .ok (.invokestatic 203, 3) ∧ 81 = 78 + 3 := by decide +kernel
theorem d_X10_course_81 : decode cX10_course 81 = .ok (.istore 9, 2) ∧ 83 = 81 + 2 := by decide +kernel
theorem d_X10_course_83 : decode cX10_course 83 = .ok (.iload 9, 2) ∧ 85 = 83 + 2 := by decide +kernel
theorem d_X10_course_85 : decode cX10_course 85 = .ok (.iconst (-1), 1) ∧ 86 = 85 + 1 := by decide +kernel
theorem d_X10_course_86 : decode cX10_course 86 = .ok (.if_icmp .eq 40, 3) ∧ 89 = 86 + 3 ∧ (86 : Int) + 40 = ((126 : Nat) : Int) := by decide +kernel
theorem d_X10_course_89 : decode cX10_course 89 = .ok (.aload_n 0, 1) ∧ 90 = 89 + 1 := by decide +kernel
theorem d_X10_course_90 : decode cX10_course 90 = .ok (.aload_n 0, 1) ∧ 91 = 90 + 1 := by decide +kernel
theorem d_X10_course_91 : decode cX10_course 91 = .ok (.iload 9, 2) ∧ 93 = 91 + 2 := by decide +kernel
theorem d_X10_course_93 : decode cX10_course 93 = .ok (.aload_n 0, 1) ∧ 94 = 93 + 1 := by decide +kernel
theorem d_X10_course_94 : decode cX10_course 94 = .ok (.getfield 10, 3) ∧ 97 = 94 + 3 := by decide +kernel
theorem d_X10_course_97 : decode cX10_course 97 = .ok (.invokevirtual 134, 3) ∧ 100 = 97 + 3 := by decide +kernel
theorem d_X10_course_100 : decode cX10_course 100 = .ok (.aload_n 0, 1) ∧ 101 = 100 + 1 := by decide +kernel
theorem d_X10_course_101 : decode cX10_course 101 = .ok (.getfield 10, 3) ∧ 104 = 101 + 3 := by decide +kernel
theorem d_X10_course_104 : decode cX10_course 104 = .ok (.getfield 117, 3) ∧ 107 = 104 + 3 := by decide +kernel
theorem d_X10_course_107 : decode cX10_course 107 = .ok (.invokevirtual 185, 3) ∧ 110 = 107 + 3 := by decide +kernel
theorem d_X10_course_110 : decode cX10_course 110 = .ok (.iload_n 3, 1) ∧ 111 = 110 + 1 := by decide +kernel
theorem d_X10_course_111 : decode cX10_course 111 = .ok (.invokevirtual 189, 3) ∧ 114 = 111 + 3 := by decide +kernel
theorem d_X10_course_114 : decode cX10_course 114 = .ok (.ifCond .eq 12, 3) ∧ 117 = 114 + 3 ∧ (114 : Int) + 12 = ((126 : Nat) : Int) := by decide +kernel
theorem d_X10_course_117 : decode cX10_course 117 = .ok (.iload 5, 2) ∧ 119 = 117 + 2 := by decide +kernel
theorem d_X10_course_119 : decode cX10_course 119 = .ok (.iconst 1, 1) ∧ 120 = 119 + 1 := by decide +kernel
theorem d_X10_course_120 : decode cX10_course 120 = .ok (.iload 8, 2) ∧ 122 = 120 + 2 := by decide +kernel
theorem d_X10_course_122 : decode cX10_course 122 = .ok (.ishl, 1) ∧ 123 = 122 + 1 := by decide +kernel
theorem d_X10_course_123 : decode cX10_course 123 = .ok (.ior, 1) ∧ 124 = 123 + 1 := by decide +kernel
theorem d_X10_course_124 : decode cX10_course 124 = .ok (.istore 5, 2) ∧ 126 = 124 + 2 := by decide +kernel
theorem d_X10_course_126 : decode cX10_course 126 = .ok (.iload 6, 2) ∧ 128 = 126 + 2 := by decide +kernel
theorem d_X10_course_128 : decode cX10_course 128 = .ok (.iload 9, 2) ∧ 130 = 128 + 2 := by decide +kernel
theorem d_X10_course_130 : decode cX10_course 130 = .ok (.iconst (-1), 1) ∧ 131 = 130 + 1 := by decide +kernel
theorem d_X10_course_131 : decode cX10_course 131 = .ok (.if_icmp .ne 8, 3) ∧ 134 = 131 + 3 ∧ (131 : Int) + 8 = ((139 : Nat) : Int) := by decide +kernel
theorem d_X10_course_134 : decode cX10_course 134 = .ok (.iload 6, 2) ∧ 136 = 134 + 2 := by decide +kernel
theorem d_X10_course_136 : decode cX10_course 136 = .ok (.goto 9, 3) ∧ (136 : Int) + (9) = ((145 : Nat) : Int) := by decide +kernel
theorem d_X10_course_139 : decode cX10_course 139 = .ok (.iconst 1, 1) ∧ 140 = 139 + 1 := by decide +kernel
theorem d_X10_course_140 : decode cX10_course 140 = .ok (.iload 9, 2) ∧ 142 = 140 + 2 := by decide +kernel
theorem d_X10_course_142 : decode cX10_course 142 = .ok (.ishl, 1) ∧ 143 = 142 + 1 := by decide +kernel
theorem d_X10_course_143 : decode cX10_course 143 = .ok (.iconst (-1), 1) ∧ 144 = 143 + 1 := by decide +kernel
theorem d_X10_course_144 : decode cX10_course 144 = .ok (.ixor, 1) ∧ 145 = 144 + 1 := by decide +kernel
theorem d_X10_course_145 : decode cX10_course 145 = .ok (.iand, 1) ∧ 146 = 145 + 1 := by decide +kernel
theorem d_X10_course_146 : decode cX10_course 146 = .ok (.istore 6, 2) ∧ 148 = 146 + 2 := by decide +kernel
theorem d_X10_course_148 : decode cX10_course 148 = .ok (.iinc 8 1, 3) ∧ 151 = 148 + 3 := by decide +kernel
theorem d_X10_course_151 : decode cX10_course 151 = .ok (.goto (-89), 3) ∧ (151 : Int) + ((-89)) = ((62 : Nat) : Int) := by decide +kernel
theorem d_X10_course_154 : decode cX10_course 154 = .ok (.iload 4, 2) ∧ 156 = 154 + 2 := by decide +kernel
theorem d_X10_course_156 : decode cX10_course 156 = .ok (.ifCond .ne 6, 3) ∧ 159 = 156 + 3 ∧ (156 : Int) + 6 = ((162 : Nat) : Int) := by decide +kernel
theorem d_X10_course_159 : decode cX10_course 159 = .ok (.iload 5, 2) ∧ 161 = 159 + 2 := by decide +kernel
theorem d_X10_course_161 : decode cX10_course 161 = .ok (.ireturn, 1) := by decide +kernel
theorem d_X10_course_162 : decode cX10_course 162 = .ok (.iload 5, 2) ∧ 164 = 162 + 2 := by decide +kernel
theorem d_X10_course_164 : decode cX10_course 164 = .ok (.iconst (-1), 1) ∧ 165 = 164 + 1 := by decide +kernel
theorem d_X10_course_165 : decode cX10_course 165 = .ok (.ixor, 1) ∧ 166 = 165 + 1 := by decide +kernel
theorem d_X10_course_166 : decode cX10_course 166 = .ok (.iload 5, 2) ∧ 168 = 166 + 2 := by decide +kernel
theorem d_X10_course_168 : decode cX10_course 168 = .ok (.invokestatic 210, 3) ∧ 171 = 168 + 3 := by decide +kernel
theorem d_X10_course_171 : decode cX10_course 171 = .ok (.iload 7, 2) ∧ 173 = 171 + 2 := by decide +kernel
theorem d_X10_course_173 : decode cX10_course 173 = .ok (.invokestatic 234, 3) ∧ 176 = 173 + 3 := by decide +kernel
theorem d_X10_course_176 : decode cX10_course 176 = .ok (.istore 8, 2) ∧ 178 = 176 + 2 := by decide +kernel
theorem d_X10_course_178 : decode cX10_course 178 = .ok (.iload 4, 2) ∧ 180 = 178 + 2 := by decide +kernel
theorem d_X10_course_180 : decode cX10_course 180 = .ok (.iconst 1, 1) ∧ 181 = 180 + 1 := by decide +kernel
theorem d_X10_course_181 : decode cX10_course 181 = .ok (.if_icmp .ne 8, 3) ∧ 184 = 181 + 3 ∧ (181 : Int) + 8 = ((189 : Nat) : Int) := by decide +kernel
theorem d_X10_course_184 : decode cX10_course 184 = .ok (.iload 8, 2) ∧ 186 = 184 + 2 := by decide +kernel
theorem d_X10_course_186 : decode cX10_course 186 = .ok (.goto 12, 3) ∧ (186 : Int) + (12) = ((198 : Nat) : Int) := by decide +kernel
theorem d_X10_course_189 : decode cX10_course 189 = .ok (.iload 5, 2) ∧ 191 = 189 + 2 := by decide +kernel
theorem d_X10_course_191 : decode cX10_course 191 = .ok (.iload 8, 2) ∧ 193 = 191 + 2 := by decide +kernel
theorem d_X10_course_193 : decode cX10_course 193 = .ok (.iload 7, 2) ∧ 195 = 193 + 2 := by decide +kernel
theorem d_X10_course_195 : decode cX10_course 195 = .ok (.invokestatic 234, 3) ∧ 198 = 195 + 3 := by decide +kernel
theorem d_X10_course_198 : decode cX10_course 198 = .ok (.ireturn, 1) := by decide +kernel
theorem d_X10_link_0 : decode cX10_link 0 = .ok (.aload_n 0, 1) ∧ 1 = 0 + 1 := by decide +kernel
theorem d_X10_link_1 : decode cX10_link 1 = .ok (.getfield 19, 3) ∧ 4 = 1 + 3 := by decide +kernel
theorem d_X10_link_4 : decode cX10_link 4 = .ok (.iload_n 1, 1) ∧ 5 = 4 + 1 := by decide +kernel
theorem d_X10_link_5 : decode cX10_link 5 = .ok (.invokevirtual 124, 3) ∧ 8 = 5 + 3 := by decide +kernel
theorem d_X10_link_8 : decode cX10_link 8 = .ok (.ifCond .eq 35, 3) ∧ 11 = 8 + 3 ∧ (8 : Int) + 35 = ((43 : Nat) : Int) := by decide +kernel
theorem d_X10_link_11 : decode cX10_link 11 = .ok (.aload_n 0, 1) ∧ 12 = 11 + 1 := by decide +kernel
theorem d_X10_link_12 : decode cX10_link 12 = .ok (.getfield 19, 3) ∧ 15 = 12 + 3 := by decide +kernel
theorem d_X10_link_15 : decode cX10_link 15 = .ok (.iload_n 2, 1) ∧ 16 = 15 + 1 := by decide +kernel
theorem d_X10_link_16 : decode cX10_link 16 = .ok (.invokevirtual 124, 3) ∧ 19 = 16 + 3 := by decide +kernel
theorem d_X10_link_19 : decode cX10_link 19 = .ok (.ifCond .eq 24, 3) ∧ 22 = 19 + 3 ∧ (19 : Int) + 24 = ((43 : Nat) : Int) := by decide +kernel
theorem d_X10_link_22 : decode cX10_link 22 = .ok (.aload_n 0, 1) ∧ 23 = 22 + 1 := by decide +kernel
theorem d_X10_link_23 : decode cX10_link 23 = .ok (.getfield 19, 3) ∧ 26 = 23 + 3 := by decide +kernel
theorem d_X10_link_26 : decode cX10_link 26 = .ok (.getfield 231, 3) ∧ 29 = 26 + 3 := by decide +kernel
theorem d_X10_link_29 : decode cX10_link 29 = .ok (.iload_n 2, 1) ∧ 30 = 29 + 1 := by decide +kernel
theorem d_X10_link_30 : decode cX10_link 30 = .ok (.iaload, 1) ∧ 31 = 30 + 1 := by decide +kernel
theorem d_X10_link_31 : decode cX10_link 31 = .ok (.aload_n 0, 1) ∧ 32 = 31 + 1 := by decide +kernel
theorem d_X10_link_32 : decode cX10_link 32 = .ok (.getfield 19, 3) ∧ 35 = 32 + 3 := by decide +kernel
theorem d_X10_link_35 : decode cX10_link 35 = .ok (.getfield 231, 3) ∧ 38 = 35 + 3 := by decide +kernel
theorem d_X10_link_38 : decode cX10_link 38 = .ok (.iload_n 1, 1) ∧ 39 = 38 + 1 := by decide +kernel
theorem d_X10_link_39 : decode cX10_link 39 = .ok (.iaload, 1) ∧ 40 = 39 + 1 := by decide +kernel
theorem d_X10_link_40 : decode cX10_link 40 = .ok (.if_icmp .gt 5, 3) ∧ 43 = 40 + 3 ∧ (40 : Int) + 5 = ((45 : Nat) : Int) := by decide +kernel
theorem d_X10_link_43 : decode cX10_link 43 = .ok (.iconst (-1), 1) ∧ 44 = 43 + 1 := by decide +kernel
theorem d_X10_link_44 : decode cX10_link 44 = .ok (.ireturn, 1) := by decide +kernel
theorem d_X10_link_45 : decode cX10_link 45 = .ok (.aload_n 0, 1) ∧ 46 = 45 + 1 := by decide +kernel
theorem d_X10_link_46 : decode cX10_link 46 = .ok (.getfield 26, 3) ∧ 49 = 46 + 3 := by decide +kernel
theorem d_X10_link_49 : decode cX10_link 49 = .ok (.iload_n 1, 1) ∧ 50 = 49 + 1 := by decide +kernel
theorem d_X10_link_50 : decode cX10_link 50 = .ok (.iload_n 2, 1) ∧ 51 = 50 + 1 := by decide +kernel
theorem d_X10_link_51 : decode cX10_link 51 = .ok (.invokevirtual 237, 3) ∧ 54 = 51 + 3 := by decide +kernel
theorem d_X10_link_54 : decode cX10_link 54 = .ok (.ireturn, 1) := by decide +kernel
theorem d_X10_ways_0 : decode cX10_ways 0 = .ok (.aload_n 0, 1) ∧ 1 = 0 + 1 := by decide +kernel
theorem d_X10_ways_1 : decode cX10_ways 1 = .ok (.getfield 19, 3) ∧ 4 = 1 + 3 := by decide +kernel
theorem d_X10_ways_4 : decode cX10_ways 4 = .ok (.iload_n 1, 1) ∧ 5 = 4 + 1 := by decide +kernel
theorem d_X10_ways_5 : decode cX10_ways 5 = .ok (.invokevirtual 124, 3) ∧ 8 = 5 + 3 := by decide +kernel
theorem d_X10_ways_8 : decode cX10_ways 8 = .ok (.ifCond .eq 22, 3) ∧ 11 = 8 + 3 ∧ (8 : Int) + 22 = ((30 : Nat) : Int) := by decide +kernel
theorem d_X10_ways_11 : decode cX10_ways 11 = .ok (.aload_n 0, 1) ∧ 12 = 11 + 1 := by decide +kernel
theorem d_X10_ways_12 : decode cX10_ways 12 = .ok (.getfield 19, 3) ∧ 15 = 12 + 3 := by decide +kernel
theorem d_X10_ways_15 : decode cX10_ways 15 = .ok (.iload_n 2, 1) ∧ 16 = 15 + 1 := by decide +kernel
theorem d_X10_ways_16 : decode cX10_ways 16 = .ok (.invokevirtual 124, 3) ∧ 19 = 16 + 3 := by decide +kernel
theorem d_X10_ways_19 : decode cX10_ways 19 = .ok (.ifCond .eq 11, 3) ∧ 22 = 19 + 3 ∧ (19 : Int) + 11 = ((30 : Nat) : Int) := by decide +kernel
theorem d_X10_ways_22 : decode cX10_ways 22 = .ok (.iload_n 3, 1) ∧ 23 = 22 + 1 := by decide +kernel
theorem d_X10_ways_23 : decode cX10_ways 23 = .ok (.iconst 1, 1) ∧ 24 = 23 + 1 := by decide +kernel
theorem d_X10_ways_24 : decode cX10_ways 24 = .ok (.invokestatic 99, 3) ∧ 27 = 24 + 3 := by decide +kernel
theorem d_X10_ways_27 : decode cX10_ways 27 = .ok (.ifCond .ne 5, 3) ∧ 30 = 27 + 3 ∧ (27 : Int) + 5 = ((32 : Nat) : Int) := by decide +kernel
theorem d_X10_ways_30 : decode cX10_ways 30 = .ok (.iconst (-1), 1) ∧ 31 = 30 + 1 := by decide +kernel
theorem d_X10_ways_31 : decode cX10_ways 31 = .ok (.ireturn, 1) := by decide +kernel
theorem d_X10_ways_32 : decode cX10_ways 32 = .ok (.aload_n 0, 1) ∧ 33 = 32 + 1 := by decide +kernel
theorem d_X10_ways_33 : decode cX10_ways 33 = .ok (.getfield 26, 3) ∧ 36 = 33 + 3 := by decide +kernel
theorem d_X10_ways_36 : decode cX10_ways 36 = .ok (.iload_n 1, 1) ∧ 37 = 36 + 1 := by decide +kernel
theorem d_X10_ways_37 : decode cX10_ways 37 = .ok (.iload_n 2, 1) ∧ 38 = 37 + 1 := by decide +kernel
theorem d_X10_ways_38 : decode cX10_ways 38 = .ok (.invokevirtual 239, 3) ∧ 41 = 38 + 3 := by decide +kernel
theorem d_X10_ways_41 : decode cX10_ways 41 = .ok (.iload_n 3, 1) ∧ 42 = 41 + 1 := by decide +kernel
theorem d_X10_ways_42 : decode cX10_ways 42 = .ok (.ifCond .ne 13, 3) ∧ 45 = 42 + 3 ∧ (42 : Int) + 13 = ((55 : Nat) : Int) := by decide +kernel
theorem d_X10_ways_45 : decode cX10_ways 45 = .ok (.aload_n 0, 1) ∧ 46 = 45 + 1 := by decide +kernel
theorem d_X10_ways_46 : decode cX10_ways 46 = .ok (.getfield 26, 3) ∧ 49 = 46 + 3 := by decide +kernel
theorem d_X10_ways_49 : decode cX10_ways 49 = .ok (.getfield 243, 3) ∧ 52 = 49 + 3 := by decide +kernel
theorem d_X10_ways_52 : decode cX10_ways 52 = .ok (.goto 15, 3) ∧ (52 : Int) + (15) = ((67 : Nat) : Int) := by decide +kernel
theorem d_X10_ways_55 : decode cX10_ways 55 = .ok (.aload_n 0, 1) ∧ 56 = 55 + 1 := by decide +kernel
theorem d_X10_ways_56 : decode cX10_ways 56 = .ok (.getfield 26, 3) ∧ 59 = 56 + 3 := by decide +kernel
theorem d_X10_ways_59 : decode cX10_ways 59 = .ok (.getfield 245, 3) ∧ 62 = 59 + 3 := by decide +kernel
theorem d_X10_ways_62 : decode cX10_ways 62 = .ok (.ldc 248, 2) ∧ 64 = 62 + 2 := by decide +kernel
theorem d_X10_ways_64 : decode cX10_ways 64 = .ok (.invokestatic 249, 3) ∧ 67 = 64 + 3 := by decide +kernel
theorem d_X10_ways_67 : decode cX10_ways 67 = .ok (.ireturn, 1) := by decide +kernel
theorem d_X10_gap_0 : decode cX10_gap 0 = .ok (.aload_n 0, 1) ∧ 1 = 0 + 1 := by decide +kernel
theorem d_X10_gap_1 : decode cX10_gap 1 = .ok (.iload_n 1, 1) ∧ 2 = 1 + 1 := by decide +kernel
theorem d_X10_gap_2 : decode cX10_gap 2 = .ok (.invokevirtual 172, 3) ∧ 5 = 2 + 3 := by decide +kernel
theorem d_X10_gap_5 : decode cX10_gap 5 = .ok (.ifCond .eq 14, 3) ∧ 8 = 5 + 3 ∧ (5 : Int) + 14 = ((19 : Nat) : Int) := by decide +kernel
theorem d_X10_gap_8 : decode cX10_gap 8 = .ok (.aload_n 0, 1) ∧ 9 = 8 + 1 := by decide +kernel
theorem d_X10_gap_9 : decode cX10_gap 9 = .ok (.getfield 19, 3) ∧ 12 = 9 + 3 := by decide +kernel
theorem d_X10_gap_12 : decode cX10_gap 12 = .ok (.iload_n 2, 1) ∧ 13 = 12 + 1 := by decide +kernel
theorem d_X10_gap_13 : decode cX10_gap 13 = .ok (.invokevirtual 124, 3) ∧ 16 = 13 + 3 := by decide +kernel
theorem d_X10_gap_16 : decode cX10_gap 16 = .ok (.ifCond .ne 5, 3) ∧ 19 = 16 + 3 ∧ (16 : Int) + 5 = ((21 : Nat) : Int) := by decide +kernel
theorem d_X10_gap_19 : decode cX10_gap 19 = .ok (.iconst (-1), 1) ∧ 20 = 19 + 1 := by decide +kernel
theorem d_X10_gap_20 : decode cX10_gap 20 = .ok (.ireturn, 1) := by decide +kernel
theorem d_X10_gap_21 : decode cX10_gap 21 = .ok (.aload_n 0, 1) ∧ 22 = 21 + 1 := by decide +kernel
theorem d_X10_gap_22 : decode cX10_gap 22 = .ok (.iload_n 1, 1) ∧ 23 = 22 + 1 := by decide +kernel
theorem d_X10_gap_23 : decode cX10_gap 23 = .ok (.invokevirtual 175, 3) ∧ 26 = 23 + 3 := by decide +kernel
theorem d_X10_gap_26 : decode cX10_gap 26 = .ok (.aload_n 0, 1) ∧ 27 = 26 + 1 := by decide +kernel
theorem d_X10_gap_27 : decode cX10_gap 27 = .ok (.getfield 81, 3) ∧ 30 = 27 + 3 := by decide +kernel
theorem d_X10_gap_30 : decode cX10_gap 30 = .ok (.aload_n 0, 1) ∧ 31 = 30 + 1 := by decide +kernel
theorem d_X10_gap_31 : decode cX10_gap 31 = .ok (.getfield 19, 3) ∧ 34 = 31 + 3 := by decide +kernel
theorem d_X10_gap_34 : decode cX10_gap 34 = .ok (.iload_n 2, 1) ∧ 35 = 34 + 1 := by decide +kernel
theorem d_X10_gap_35 : decode cX10_gap 35 = .ok (.aload_n 0, 1) ∧ 36 = 35 + 1 := by decide +kernel
theorem d_X10_gap_36 : decode cX10_gap 36 = .ok (.getfield 10, 3) ∧ 39 = 36 + 3 := by decide +kernel
theorem d_X10_gap_39 : decode cX10_gap 39 = .ok (.iconst 0, 1) ∧ 40 = 39 + 1 := by decide +kernel
theorem d_X10_gap_40 : decode cX10_gap 40 = .ok (.invokevirtual 138, 3) ∧ 43 = 40 + 3 := by decide +kernel
theorem d_X10_gap_43 : decode cX10_gap 43 = .ok (.invokevirtual 142, 3) ∧ 46 = 43 + 3 := by decide +kernel
theorem d_X10_gap_46 : decode cX10_gap 46 = .ok (.aload_n 0, 1) ∧ 47 = 46 + 1 := by decide +kernel
theorem d_X10_gap_47 : decode cX10_gap 47 = .ok (.getfield 85, 3) ∧ 50 = 47 + 3 := by decide +kernel
theorem d_X10_gap_50 : decode cX10_gap 50 = .ok (.aload_n 0, 1) ∧ 51 = 50 + 1 := by decide +kernel
theorem d_X10_gap_51 : decode cX10_gap 51 = .ok (.getfield 19, 3) ∧ 54 = 51 + 3 := by decide +kernel
theorem d_X10_gap_54 : decode cX10_gap 54 = .ok (.iload_n 2, 1) ∧ 55 = 54 + 1 := by decide +kernel
theorem d_X10_gap_55 : decode cX10_gap 55 = .ok (.aload_n 0, 1) ∧ 56 = 55 + 1 := by decide +kernel
theorem d_X10_gap_56 : decode cX10_gap 56 = .ok (.getfield 10, 3) ∧ 59 = 56 + 3 := by decide +kernel
theorem d_X10_gap_59 : decode cX10_gap 59 = .ok (.iconst 1, 1) ∧ 60 = 59 + 1 := by decide +kernel
theorem d_X10_gap_60 : decode cX10_gap 60 = .ok (.invokevirtual 138, 3) ∧ 63 = 60 + 3 := by decide +kernel
theorem d_X10_gap_63 : decode cX10_gap 63 = .ok (.invokevirtual 142, 3) ∧ 66 = 63 + 3 := by decide +kernel
theorem d_X10_gap_66 : decode cX10_gap 66 = .ok (.aload_n 0, 1) ∧ 67 = 66 + 1 := by decide +kernel
theorem d_X10_gap_67 : decode cX10_gap 67 = .ok (.aload_n 0, 1) ∧ 68 = 67 + 1 := by decide +kernel
theorem d_X10_gap_68 : decode cX10_gap 68 = .ok (.getfield 10, 3) ∧ 71 = 68 + 3 := by decide +kernel
theorem d_X10_gap_71 : decode cX10_gap 71 = .ok (.getfield 117, 3) ∧ 74 = 71 + 3 := by decide +kernel
theorem d_X10_gap_74 : decode cX10_gap 74 = .ok (.invokevirtual 254, 3) ∧ 77 = 74 + 3 := by decide +kernel
theorem d_X10_gap_77 : decode cX10_gap 77 = .ok (.lstore_n 3, 1) ∧ 78 = 77 + 1 := by decide +kernel
theorem d_X10_gap_78 : decode cX10_gap 78 = .ok (.lload_n 3, 1) ∧ 79 = 78 + 1 := by decide +kernel
theorem d_X10_gap_79 : decode cX10_gap 79 = .ok (.lconst 0, 1) ∧ 80 = 79 + 1 := by decide +kernel
theorem d_X10_gap_80 : decode cX10_gap 80 = .ok (.lcmp, 1) ∧ 81 = 80 + 1 := by decide +kernel
theorem d_X10_gap_81 : decode cX10_gap 81 = .ok (.ifCond .eq 13, 3) ∧ 84 = 81 + 3 ∧ (81 : Int) + 13 = ((94 : Nat) : Int) := by decide +kernel
theorem d_X10_gap_84 : decode cX10_gap 84 = .ok (.aload_n 0, 1) ∧ 85 = 84 + 1 := by decide +kernel
theorem d_X10_gap_85 : decode cX10_gap 85 = .ok (.getfield 74, 3) ∧ 88 = 85 + 3 := by decide +kernel
theorem d_X10_gap_88 : decode cX10_gap 88 = .ok (.getfield 178, 3) ∧ 91 = 88 + 3 := by decide +kernel
theorem d_X10_gap_91 : decode cX10_gap 91 = .ok (.ifCond .ne 5, 3) ∧ 94 = 91 + 3 ∧ (91 : Int) + 5 = ((96 : Nat) : Int) := by decide +kernel
theorem d_X10_gap_94 : decode cX10_gap 94 = .ok (.iconst (-1), 1) ∧ 95 = 94 + 1 := by decide +kernel
theorem d_X10_gap_95 : decode cX10_gap 95 = .ok (.ireturn, 1) := by decide +kernel
theorem d_X10_gap_96 : decode cX10_gap 96 = .ok (.aload_n 0, 1) ∧ 97 = 96 + 1 := by decide +kernel
theorem d_X10_gap_97 : decode cX10_gap 97 = .ok (.aload_n 0, 1) ∧ 98 = 97 + 1 := by decide +kernel
theorem d_X10_gap_98 : decode cX10_gap 98 = .ok (.getfield 10, 3) ∧ 101 = 98 + 3 := by decide +kernel
theorem d_X10_gap_101 : decode cX10_gap 101 = .ok (.getfield 117, 3) ∧ 104 = 101 + 3 := by decide +kernel
theorem d_X10_gap_104 : decode cX10_gap 104 = .ok (.invokevirtual 258, 3) ∧ 107 = 104 + 3 := by decide +kernel
theorem d_X10_gap_107 : decode cX10_gap 107 = .ok (.lstore 5, 2) ∧ 109 = 107 + 2 := by decide +kernel
theorem d_X10_gap_109 : decode cX10_gap 109 = .ok (.iconst 0, 1) ∧ 110 = 109 + 1 := by decide +kernel
theorem d_X10_gap_110 : decode cX10_gap 110 = .ok (.istore 7, 2) ∧ 112 = 110 + 2 := by decide +kernel
theorem d_X10_gap_112 : decode cX10_gap 112 = .ok (.iconst 0, 1) ∧ 113 = 112 + 1 := by decide +kernel
theorem d_X10_gap_113 : decode cX10_gap 113 = .ok (.istore 8, 2) ∧ 115 = 113 + 2 := by decide +kernel
theorem d_X10_gap_115 : decode cX10_gap 115 = .ok (.iload 8, 2) ∧ 117 = 115 + 2 := by decide +kernel
theorem d_X10_gap_117 : decode cX10_gap 117 = .ok (.aload_n 0, 1) ∧ 118 = 117 + 1 := by decide +kernel
theorem d_X10_gap_118 : decode cX10_gap 118 = .ok (.getfield 74, 3) ∧ 121 = 118 + 3 := by decide +kernel
theorem d_X10_gap_121 : decode cX10_gap 121 = .ok (.getfield 178, 3) ∧ 124 = 121 + 3 := by decide +kernel
theorem d_X10_gap_124 : decode cX10_gap 124 = .ok (.if_icmp .ge 69, 3) ∧ 127 = 124 + 3 ∧ (124 : Int) + 69 = ((193 : Nat) : Int) := by decide +kernel
theorem d_X10_gap_127 : decode cX10_gap 127 = .ok (.iload 8, 2) ∧ 129 = 127 + 2 := by decide +kernel
theorem d_X10_gap_129 : decode cX10_gap 129 = .ok (.aload_n 0, 1) ∧ 130 = 129 + 1 := by decide +kernel
theorem d_X10_gap_130 : decode cX10_gap 130 = .ok (.getfield 74, 3) ∧ 133 = 130 + 3 := by decide +kernel
theorem d_X10_gap_133 : decode cX10_gap 133 = .ok (.getfield 179, 3) ∧ 136 = 133 + 3 := by decide +kernel
theorem d_X10_gap_136 : decode cX10_gap 136 = .ok (.arraylength, 1) ∧ 137 = 136 + 1 := by decide +kernel
theorem d_X10_gap_137 : decode cX10_gap 137 = .ok (.if_icmp .ge 56, 3) ∧ 140 = 137 + 3 ∧ (137 : Int) + 56 = ((193 : Nat) : Int) := by decide +kernel
theorem d_X10_gap_140 : decode cX10_gap 140 = .ok (.aload_n 0, 1) ∧ 141 = 140 + 1 := by decide +kernel
theorem d_X10_gap_141 : decode cX10_gap 141 = .ok (.getfield 74, 3) ∧ 144 = 141 + 3 := by decide +kernel
theorem d_X10_gap_144 : decode cX10_gap 144 = .ok (.getfield 179, 3) ∧ 147 = 144 + 3 := by decide +kernel
theorem d_X10_gap_147 : decode cX10_gap 147 = .ok (.iload 8, 2) ∧ 149 = 147 + 2 := by decide +kernel
theorem d_X10_gap_149 : decode cX10_gap 149 = .ok (.iaload, 1) ∧ 150 = 149 + 1 := by decide +kernel
theorem d_X10_gap_150 : decode cX10_gap 150 = .ok (.istore 9, 2) ∧ 152 = 150 + 2 := by decide +kernel
theorem d_X10_gap_152 : decode cX10_gap 152 = .ok (.aload_n 0, 1) ∧ 153 = 152 + 1 := by decide +kernel
theorem d_X10_gap_153 : decode cX10_gap 153 = .ok (.iload 9, 2) ∧ 155 = 153 + 2 := by decide +kernel
theorem d_X10_gap_155 : decode cX10_gap 155 = .ok (.invokevirtual 254, 3) ∧ 158 = 155 + 3 := by decide +kernel
theorem d_X10_gap_158 : decode cX10_gap 158 = .ok (.lstore 10, 2) ∧ 160 = 158 + 2 := by decide +kernel
theorem d_X10_gap_160 : decode cX10_gap 160 = .ok (.lload 10, 2) ∧ 162 = 160 + 2 := by decide +kernel
theorem d_X10_gap_162 : decode cX10_gap 162 = .ok (.lconst 0, 1) ∧ 163 = 162 + 1 := by decide +kernel
theorem d_X10_gap_163 : decode cX10_gap 163 = .ok (.lcmp, 1) ∧ 164 = 163 + 1 := by decide +kernel
theorem d_X10_gap_164 : decode cX10_gap 164 = .ok (.ifCond .eq 23, 3) ∧ 167 = 164 + 3 ∧ (164 : Int) + 23 = ((187 : Nat) : Int) := by decide +kernel
theorem d_X10_gap_167 : decode cX10_gap 167 = .ok (.aload_n 0, 1) ∧ 168 = 167 + 1 := by decide +kernel
theorem d_X10_gap_168 : decode cX10_gap 168 = .ok (.iload 9, 2) ∧ 170 = 168 + 2 := by decide +kernel
theorem d_X10_gap_170 : decode cX10_gap 170 = .ok (.invokevirtual 258, 3) ∧ 173 = 170 + 3 := by decide +kernel
theorem d_X10_gap_173 : decode cX10_gap 173 = .ok (.lload_n 3, 1) ∧ 174 = 173 + 1 := by decide +kernel
theorem d_X10_gap_174 : decode cX10_gap 174 = .ok (.lmul, 1) ∧ 175 = 174 + 1 := by decide +kernel
theorem d_X10_gap_175 : decode cX10_gap 175 = .ok (.lload 5, 2) ∧ 177 = 175 + 2 := by decide +kernel
theorem d_X10_gap_177 : decode cX10_gap 177 = .ok (.lload 10, 2) ∧ 179 = 177 + 2 := by decide +kernel
theorem d_X10_gap_179 : decode cX10_gap 179 = .ok (.lmul, 1) ∧ 180 = 179 + 1 := by decide +kernel
theorem d_X10_gap_180 : decode cX10_gap 180 = .ok (.lcmp, 1) ∧ 181 = 180 + 1 := by decide +kernel
theorem d_X10_gap_181 : decode cX10_gap 181 = .ok (.ifCond .lt 6, 3) ∧ 184 = 181 + 3 ∧ (181 : Int) + 6 = ((187 : Nat) : Int) := by decide +kernel
theorem d_X10_gap_184 : decode cX10_gap 184 = .ok (.iinc 7 1, 3) ∧ 187 = 184 + 3 := by decide +kernel
theorem d_X10_gap_187 : decode cX10_gap 187 = .ok (.iinc 8 1, 3) ∧ 190 = 187 + 3 := by decide +kernel
theorem d_X10_gap_190 : decode cX10_gap 190 = .ok (.goto (-75), 3) ∧ (190 : Int) + ((-75)) = ((115 : Nat) : Int) := by decide +kernel
theorem d_X10_gap_193 : decode cX10_gap 193 = .ok (.iload 7, 2) ∧ 195 = 193 + 2 := by decide +kernel
theorem d_X10_gap_195 : decode cX10_gap 195 = .ok (.ireturn, 1) := by decide +kernel
theorem d_X10_step_0 : decode cX10_step 0 = .ok (.iload_n 1, 1) ∧ 1 = 0 + 1 := by decide +kernel
theorem d_X10_step_1 : decode cX10_step 1 = .ok (.bipush (-100), 2) ∧ 3 = 1 + 2 := by decide +kernel
theorem d_X10_step_3 : decode cX10_step 3 = .ok (.if_icmp .lt 15, 3) ∧ 6 = 3 + 3 ∧ (3 : Int) + 15 = ((18 : Nat) : Int) := by decide +kernel
theorem d_X10_step_6 : decode cX10_step 6 = .ok (.iload_n 2, 1) ∧ 7 = 6 + 1 := by decide +kernel
theorem d_X10_step_7 : decode cX10_step 7 = .ok (.sipush 200, 3) ∧ 10 = 7 + 3 := by decide +kernel
theorem d_X10_step_10 : decode cX10_step 10 = .ok (.if_icmp .gt 8, 3) ∧ 13 = 10 + 3 ∧ (10 : Int) + 8 = ((18 : Nat) : Int) := by decide +kernel
theorem d_X10_step_13 : decode cX10_step 13 = .ok (.iload_n 1, 1) ∧ 14 = 13 + 1 := by decide +kernel
theorem d_X10_step_14 : decode cX10_step 14 = .ok (.iload_n 2, 1) ∧ 15 = 14 + 1 := by decide +kernel
theorem d_X10_step_15 : decode cX10_step 15 = .ok (.if_icmp .le 5, 3) ∧ 18 = 15 + 3 ∧ (15 : Int) + 5 = ((20 : Nat) : Int) := by decide +kernel
theorem d_X10_step_18 : decode cX10_step 18 = .ok (.iconst (-1), 1) ∧ 19 = 18 + 1 := by decide +kernel
theorem d_X10_step_19 : decode cX10_step 19 = .ok (.ireturn, 1) := by decide +kernel
theorem d_X10_step_20 : decode cX10_step 20 = .ok (.aload_n 0, 1) ∧ 21 = 20 + 1 := by decide +kernel
theorem d_X10_step_21 : decode cX10_step 21 = .ok (.getfield 33, 3) ∧ 24 = 21 + 3 := by decide +kernel
theorem d_X10_step_24 : decode cX10_step 24 = .ok (.iload_n 1, 1) ∧ 25 = 24 + 1 := by decide +kernel
theorem d_X10_step_25 : decode cX10_step 25 = .ok (.iload_n 2, 1) ∧ 26 = 25 + 1 := by decide +kernel
theorem d_X10_step_26 : decode cX10_step 26 = .ok (.invokevirtual 261, 3) ∧ 29 = 26 + 3 := by decide +kernel
theorem d_X10_step_29 : decode cX10_step 29 = .ok (.ireturn, 1) := by decide +kernel
theorem d_X10_land_0 : decode cX10_land 0 = .ok (.aload_n 0, 1) ∧ 1 = 0 + 1 := by decide +kernel
theorem d_X10_land_1 : decode cX10_land 1 = .ok (.getfield 19, 3) ∧ 4 = 1 + 3 := by decide +kernel
theorem d_X10_land_4 : decode cX10_land 4 = .ok (.iload_n 1, 1) ∧ 5 = 4 + 1 := by decide +kernel
theorem d_X10_land_5 : decode cX10_land 5 = .ok (.invokevirtual 124, 3) ∧ 8 = 5 + 3 := by decide +kernel
theorem d_X10_land_8 : decode cX10_land 8 = .ok (.ifCond .eq 11, 3) ∧ 11 = 8 + 3 ∧ (8 : Int) + 11 = ((19 : Nat) : Int) := by decide +kernel
theorem d_X10_land_11 : decode cX10_land 11 = .ok (.aload_n 0, 1) ∧ 12 = 11 + 1 := by decide +kernel
theorem d_X10_land_12 : decode cX10_land 12 = .ok (.iload_n 1, 1) ∧ 13 = 12 + 1 := by decide +kernel
theorem d_X10_land_13 : decode cX10_land 13 = .ok (.invokevirtual 222, 3) ∧ 16 = 13 + 3 := by decide +kernel
theorem d_X10_land_16 : decode cX10_land 16 = .ok (.goto 5, 3) ∧ (16 : Int) + (5) = ((21 : Nat) : Int) := by decide +kernel
theorem d_X10_land_19 : decode cX10_land 19 = .ok (.ldc 133, 2) ∧ 21 = 19 + 2 := by decide +kernel
theorem d_X10_land_21 : decode cX10_land 21 = .ok (.istore_n 3, 1) ∧ 22 = 21 + 1 := by decide +kernel
theorem d_X10_land_22 : decode cX10_land 22 = .ok (.iload_n 3, 1) ∧ 23 = 22 + 1 := by decide +kernel
theorem d_X10_land_23 : decode cX10_land 23 = .ok (.ldc 133, 2) ∧ 25 = 23 + 2 := by decide +kernel
theorem d_X10_land_25 : decode cX10_land 25 = .ok (.if_icmp .ne 8, 3) ∧ 28 = 25 + 3 ∧ (25 : Int) + 8 = ((33 : Nat) : Int) := by decide +kernel
theorem d_X10_land_28 : decode cX10_land 28 = .ok (.ldc 133, 2) ∧ 30 = 28 + 2 := by decide +kernel
theorem d_X10_land_30 : decode cX10_land 30 = .ok (.goto 12, 3) ∧ (30 : Int) + (12) = ((42 : Nat) : Int) := by decide +kernel
theorem d_X10_land_33 : decode cX10_land 33 = .ok (.aload_n 0, 1) ∧ 34 = 33 + 1 := by decide +kernel
theorem d_X10_land_34 : decode cX10_land 34 = .ok (.getfield 33, 3) ∧ 37 = 34 + 3 := by decide +kernel
theorem d_X10_land_37 : decode cX10_land 37 = .ok (.iload_n 3, 1) ∧ 38 = 37 + 1 := by decide +kernel
theorem d_X10_land_38 : decode cX10_land 38 = .ok (.iload_n 2, 1) ∧ 39 = 38 + 1 := by decide +kernel
theorem d_X10_land_39 : decode cX10_land 39 = .ok (.invokevirtual 262, 3) ∧ 42 = 39 + 3 := by decide +kernel
theorem d_X10_land_42 : decode cX10_land 42 = .ok (.ireturn, 1) := by decide +kernel
theorem d_X10_live_0 : decode cX10_live 0 = .ok (.aload_n 0, 1) ∧ 1 = 0 + 1 := by decide +kernel
theorem d_X10_live_1 : decode cX10_live 1 = .ok (.iload_n 1, 1) ∧ 2 = 1 + 1 := by decide +kernel
theorem d_X10_live_2 : decode cX10_live 2 = .ok (.invokevirtual 172, 3) ∧ 5 = 2 + 3 := by decide +kernel
theorem d_X10_live_5 : decode cX10_live 5 = .ok (.ifCond .eq 24, 3) ∧ 8 = 5 + 3 ∧ (5 : Int) + 24 = ((29 : Nat) : Int) := by decide +kernel
theorem d_X10_live_8 : decode cX10_live 8 = .ok (.aload_n 0, 1) ∧ 9 = 8 + 1 := by decide +kernel
theorem d_X10_live_9 : decode cX10_live 9 = .ok (.getfield 19, 3) ∧ 12 = 9 + 3 := by decide +kernel
theorem d_X10_live_12 : decode cX10_live 12 = .ok (.iload_n 2, 1) ∧ 13 = 12 + 1 := by decide +kernel
theorem d_X10_live_13 : decode cX10_live 13 = .ok (.invokevirtual 124, 3) ∧ 16 = 13 + 3 := by decide +kernel
theorem d_X10_live_16 : decode cX10_live 16 = .ok (.ifCond .eq 13, 3) ∧ 19 = 16 + 3 ∧ (16 : Int) + 13 = ((29 : Nat) : Int) := by decide +kernel
theorem d_X10_live_19 : decode cX10_live 19 = .ok (.iload_n 3, 1) ∧ 20 = 19 + 1 := by decide +kernel
theorem d_X10_live_20 : decode cX10_live 20 = .ok (.sipush 9999, 3) ∧ 23 = 20 + 3 := by decide +kernel
theorem d_X10_live_23 : decode cX10_live 23 = .ok (.invokestatic 99, 3) ∧ 26 = 23 + 3 := by decide +kernel
theorem d_X10_live_26 : decode cX10_live 26 = .ok (.ifCond .ne 5, 3) ∧ 29 = 26 + 3 ∧ (26 : Int) + 5 = ((31 : Nat) : Int) := by decide +kernel
theorem d_X10_live_29 : decode cX10_live 29 = .ok (.iconst (-1), 1) ∧ 30 = 29 + 1 := by decide +kernel
theorem d_X10_live_30 : decode cX10_live 30 = .ok (.ireturn, 1) := by decide +kernel
theorem d_X10_live_31 : decode cX10_live 31 = .ok (.aload_n 0, 1) ∧ 32 = 31 + 1 := by decide +kernel
theorem d_X10_live_32 : decode cX10_live 32 = .ok (.getfield 39, 3) ∧ 35 = 32 + 3 := by decide +kernel
theorem d_X10_live_35 : decode cX10_live 35 = .ok (.iload_n 1, 1) ∧ 36 = 35 + 1 := by decide +kernel
theorem d_X10_live_36 : decode cX10_live 36 = .ok (.aaload, 1) ∧ 37 = 36 + 1 := by decide +kernel
theorem d_X10_live_37 : decode cX10_live 37 = .ok (.astore 4, 2) ∧ 39 = 37 + 2 := by decide +kernel
theorem d_X10_live_39 : decode cX10_live 39 = .ok (.iload_n 3, 1) ∧ 40 = 39 + 1 := by decide +kernel
theorem d_X10_live_40 : decode cX10_live 40 = .ok (.bipush 7, 2) ∧ 42 = 40 + 2 := by decide +kernel
theorem d_X10_live_42 : decode cX10_live 42 = .ok (.imul, 1) ∧ 43 = 42 + 1 := by decide +kernel
theorem d_X10_live_43 : decode cX10_live 43 = .ok (.bipush 11, 2) ∧ 45 = 43 + 2 := by decide +kernel
theorem d_X10_live_45 : decode cX10_live 45 = .ok (.iadd, 1) ∧ 46 = 45 + 1 := by decide +kernel
theorem d_X10_live_46 : decode cX10_live 46 = .ok (.istore 5, 2) ∧ 48 = 46 + 2 := by decide +kernel
theorem d_X10_live_48 : decode cX10_live 48 = .ok (.iconst 0, 1) ∧ 49 = 48 + 1 := by decide +kernel
theorem d_X10_live_49 : decode cX10_live 49 = .ok (.istore 6, 2) ∧ 51 = 49 + 2 := by decide +kernel
theorem d_X10_live_51 : decode cX10_live 51 = .ok (.iconst 0, 1) ∧ 52 = 51 + 1 := by decide +kernel
theorem d_X10_live_52 : decode cX10_live 52 = .ok (.istore 7, 2) ∧ 54 = 52 + 2 := by decide +kernel
theorem d_X10_live_54 : decode cX10_live 54 = .ok (.iload 7, 2) ∧ 56 = 54 + 2 := by decide +kernel
theorem d_X10_live_56 : decode cX10_live 56 = .ok (.aload_n 0, 1) ∧ 57 = 56 + 1 := by decide +kernel
theorem d_X10_live_57 : decode cX10_live 57 = .ok (.getfield 10, 3) ∧ 60 = 57 + 3 := by decide +kernel
theorem d_X10_live_60 : decode cX10_live 60 = .ok (.getfield 103, 3) ∧ 63 = 60 + 3 := by decide +kernel
theorem d_X10_live_63 : decode cX10_live 63 = .ok (.if_icmp .ge 132, 3) ∧ 66 = 63 + 3 ∧ (63 : Int) + 132 = ((195 : Nat) : Int) := by decide +kernel
theorem d_X10_live_66 : decode cX10_live 66 = .ok (.aload_n 0, 1) ∧ 67 = 66 + 1 := by decide +kernel
theorem d_X10_live_67 : decode cX10_live 67 = .ok (.getfield 67, 3) ∧ 70 = 67 + 3 := by decide +kernel
theorem d_X10_live_70 : decode cX10_live 70 = .ok (.aload_n 0, 1) ∧ 71 = 70 + 1 := by decide +kernel
theorem d_X10_live_71 : decode cX10_live 71 = .ok (.getfield 10, 3) ∧ 74 = 71 + 3 := by decide +kernel
theorem d_X10_live_74 : decode cX10_live 74 = .ok (.iload 7, 2) ∧ 76 = 74 + 2 := by decide +kernel
theorem d_X10_live_76 : decode cX10_live 76 = .ok (.iconst 0, 1) ∧ 77 = 76 + 1 := by decide +kernel
theorem d_X10_live_77 : decode cX10_live 77 = .ok (.invokevirtual 266, 3) ∧ 80 = 77 + 3 := by decide +kernel
theorem d_X10_live_80 : decode cX10_live 80 = .ok (.aload_n 0, 1) ∧ 81 = 80 + 1 := by decide +kernel
theorem d_X10_live_81 : decode cX10_live 81 = .ok (.getfield 67, 3) ∧ 84 = 81 + 3 := by decide +kernel
theorem d_X10_live_84 : decode cX10_live 84 = .ok (.aload_n 0, 1) ∧ 85 = 84 + 1 := by decide +kernel
theorem d_X10_live_85 : decode cX10_live 85 = .ok (.getfield 10, 3) ∧ 88 = 85 + 3 := by decide +kernel
theorem d_X10_live_88 : decode cX10_live 88 = .ok (.getfield 117, 3) ∧ 91 = 88 + 3 := by decide +kernel
theorem d_X10_live_91 : decode cX10_live 91 = .ok (.iload 7, 2) ∧ 93 = 91 + 2 := by decide +kernel
theorem d_X10_live_93 : decode cX10_live 93 = .ok (.ishr, 1) ∧ 94 = 93 + 1 := by decide +kernel
theorem d_X10_live_94 : decode cX10_live 94 = .ok (.iconst 1, 1) ∧ 95 = 94 + 1 := by decide +kernel
theorem d_X10_live_95 : decode cX10_live 95 = .ok (.iand, 1) ∧ 96 = 95 + 1 := by decide +kernel
theorem d_X10_live_96 : decode cX10_live 96 = .ok (.aload_n 0, 1) ∧ 97 = 96 + 1 := by decide +kernel
theorem d_X10_live_97 : decode cX10_live 97 = .ok (.getfield 19, 3) ∧ 100 = 97 + 3 := by decide +kernel
theorem d_X10_live_100 : decode cX10_live 100 = .ok (.getfield 231, 3) ∧ 103 = 100 + 3 := by decide +kernel
theorem d_X10_live_103 : decode cX10_live 103 = .ok (.iload_n 2, 1) ∧ 104 = 103 + 1 := by decide +kernel
theorem d_X10_live_104 : decode cX10_live 104 = .ok (.iaload, 1) ∧ 105 = 104 + 1 := by decide +kernel
theorem d_X10_live_105 : decode cX10_live 105 = .ok (.iload 5, 2) ∧ 107 = 105 + 2 := by decide +kernel
theorem d_X10_live_107 : decode cX10_live 107 = .ok (.bipush 100, 2) ∧ 109 = 107 + 2 := by decide +kernel
theorem d_X10_live_109 : decode cX10_live 109 = .ok (.irem, 1) ∧ 110 = 109 + 1 := by decide +kernel
theorem d_X10_live_110 : decode cX10_live 110 = .ok (.invokevirtual 270, 3) ∧ 113 = 110 + 3 := by decide +kernel
theorem d_X10_live_113 : decode cX10_live 113 = .ok (.iconst (-1), 1) ∧ 114 = 113 + 1 := by decide +kernel
theorem d_X10_live_114 : decode cX10_live 114 = .ok (.istore 8, 2) ∧ 116 = 114 + 2 := by decide +kernel
theorem d_X10_live_116 : decode cX10_live 116 = .ok (.aload 4, 2) ∧ 118 = 116 + 2 := by decide +kernel
theorem d_X10_live_118 : decode cX10_live 118 = .ok (.bipush 20, 2) ∧ 120 = 118 + 2 := by decide +kernel
theorem d_X10_live_120 : decode cX10_live 120 = .ok (.invokevirtual 273, 3) ∧ 123 = 120 + 3 := by decide +kernel
theorem d_X10_live_123 : decode cX10_live 123 = .ok (.ifCond .eq 17, 3) ∧ 126 = 123 + 3 ∧ (123 : Int) + 17 = ((140 : Nat) : Int) := by decide +kernel
theorem d_X10_live_126 : decode cX10_live 126 = .ok (.aload_n 0, 1) ∧ 127 = 126 + 1 := by decide +kernel
theorem d_X10_live_127 : decode cX10_live 127 = .ok (.getfield 67, 3) ∧ 130 = 127 + 3 := by decide +kernel
theorem d_X10_live_130 : decode cX10_live 130 = .ok (.aload 4, 2) ∧ 132 = 130 + 2 := by decide +kernel
theorem d_X10_live_132 : decode cX10_live 132 = .ok (.bipush 20, 2) ∧ 134 = 132 + 2 := by decide +kernel
theorem d_X10_live_134 : decode cX10_live 134 = .ok (.invokevirtual 274, 3) ∧ 137 = 134 + 3 := by decide +kernel
theorem d_X10_live_137 : decode cX10_live 137 = .ok (.ifCond .eq 26, 3) ∧ 140 = 137 + 3 ∧ (137 : Int) + 26 = ((163 : Nat) : Int) := by decide +kernel
theorem d_X10_live_140 : decode cX10_live 140 = .ok (.iconst 0, 1) ∧ 141 = 140 + 1 := by decide +kernel
theorem d_X10_live_141 : decode cX10_live 141 = .ok (.aload_n 0, 1) ∧ 142 = 141 + 1 := by decide +kernel
theorem d_X10_live_142 : decode cX10_live 142 = .ok (.getfield 67, 3) ∧ 145 = 142 + 3 := by decide +kernel
theorem d_X10_live_145 : decode cX10_live 145 = .ok (.aload 4, 2) ∧ 147 = 145 + 2 := by decide +kernel
theorem d_X10_live_147 : decode cX10_live 147 = .ok (.invokevirtual 278, 3) ∧ 150 = 147 + 3 := by decide +kernel
theorem d_X10_live_150 : decode cX10_live 150 = .ok (.bipush 99, 2) ∧ 152 = 150 + 2 := by decide +kernel
theorem d_X10_live_152 : decode cX10_live 152 = .ok (.invokestatic 249, 3) ∧ 155 = 152 + 3 := by decide +kernel
theorem d_X10_live_155 : decode cX10_live 155 = .ok (.invokestatic 281, 3) ∧ 158 = 155 + 3 := by decide +kernel
theorem d_X10_live_158 : decode cX10_live 158 = .ok (.istore 8, 2) ∧ 160 = 158 + 2 := by decide +kernel
theorem d_X10_live_160 : decode cX10_live 160 = .ok (.iinc 6 1, 3) ∧ 163 = 160 + 3 := by decide +kernel
theorem d_X10_live_163 : decode cX10_live 163 = .ok (.aload_n 0, 1) ∧ 164 = 163 + 1 := by decide +kernel
theorem d_X10_live_164 : decode cX10_live 164 = .ok (.getfield 19, 3) ∧ 167 = 164 + 3 := by decide +kernel
theorem d_X10_live_167 : decode cX10_live 167 = .ok (.iload_n 2, 1) ∧ 168 = 167 + 1 := by decide +kernel
theorem d_X10_live_168 : decode cX10_live 168 = .ok (.iload 7, 2) ∧ 170 = 168 + 2 := by decide +kernel
theorem d_X10_live_170 : decode cX10_live 170 = .ok (.iload 8, 2) ∧ 172 = 170 + 2 := by decide +kernel
theorem d_X10_live_172 : decode cX10_live 172 = .ok (.invokevirtual 125, 3) ∧ 175 = 172 + 3 := by decide +kernel
theorem d_X10_live_175 : decode cX10_live 175 = .ok (.iload 5, 2) ∧ 177 = 175 + 2 := by decide +kernel
theorem d_X10_live_177 : decode cX10_live 177 = .ok (.sipush 171, 3) ∧ 180 = 177 + 3 := by decide +kernel
theorem d_X10_live_180 : decode cX10_live 180 = .ok (.imul, 1) ∧ 181 = 180 + 1 := by decide +kernel
theorem d_X10_live_181 : decode cX10_live 181 = .ok (.iconst 5, 1) ∧ 182 = 181 + 1 := by decide +kernel
theorem d_X10_live_182 : decode cX10_live 182 = .ok (.iadd, 1) ∧ 183 = 182 + 1 := by decide +kernel
theorem d_X10_live_183 : decode cX10_live 183 = .ok (.sipush 30323, 3) ∧ 186 = 183 + 3 := by decide +kernel
theorem d_X10_live_186 : decode cX10_live 186 = .ok (.irem, 1) ∧ 187 = 186 + 1 := by decide +kernel
theorem d_X10_live_187 : decode cX10_live 187 = .ok (.istore 5, 2) ∧ 189 = 187 + 2 := by decide +kernel
theorem d_X10_live_189 : decode cX10_live 189 = .ok (.iinc 7 1, 3) ∧ 192 = 189 + 3 := by decide +kernel
theorem d_X10_live_192 : decode cX10_live 192 = .ok (.goto (-138), 3) ∧ (192 : Int) + ((-138)) = ((54 : Nat) : Int) := by decide +kernel
theorem d_X10_live_195 : decode cX10_live 195 = .ok (.iload 6, 2) ∧ 197 = 195 + 2 := by decide +kernel
theorem d_X10_live_197 : decode cX10_live 197 = .ok (.ireturn, 1) := by decide +kernel
theorem d_X10_image_0 : decode cX10_image 0 = .ok (.aload_n 0, 1) ∧ 1 = 0 + 1 := by decide +kernel
theorem d_X10_image_1 : decode cX10_image 1 = .ok (.getfield 94, 3) ∧ 4 = 1 + 3 := by decide +kernel
theorem d_X10_image_4 : decode cX10_image 4 = .ok (.aload_n 0, 1) ∧ 5 = 4 + 1 := by decide +kernel
theorem d_X10_image_5 : decode cX10_image 5 = .ok (.getfield 10, 3) ∧ 8 = 5 + 3 := by decide +kernel
theorem d_X10_image_8 : decode cX10_image 8 = .ok (.getfield 103, 3) ∧ 11 = 8 + 3 := by decide +kernel
theorem d_X10_image_11 : decode cX10_image 11 = .ok (.putfield 284, 3) ∧ 14 = 11 + 3 := by decide +kernel
theorem d_X10_image_14 : decode cX10_image 14 = .ok (.aload_n 0, 1) ∧ 15 = 14 + 1 := by decide +kernel
theorem d_X10_image_15 : decode cX10_image 15 = .ok (.getfield 94, 3) ∧ 18 = 15 + 3 := by decide +kernel
theorem d_X10_image_18 : decode cX10_image 18 = .ok (.aload_n 0, 1) ∧ 19 = 18 + 1 := by decide +kernel
theorem d_X10_image_19 : decode cX10_image 19 = .ok (.getfield 10, 3) ∧ 22 = 19 + 3 := by decide +kernel
theorem d_X10_image_22 : decode cX10_image 22 = .ok (.getfield 213, 3) ∧ 25 = 22 + 3 := by decide +kernel
theorem d_X10_image_25 : decode cX10_image 25 = .ok (.putfield 286, 3) ∧ 28 = 25 + 3 := by decide +kernel
theorem d_X10_image_28 : decode cX10_image 28 = .ok (.aload_n 0, 1) ∧ 29 = 28 + 1 := by decide +kernel
theorem d_X10_image_29 : decode cX10_image 29 = .ok (.getfield 94, 3) ∧ 32 = 29 + 3 := by decide +kernel
theorem d_X10_image_32 : decode cX10_image 32 = .ok (.aload_n 0, 1) ∧ 33 = 32 + 1 := by decide +kernel
theorem d_X10_image_33 : decode cX10_image 33 = .ok (.getfield 10, 3) ∧ 36 = 33 + 3 := by decide +kernel
theorem d_X10_image_36 : decode cX10_image 36 = .ok (.getfield 117, 3) ∧ 39 = 36 + 3 := by decide +kernel
theorem d_X10_image_39 : decode cX10_image 39 = .ok (.putfield 287, 3) ∧ 42 = 39 + 3 := by decide +kernel
theorem d_X10_image_42 : decode cX10_image 42 = .ok (.aload_n 0, 1) ∧ 43 = 42 + 1 := by decide +kernel
theorem d_X10_image_43 : decode cX10_image 43 = .ok (.getfield 94, 3) ∧ 46 = 43 + 3 := by decide +kernel
theorem d_X10_image_46 : decode cX10_image 46 = .ok (.aload_n 0, 1) ∧ 47 = 46 + 1 := by decide +kernel
theorem d_X10_image_47 : decode cX10_image 47 = .ok (.getfield 19, 3) ∧ 50 = 47 + 3 := by decide +kernel
theorem d_X10_image_50 : decode cX10_image 50 = .ok (.getfield 120, 3) ∧ 53 = 50 + 3 := by decide +kernel
theorem d_X10_image_53 : decode cX10_image 53 = .ok (.putfield 288, 3) ∧ 56 = 53 + 3 := by decide +kernel
theorem d_X10_image_56 : decode cX10_image 56 = .ok (.aload_n 0, 1) ∧ 57 = 56 + 1 := by decide +kernel
theorem d_X10_image_57 : decode cX10_image 57 = .ok (.getfield 94, 3) ∧ 60 = 57 + 3 := by decide +kernel
theorem d_X10_image_60 : decode cX10_image 60 = .ok (.aload_n 0, 1) ∧ 61 = 60 + 1 := by decide +kernel
theorem d_X10_image_61 : decode cX10_image 61 = .ok (.getfield 159, 3) ∧ 64 = 61 + 3 := by decide +kernel
theorem d_X10_image_64 : decode cX10_image 64 = .ok (.putfield 290, 3) ∧ 67 = 64 + 3 := by decide +kernel
theorem d_X10_image_67 : decode cX10_image 67 = .ok (.aload_n 0, 1) ∧ 68 = 67 + 1 := by decide +kernel
theorem d_X10_image_68 : decode cX10_image 68 = .ok (.getfield 94, 3) ∧ 71 = 68 + 3 := by decide +kernel
theorem d_X10_image_71 : decode cX10_image 71 = .ok (.aload_n 0, 1) ∧ 72 = 71 + 1 := by decide +kernel
theorem d_X10_image_72 : decode cX10_image 72 = .ok (.getfield 26, 3) ∧ 75 = 72 + 3 := by decide +kernel
theorem d_X10_image_75 : decode cX10_image 75 = .ok (.getfield 292, 3) ∧ 78 = 75 + 3 := by decide +kernel
theorem d_X10_image_78 : decode cX10_image 78 = .ok (.putfield 293, 3) ∧ 81 = 78 + 3 := by decide +kernel
theorem d_X10_image_81 : decode cX10_image 81 = .ok (.aload_n 0, 1) ∧ 82 = 81 + 1 := by decide +kernel
theorem d_X10_image_82 : decode cX10_image 82 = .ok (.getfield 94, 3) ∧ 85 = 82 + 3 := by decide +kernel
theorem d_X10_image_85 : decode cX10_image 85 = .ok (.aload_n 0, 1) ∧ 86 = 85 + 1 := by decide +kernel
theorem d_X10_image_86 : decode cX10_image 86 = .ok (.getfield 33, 3) ∧ 89 = 86 + 3 := by decide +kernel
theorem d_X10_image_89 : decode cX10_image 89 = .ok (.getfield 295, 3) ∧ 92 = 89 + 3 := by decide +kernel
theorem d_X10_image_92 : decode cX10_image 92 = .ok (.putfield 296, 3) ∧ 95 = 92 + 3 := by decide +kernel
theorem d_X10_image_95 : decode cX10_image 95 = .ok (.aload_n 0, 1) ∧ 96 = 95 + 1 := by decide +kernel
theorem d_X10_image_96 : decode cX10_image 96 = .ok (.getfield 94, 3) ∧ 99 = 96 + 3 := by decide +kernel
theorem d_X10_image_99 : decode cX10_image 99 = .ok (.aload_n 0, 1) ∧ 100 = 99 + 1 := by decide +kernel
theorem d_X10_image_100 : decode cX10_image 100 = .ok (.getfield 61, 3) ∧ 103 = 100 + 3 := by decide +kernel
theorem d_X10_image_103 : decode cX10_image 103 = .ok (.putfield 299, 3) ∧ 106 = 103 + 3 := by decide +kernel
theorem d_X10_image_106 : decode cX10_image 106 = .ok (.aload_n 0, 1) ∧ 107 = 106 + 1 := by decide +kernel
theorem d_X10_image_107 : decode cX10_image 107 = .ok (.getfield 19, 3) ∧ 110 = 107 + 3 := by decide +kernel
theorem d_X10_image_110 : decode cX10_image 110 = .ok (.getfield 300, 3) ∧ 113 = 110 + 3 := by decide +kernel
theorem d_X10_image_113 : decode cX10_image 113 = .ok (.iconst 0, 1) ∧ 114 = 113 + 1 := by decide +kernel
theorem d_X10_image_114 : decode cX10_image 114 = .ok (.aload_n 0, 1) ∧ 115 = 114 + 1 := by decide +kernel
theorem d_X10_image_115 : decode cX10_image 115 = .ok (.getfield 94, 3) ∧ 118 = 115 + 3 := by decide +kernel
theorem d_X10_image_118 : decode cX10_image 118 = .ok (.getfield 303, 3) ∧ 121 = 118 + 3 := by decide +kernel
theorem d_X10_image_121 : decode cX10_image 121 = .ok (.iconst 0, 1) ∧ 122 = 121 + 1 := by decide +kernel
theorem d_X10_image_122 : decode cX10_image 122 = .ok (.aload_n 0, 1) ∧ 123 = 122 + 1 := by decide +kernel
theorem d_X10_image_123 : decode cX10_image 123 = .ok (.getfield 94, 3) ∧ 126 = 123 + 3 := by decide +kernel
theorem d_X10_image_126 : decode cX10_image 126 = .ok (.getfield 303, 3) ∧ 129 = 126 + 3 := by decide +kernel
theorem d_X10_image_129 : decode cX10_image 129 = .ok (.arraylength, 1) ∧ 130 = 129 + 1 := by decide +kernel
theorem d_X10_image_130 : decode cX10_image 130 = .ok (.invokestatic 304, 3) ∧ 133 = 130 + 3 := by decide +kernel
theorem d_X10_image_133 : decode cX10_image 133 = .ok (.aload_n 0, 1) ∧ 134 = 133 + 1 := by decide +kernel
theorem d_X10_image_134 : decode cX10_image 134 = .ok (.getfield 10, 3) ∧ 137 = 134 + 3 := by decide +kernel
theorem d_X10_image_137 : decode cX10_image 137 = .ok (.getfield 103, 3) ∧ 140 = 137 + 3 := by decide +kernel
theorem d_X10_image_140 : decode cX10_image 140 = .ok (.ireturn, 1) := by decide +kernel
theorem d_X10_again_0 : decode cX10_again 0 = .ok (.aload_n 0, 1) ∧ 1 = 0 + 1 := by decide +kernel
theorem d_X10_again_1 : decode cX10_again 1 = .ok (.getfield 10, 3) ∧ 4 = 1 + 3 := by decide +kernel
theorem d_X10_again_4 : decode cX10_again 4 = .ok (.aload_n 0, 1) ∧ 5 = 4 + 1 := by decide +kernel
theorem d_X10_again_5 : decode cX10_again 5 = .ok (.getfield 94, 3) ∧ 8 = 5 + 3 := by decide +kernel
theorem d_X10_again_8 : decode cX10_again 8 = .ok (.getfield 284, 3) ∧ 11 = 8 + 3 := by decide +kernel
theorem d_X10_again_11 : decode cX10_again 11 = .ok (.putfield 103, 3) ∧ 14 = 11 + 3 := by decide +kernel
theorem d_X10_again_14 : decode cX10_again 14 = .ok (.aload_n 0, 1) ∧ 15 = 14 + 1 := by decide +kernel
theorem d_X10_again_15 : decode cX10_again 15 = .ok (.getfield 10, 3) ∧ 18 = 15 + 3 := by decide +kernel
theorem d_X10_again_18 : decode cX10_again 18 = .ok (.aload_n 0, 1) ∧ 19 = 18 + 1 := by decide +kernel
theorem d_X10_again_19 : decode cX10_again 19 = .ok (.getfield 94, 3) ∧ 22 = 19 + 3 := by decide +kernel
theorem d_X10_again_22 : decode cX10_again 22 = .ok (.getfield 286, 3) ∧ 25 = 22 + 3 := by decide +kernel
theorem d_X10_again_25 : decode cX10_again 25 = .ok (.putfield 213, 3) ∧ 28 = 25 + 3 := by decide +kernel
theorem d_X10_again_28 : decode cX10_again 28 = .ok (.aload_n 0, 1) ∧ 29 = 28 + 1 := by decide +kernel
theorem d_X10_again_29 : decode cX10_again 29 = .ok (.getfield 10, 3) ∧ 32 = 29 + 3 := by decide +kernel
theorem d_X10_again_32 : decode cX10_again 32 = .ok (.aload_n 0, 1) ∧ 33 = 32 + 1 := by decide +kernel
theorem d_X10_again_33 : decode cX10_again 33 = .ok (.getfield 94, 3) ∧ 36 = 33 + 3 := by decide +kernel
theorem d_X10_again_36 : decode cX10_again 36 = .ok (.getfield 287, 3) ∧ 39 = 36 + 3 := by decide +kernel
theorem d_X10_again_39 : decode cX10_again 39 = .ok (.putfield 117, 3) ∧ 42 = 39 + 3 := by decide +kernel
theorem d_X10_again_42 : decode cX10_again 42 = .ok (.aload_n 0, 1) ∧ 43 = 42 + 1 := by decide +kernel
theorem d_X10_again_43 : decode cX10_again 43 = .ok (.getfield 19, 3) ∧ 46 = 43 + 3 := by decide +kernel
theorem d_X10_again_46 : decode cX10_again 46 = .ok (.aload_n 0, 1) ∧ 47 = 46 + 1 := by decide +kernel
theorem d_X10_again_47 : decode cX10_again 47 = .ok (.getfield 94, 3) ∧ 50 = 47 + 3 := by decide +kernel
theorem d_X10_again_50 : decode cX10_again 50 = .ok (.getfield 288, 3) ∧ 53 = 50 + 3 := by decide +kernel
theorem d_X10_again_53 : decode cX10_again 53 = .ok (.putfield 120, 3) ∧ 56 = 53 + 3 := by decide +kernel
theorem d_X10_again_56 : decode cX10_again 56 = .ok (.aload_n 0, 1) ∧ 57 = 56 + 1 := by decide +kernel
theorem d_X10_again_57 : decode cX10_again 57 = .ok (.aload_n 0, 1) ∧ 58 = 57 + 1 := by decide +kernel
theorem d_X10_again_58 : decode cX10_again 58 = .ok (.getfield 94, 3) ∧ 61 = 58 + 3 := by decide +kernel
theorem d_X10_again_61 : decode cX10_again 61 = .ok (.getfield 290, 3) ∧ 64 = 61 + 3 := by decide +kernel
theorem d_X10_again_64 : decode cX10_again 64 = .ok (.putfield 159, 3) ∧ 67 = 64 + 3 := by decide +kernel
theorem d_X10_again_67 : decode cX10_again 67 = .ok (.aload_n 0, 1) ∧ 68 = 67 + 1 := by decide +kernel
theorem d_X10_again_68 : decode cX10_again 68 = .ok (.getfield 26, 3) ∧ 71 = 68 + 3 := by decide +kernel
theorem d_X10_again_71 : decode cX10_again 71 = .ok (.aload_n 0, 1) ∧ 72 = 71 + 1 := by decide +kernel
theorem d_X10_again_72 : decode cX10_again 72 = .ok (.getfield 94, 3) ∧ 75 = 72 + 3 := by decide +kernel
theorem d_X10_again_75 : decode cX10_again 75 = .ok (.getfield 293, 3) ∧ 78 = 75 + 3 := by decide +kernel
theorem d_X10_again_78 : decode cX10_again 78 = .ok (.putfield 292, 3) ∧ 81 = 78 + 3 := by decide +kernel
theorem d_X10_again_81 : decode cX10_again 81 = .ok (.aload_n 0, 1) ∧ 82 = 81 + 1 := by decide +kernel
theorem d_X10_again_82 : decode cX10_again 82 = .ok (.getfield 33, 3) ∧ 85 = 82 + 3 := by decide +kernel
theorem d_X10_again_85 : decode cX10_again 85 = .ok (.aload_n 0, 1) ∧ 86 = 85 + 1 := by decide +kernel
theorem d_X10_again_86 : decode cX10_again 86 = .ok (.getfield 94, 3) ∧ 89 = 86 + 3 := by decide +kernel
theorem d_X10_again_89 : decode cX10_again 89 = .ok (.getfield 296, 3) ∧ 92 = 89 + 3 := by decide +kernel
theorem d_X10_again_92 : decode cX10_again 92 = .ok (.putfield 295, 3) ∧ 95 = 92 + 3 := by decide +kernel
theorem d_X10_again_95 : decode cX10_again 95 = .ok (.aload_n 0, 1) ∧ 96 = 95 + 1 := by decide +kernel
theorem d_X10_again_96 : decode cX10_again 96 = .ok (.aload_n 0, 1) ∧ 97 = 96 + 1 := by decide +kernel
theorem d_X10_again_97 : decode cX10_again 97 = .ok (.getfield 94, 3) ∧ 100 = 97 + 3 := by decide +kernel
theorem d_X10_again_100 : decode cX10_again 100 = .ok (.getfield 299, 3) ∧ 103 = 100 + 3 := by decide +kernel
theorem d_X10_again_103 : decode cX10_again 103 = .ok (.putfield 61, 3) ∧ 106 = 103 + 3 := by decide +kernel
theorem d_X10_again_106 : decode cX10_again 106 = .ok (.aload_n 0, 1) ∧ 107 = 106 + 1 := by decide +kernel
theorem d_X10_again_107 : decode cX10_again 107 = .ok (.getfield 94, 3) ∧ 110 = 107 + 3 := by decide +kernel
theorem d_X10_again_110 : decode cX10_again 110 = .ok (.getfield 303, 3) ∧ 113 = 110 + 3 := by decide +kernel
theorem d_X10_again_113 : decode cX10_again 113 = .ok (.iconst 0, 1) ∧ 114 = 113 + 1 := by decide +kernel
theorem d_X10_again_114 : decode cX10_again 114 = .ok (.aload_n 0, 1) ∧ 115 = 114 + 1 := by decide +kernel
theorem d_X10_again_115 : decode cX10_again 115 = .ok (.getfield 19, 3) ∧ 118 = 115 + 3 := by decide +kernel
theorem d_X10_again_118 : decode cX10_again 118 = .ok (.getfield 300, 3) ∧ 121 = 118 + 3 := by decide +kernel
theorem d_X10_again_121 : decode cX10_again 121 = .ok (.iconst 0, 1) ∧ 122 = 121 + 1 := by decide +kernel
theorem d_X10_again_122 : decode cX10_again 122 = .ok (.aload_n 0, 1) ∧ 123 = 122 + 1 := by decide +kernel
theorem d_X10_again_123 : decode cX10_again 123 = .ok (.getfield 94, 3) ∧ 126 = 123 + 3 := by decide +kernel
theorem d_X10_again_126 : decode cX10_again 126 = .ok (.getfield 303, 3) ∧ 129 = 126 + 3 := by decide +kernel
theorem d_X10_again_129 : decode cX10_again 129 = .ok (.arraylength, 1) ∧ 130 = 129 + 1 := by decide +kernel
theorem d_X10_again_130 : decode cX10_again 130 = .ok (.invokestatic 304, 3) ∧ 133 = 130 + 3 := by decide +kernel
theorem d_X10_again_133 : decode cX10_again 133 = .ok (.aload_n 0, 1) ∧ 134 = 133 + 1 := by decide +kernel
theorem d_X10_again_134 : decode cX10_again 134 = .ok (.getfield 74, 3) ∧ 137 = 134 + 3 := by decide +kernel
theorem d_X10_again_137 : decode cX10_again 137 = .ok (.invokevirtual 106, 3) ∧ 140 = 137 + 3 := by decide +kernel
theorem d_X10_again_140 : decode cX10_again 140 = .ok (.aload_n 0, 1) ∧ 141 = 140 + 1 := by decide +kernel
theorem d_X10_again_141 : decode cX10_again 141 = .ok (.getfield 10, 3) ∧ 144 = 141 + 3 := by decide +kernel
theorem d_X10_again_144 : decode cX10_again 144 = .ok (.getfield 103, 3) ∧ 147 = 144 + 3 := by decide +kernel
theorem d_X10_again_147 : decode cX10_again 147 = .ok (.ireturn, 1) := by decide +kernel
theorem d_X10_about_0 : decode cX10_about 0 = .ok (.iload_n 1, 1) ∧ 1 = 0 + 1 := by decide +kernel
theorem d_X10_about_1 : decode cX10_about 1 = .ok (.tableswitch 114 0 8 #[51, 59, 67, 72, 80, 88, 93, 98, 106], 51) := by decide +kernel
theorem d_X10_about_52 : decode cX10_about 52 = .ok (.aload_n 0, 1) ∧ 53 = 52 + 1 := by decide +kernel
theorem d_X10_about_53 : decode cX10_about 53 = .ok (.getfield 10, 3) ∧ 56 = 53 + 3 := by decide +kernel
theorem d_X10_about_56 : decode cX10_about 56 = .ok (.getfield 103, 3) ∧ 59 = 56 + 3 := by decide +kernel
theorem d_X10_about_59 : decode cX10_about 59 = .ok (.ireturn, 1) := by decide +kernel
theorem d_X10_about_60 : decode cX10_about 60 = .ok (.aload_n 0, 1) ∧ 61 = 60 + 1 := by decide +kernel
theorem d_X10_about_61 : decode cX10_about 61 = .ok (.getfield 19, 3) ∧ 64 = 61 + 3 := by decide +kernel
theorem d_X10_about_64 : decode cX10_about 64 = .ok (.getfield 120, 3) ∧ 67 = 64 + 3 := by decide +kernel
theorem d_X10_about_67 : decode cX10_about 67 = .ok (.ireturn, 1) := by decide +kernel
theorem d_X10_about_68 : decode cX10_about 68 = .ok (.aload_n 0, 1) ∧ 69 = 68 + 1 := by decide +kernel
theorem d_X10_about_69 : decode cX10_about 69 = .ok (.getfield 159, 3) ∧ 72 = 69 + 3 := by decide +kernel
theorem d_X10_about_72 : decode cX10_about 72 = .ok (.ireturn, 1) := by decide +kernel
theorem d_X10_about_73 : decode cX10_about 73 = .ok (.aload_n 0, 1) ∧ 74 = 73 + 1 := by decide +kernel
theorem d_X10_about_74 : decode cX10_about 74 = .ok (.getfield 26, 3) ∧ 77 = 74 + 3 := by decide +kernel
theorem d_X10_about_77 : decode cX10_about 77 = .ok (.getfield 292, 3) ∧ 80 = 77 + 3 := by decide +kernel
theorem d_X10_about_80 : decode cX10_about 80 = .ok (.ireturn, 1) := by decide +kernel
theorem d_X10_about_81 : decode cX10_about 81 = .ok (.aload_n 0, 1) ∧ 82 = 81 + 1 := by decide +kernel
theorem d_X10_about_82 : decode cX10_about 82 = .ok (.getfield 33, 3) ∧ 85 = 82 + 3 := by decide +kernel
theorem d_X10_about_85 : decode cX10_about 85 = .ok (.getfield 295, 3) ∧ 88 = 85 + 3 := by decide +kernel
theorem d_X10_about_88 : decode cX10_about 88 = .ok (.ireturn, 1) := by decide +kernel
theorem d_X10_about_89 : decode cX10_about 89 = .ok (.aload_n 0, 1) ∧ 90 = 89 + 1 := by decide +kernel
theorem d_X10_about_90 : decode cX10_about 90 = .ok (.getfield 61, 3) ∧ 93 = 90 + 3 := by decide +kernel
theorem d_X10_about_93 : decode cX10_about 93 = .ok (.ireturn, 1) := by decide +kernel
theorem d_X10_about_94 : decode cX10_about 94 = .ok (.aload_n 0, 1) ∧ 95 = 94 + 1 := by decide +kernel
theorem d_X10_about_95 : decode cX10_about 95 = .ok (.getfield 152, 3) ∧ 98 = 95 + 3 := by decide +kernel
theorem d_X10_about_98 : decode cX10_about 98 = .ok (.ireturn, 1) := by decide +kernel
theorem d_X10_about_99 : decode cX10_about 99 = .ok (.aload_n 0, 1) ∧ 100 = 99 + 1 := by decide +kernel
theorem d_X10_about_100 : decode cX10_about 100 = .ok (.getfield 10, 3) ∧ 103 = 100 + 3 := by decide +kernel
theorem d_X10_about_103 : decode cX10_about 103 = .ok (.getfield 117, 3) ∧ 106 = 103 + 3 := by decide +kernel
theorem d_X10_about_106 : decode cX10_about 106 = .ok (.ireturn, 1) := by decide +kernel
theorem d_X10_about_107 : decode cX10_about 107 = .ok (.aload_n 0, 1) ∧ 108 = 107 + 1 := by decide +kernel
theorem d_X10_about_108 : decode cX10_about 108 = .ok (.getfield 10, 3) ∧ 111 = 108 + 3 := by decide +kernel
theorem d_X10_about_111 : decode cX10_about 111 = .ok (.getfield 213, 3) ∧ 114 = 111 + 3 := by decide +kernel
theorem d_X10_about_114 : decode cX10_about 114 = .ok (.ireturn, 1) := by decide +kernel
theorem d_X10_about_115 : decode cX10_about 115 = .ok (.iconst (-1), 1) ∧ 116 = 115 + 1 := by decide +kernel
theorem d_X10_about_116 : decode cX10_about 116 = .ok (.ireturn, 1) := by decide +kernel
theorem d_X10_within_0 : decode cX10_within 0 = .ok (.iload_n 0, 1) ∧ 1 = 0 + 1 := by decide +kernel
theorem d_X10_within_1 : decode cX10_within 1 = .ok (.ifCond .lt 12, 3) ∧ 4 = 1 + 3 ∧ (1 : Int) + 12 = ((13 : Nat) : Int) := by decide +kernel
theorem d_X10_within_4 : decode cX10_within 4 = .ok (.iload_n 0, 1) ∧ 5 = 4 + 1 := by decide +kernel
theorem d_X10_within_5 : decode cX10_within 5 = .ok (.iload_n 1, 1) ∧ 6 = 5 + 1 := by decide +kernel
theorem d_X10_within_6 : decode cX10_within 6 = .ok (.if_icmp .gt 7, 3) ∧ 9 = 6 + 3 ∧ (6 : Int) + 7 = ((13 : Nat) : Int) := by decide +kernel
theorem d_X10_within_9 : decode cX10_within 9 = .ok (.iconst 1, 1) ∧ 10 = 9 + 1 := by decide +kernel
theorem d_X10_within_10 : decode cX10_within 10 = .ok (.goto 4, 3) ∧ (10 : Int) + (4) = ((14 : Nat) : Int) := by decide +kernel
theorem d_X10_within_13 : decode cX10_within 13 = .ok (.iconst 0, 1) ∧ 14 = 13 + 1 := by decide +kernel
theorem d_X10_within_14 : decode cX10_within 14 = .ok (.ireturn, 1) := by decide +kernel
theorem d_X10_isT_0 : decode cX10_isT 0 = .ok (.iload_n 0, 1) ∧ 1 = 0 + 1 := by decide +kernel
theorem d_X10_isT_1 : decode cX10_isT 1 = .ok (.iconst 1, 1) ∧ 2 = 1 + 1 := by decide +kernel
theorem d_X10_isT_2 : decode cX10_isT 2 = .ok (.if_icmp .lt 14, 3) ∧ 5 = 2 + 3 ∧ (2 : Int) + 14 = ((16 : Nat) : Int) := by decide +kernel
theorem d_X10_isT_5 : decode cX10_isT 5 = .ok (.iload_n 0, 1) ∧ 6 = 5 + 1 := by decide +kernel
theorem d_X10_isT_6 : decode cX10_isT 6 = .ok (.sipush 1000, 3) ∧ 9 = 6 + 3 := by decide +kernel
theorem d_X10_isT_9 : decode cX10_isT 9 = .ok (.if_icmp .gt 7, 3) ∧ 12 = 9 + 3 ∧ (9 : Int) + 7 = ((16 : Nat) : Int) := by decide +kernel
theorem d_X10_isT_12 : decode cX10_isT 12 = .ok (.iconst 1, 1) ∧ 13 = 12 + 1 := by decide +kernel
theorem d_X10_isT_13 : decode cX10_isT 13 = .ok (.goto 4, 3) ∧ (13 : Int) + (4) = ((17 : Nat) : Int) := by decide +kernel
theorem d_X10_isT_16 : decode cX10_isT 16 = .ok (.iconst 0, 1) ∧ 17 = 16 + 1 := by decide +kernel
theorem d_X10_isT_17 : decode cX10_isT 17 = .ok (.ireturn, 1) := by decide +kernel
theorem d_X10_isText_0 : decode cX10_isText 0 = .ok (.iload_n 1, 1) ∧ 1 = 0 + 1 := by decide +kernel
theorem d_X10_isText_1 : decode cX10_isText 1 = .ok (.ifCond .lt 15, 3) ∧ 4 = 1 + 3 ∧ (1 : Int) + 15 = ((16 : Nat) : Int) := by decide +kernel
theorem d_X10_isText_4 : decode cX10_isText 4 = .ok (.iload_n 1, 1) ∧ 5 = 4 + 1 := by decide +kernel
theorem d_X10_isText_5 : decode cX10_isText 5 = .ok (.aload_n 0, 1) ∧ 6 = 5 + 1 := by decide +kernel
theorem d_X10_isText_6 : decode cX10_isText 6 = .ok (.getfield 159, 3) ∧ 9 = 6 + 3 := by decide +kernel
theorem d_X10_isText_9 : decode cX10_isText 9 = .ok (.if_icmp .ge 7, 3) ∧ 12 = 9 + 3 ∧ (9 : Int) + 7 = ((16 : Nat) : Int) := by decide +kernel
theorem d_X10_isText_12 : decode cX10_isText 12 = .ok (.iconst 1, 1) ∧ 13 = 12 + 1 := by decide +kernel
theorem d_X10_isText_13 : decode cX10_isText 13 = .ok (.goto 4, 3) ∧ (13 : Int) + (4) = ((17 : Nat) : Int) := by decide +kernel
theorem d_X10_isText_16 : decode cX10_isText 16 = .ok (.iconst 0, 1) ∧ 17 = 16 + 1 := by decide +kernel
theorem d_X10_isText_17 : decode cX10_isText 17 = .ok (.ireturn, 1) := by decide +kernel
theorem d_X10_putFour_0 : decode cX10_putFour 0 = .ok (.bipush 24, 2) ∧ 2 = 0 + 2 := by decide +kernel
theorem d_X10_putFour_2 : decode cX10_putFour 2 = .ok (.istore_n 2, 1) ∧ 3 = 2 + 1 := by decide +kernel
theorem d_X10_putFour_3 : decode cX10_putFour 3 = .ok (.iload_n 2, 1) ∧ 4 = 3 + 1 := by decide +kernel
theorem d_X10_putFour_4 : decode cX10_putFour 4 = .ok (.ifCond .lt 47, 3) ∧ 7 = 4 + 3 ∧ (4 : Int) + 47 = ((51 : Nat) : Int) := by decide +kernel
theorem d_X10_putFour_7 : decode cX10_putFour 7 = .ok (.aload_n 0, 1) ∧ 8 = 7 + 1 := by decide +kernel
theorem d_X10_putFour_8 : decode cX10_putFour 8 = .ok (.getfield 152, 3) ∧ 11 = 8 + 3 := by decide +kernel
theorem d_X10_putFour_11 : decode cX10_putFour 11 = .ok (.aload_n 0, 1) ∧ 12 = 11 + 1 := by decide +kernel
theorem d_X10_putFour_12 : decode cX10_putFour 12 = .ok (.getfield 43, 3) ∧ 15 = 12 + 3 := by decide +kernel
theorem d_X10_putFour_15 : decode cX10_putFour 15 = .ok (.arraylength, 1) ∧ 16 = 15 + 1 := by decide +kernel
theorem d_X10_putFour_16 : decode cX10_putFour 16 = .ok (.if_icmp .ge 29, 3) ∧ 19 = 16 + 3 ∧ (16 : Int) + 29 = ((45 : Nat) : Int) := by decide +kernel
theorem d_X10_putFour_19 : decode cX10_putFour 19 = .ok (.aload_n 0, 1) ∧ 20 = 19 + 1 := by decide +kernel
theorem d_X10_putFour_20 : decode cX10_putFour 20 = .ok (.getfield 43, 3) ∧ 23 = 20 + 3 := by decide +kernel
theorem d_X10_putFour_23 : decode cX10_putFour 23 = .ok (.aload_n 0, 1) ∧ 24 = 23 + 1 := by decide +kernel
theorem d_X10_putFour_24 : decode cX10_putFour 24 = .ok (.getfield 152, 3) ∧ 27 = 24 + 3 := by decide +kernel
theorem d_X10_putFour_27 : decode cX10_putFour 27 = .ok (.iload_n 1, 1) ∧ 28 = 27 + 1 := by decide +kernel
theorem d_X10_putFour_28 : decode cX10_putFour 28 = .ok (.iload_n 2, 1) ∧ 29 = 28 + 1 := by decide +kernel
theorem d_X10_putFour_29 : decode cX10_putFour 29 = .ok (.ishr, 1) ∧ 30 = 29 + 1 := by decide +kernel
theorem d_X10_putFour_30 : decode cX10_putFour 30 = .ok (.sipush 255, 3) ∧ 33 = 30 + 3 := by decide +kernel
theorem d_X10_putFour_33 : decode cX10_putFour 33 = .ok (.iand, 1) ∧ 34 = 33 + 1 := by decide +kernel
theorem d_X10_putFour_34 : decode cX10_putFour 34 = .ok (.iastore, 1) ∧ 35 = 34 + 1 := by decide +kernel
theorem d_X10_putFour_35 : decode cX10_putFour 35 = .ok (.aload_n 0, 1) ∧ 36 = 35 + 1 := by decide +kernel
theorem d_X10_putFour_36 : decode cX10_putFour 36 = .ok (.dup, 1) ∧ 37 = 36 + 1 := by decide +kernel
theorem d_X10_putFour_37 : decode cX10_putFour 37 = .ok (.getfield 152, 3) ∧ 40 = 37 + 3 := by decide +kernel
theorem d_X10_putFour_40 : decode cX10_putFour 40 = .ok (.iconst 1, 1) ∧ 41 = 40 + 1 := by decide +kernel
theorem d_X10_putFour_41 : decode cX10_putFour 41 = .ok (.iadd, 1) ∧ 42 = 41 + 1 := by decide +kernel
theorem d_X10_putFour_42 : decode cX10_putFour 42 = .ok (.putfield 152, 3) ∧ 45 = 42 + 3 := by decide +kernel
theorem d_X10_putFour_45 : decode cX10_putFour 45 = .ok (.iinc 2 (-8), 3) ∧ 48 = 45 + 3 := by decide +kernel
theorem d_X10_putFour_48 : decode cX10_putFour 48 = .ok (.goto (-45), 3) ∧ (48 : Int) + ((-45)) = ((3 : Nat) : Int) := by decide +kernel
theorem d_X10_putFour_51 : decode cX10_putFour 51 = .ok (.return_, 1) := by decide +kernel
theorem d_X10_deal_0 : decode cX10_deal 0 = .ok (.aload_n 0, 1) ∧ 1 = 0 + 1 := by decide +kernel
theorem d_X10_deal_1 : decode cX10_deal 1 = .ok (.getfield 74, 3) ∧ 4 = 1 + 3 := by decide +kernel
theorem d_X10_deal_4 : decode cX10_deal 4 = .ok (.getfield 310, 3) ∧ 7 = 4 + 3 := by decide +kernel
theorem d_X10_deal_7 : decode cX10_deal 7 = .ok (.iload_n 1, 1) ∧ 8 = 7 + 1 := by decide +kernel
theorem d_X10_deal_8 : decode cX10_deal 8 = .ok (.if_icmp .eq 32, 3) ∧ 11 = 8 + 3 ∧ (8 : Int) + 32 = ((40 : Nat) : Int) := by decide +kernel
theorem d_X10_deal_11 : decode cX10_deal 11 = .ok (.aload_n 0, 1) ∧ 12 = 11 + 1 := by decide +kernel
theorem d_X10_deal_12 : decode cX10_deal 12 = .ok (.getfield 74, 3) ∧ 15 = 12 + 3 := by decide +kernel
theorem d_X10_deal_15 : decode cX10_deal 15 = .ok (.aload_n 0, 1) ∧ 16 = 15 + 1 := by decide +kernel
theorem d_X10_deal_16 : decode cX10_deal 16 = .ok (.getfield 39, 3) ∧ 19 = 16 + 3 := by decide +kernel
theorem d_X10_deal_19 : decode cX10_deal 19 = .ok (.iload_n 1, 1) ∧ 20 = 19 + 1 := by decide +kernel
theorem d_X10_deal_20 : decode cX10_deal 20 = .ok (.aaload, 1) ∧ 21 = 20 + 1 := by decide +kernel
theorem d_X10_deal_21 : decode cX10_deal 21 = .ok (.aload_n 0, 1) ∧ 22 = 21 + 1 := by decide +kernel
theorem d_X10_deal_22 : decode cX10_deal 22 = .ok (.getfield 10, 3) ∧ 25 = 22 + 3 := by decide +kernel
theorem d_X10_deal_25 : decode cX10_deal 25 = .ok (.aload_n 0, 1) ∧ 26 = 25 + 1 := by decide +kernel
theorem d_X10_deal_26 : decode cX10_deal 26 = .ok (.getfield 67, 3) ∧ 29 = 26 + 3 := by decide +kernel
theorem d_X10_deal_29 : decode cX10_deal 29 = .ok (.invokevirtual 313, 3) ∧ 32 = 29 + 3 := by decide +kernel
theorem d_X10_deal_32 : decode cX10_deal 32 = .ok (.aload_n 0, 1) ∧ 33 = 32 + 1 := by decide +kernel
theorem d_X10_deal_33 : decode cX10_deal 33 = .ok (.getfield 74, 3) ∧ 36 = 33 + 3 := by decide +kernel
theorem d_X10_deal_36 : decode cX10_deal 36 = .ok (.iload_n 1, 1) ∧ 37 = 36 + 1 := by decide +kernel
theorem d_X10_deal_37 : decode cX10_deal 37 = .ok (.putfield 310, 3) ∧ 40 = 37 + 3 := by decide +kernel
theorem d_X10_deal_40 : decode cX10_deal 40 = .ok (.return_, 1) := by decide +kernel
theorem d_X10_asFar_0 : decode cX10_asFar 0 = .ok (.aload_n 0, 1) ∧ 1 = 0 + 1 := by decide +kernel
theorem d_X10_asFar_1 : decode cX10_asFar 1 = .ok (.getfield 81, 3) ∧ 4 = 1 + 3 := by decide +kernel
theorem d_X10_asFar_4 : decode cX10_asFar 4 = .ok (.aload_n 0, 1) ∧ 5 = 4 + 1 := by decide +kernel
theorem d_X10_asFar_5 : decode cX10_asFar 5 = .ok (.getfield 19, 3) ∧ 8 = 5 + 3 := by decide +kernel
theorem d_X10_asFar_8 : decode cX10_asFar 8 = .ok (.iload_n 1, 1) ∧ 9 = 8 + 1 := by decide +kernel
theorem d_X10_asFar_9 : decode cX10_asFar 9 = .ok (.iload_n 2, 1) ∧ 10 = 9 + 1 := by decide +kernel
theorem d_X10_asFar_10 : decode cX10_asFar 10 = .ok (.invokevirtual 142, 3) ∧ 13 = 10 + 3 := by decide +kernel
theorem d_X10_asFar_13 : decode cX10_asFar 13 = .ok (.aload_n 0, 1) ∧ 14 = 13 + 1 := by decide +kernel
theorem d_X10_asFar_14 : decode cX10_asFar 14 = .ok (.getfield 81, 3) ∧ 17 = 14 + 3 := by decide +kernel
theorem d_X10_asFar_17 : decode cX10_asFar 17 = .ok (.aload_n 0, 1) ∧ 18 = 17 + 1 := by decide +kernel
theorem d_X10_asFar_18 : decode cX10_asFar 18 = .ok (.getfield 74, 3) ∧ 21 = 18 + 3 := by decide +kernel
theorem d_X10_asFar_21 : decode cX10_asFar 21 = .ok (.iload_n 3, 1) ∧ 22 = 21 + 1 := by decide +kernel
theorem d_X10_asFar_22 : decode cX10_asFar 22 = .ok (.invokevirtual 316, 3) ∧ 25 = 22 + 3 := by decide +kernel
theorem d_X10_asFar_25 : decode cX10_asFar 25 = .ok (.ireturn, 1) := by decide +kernel
theorem d_X10_stands_0 : decode cX10_stands 0 = .ok (.iload_n 1, 1) ∧ 1 = 0 + 1 := by decide +kernel
theorem d_X10_stands_1 : decode cX10_stands 1 = .ok (.iconst (-1), 1) ∧ 2 = 1 + 1 := by decide +kernel
theorem d_X10_stands_2 : decode cX10_stands 2 = .ok (.if_icmp .eq 24, 3) ∧ 5 = 2 + 3 ∧ (2 : Int) + 24 = ((26 : Nat) : Int) := by decide +kernel
theorem d_X10_stands_5 : decode cX10_stands 5 = .ok (.iload_n 1, 1) ∧ 6 = 5 + 1 := by decide +kernel
theorem d_X10_stands_6 : decode cX10_stands 6 = .ok (.sipush 1000, 3) ∧ 9 = 6 + 3 := by decide +kernel
theorem d_X10_stands_9 : decode cX10_stands 9 = .ok (.imul, 1) ∧ 10 = 9 + 1 := by decide +kernel
theorem d_X10_stands_10 : decode cX10_stands 10 = .ok (.iload_n 2, 1) ∧ 11 = 10 + 1 := by decide +kernel
theorem d_X10_stands_11 : decode cX10_stands 11 = .ok (.aload_n 0, 1) ∧ 12 = 11 + 1 := by decide +kernel
theorem d_X10_stands_12 : decode cX10_stands 12 = .ok (.getfield 74, 3) ∧ 15 = 12 + 3 := by decide +kernel
theorem d_X10_stands_15 : decode cX10_stands 15 = .ok (.getfield 178, 3) ∧ 18 = 15 + 3 := by decide +kernel
theorem d_X10_stands_18 : decode cX10_stands 18 = .ok (.imul, 1) ∧ 19 = 18 + 1 := by decide +kernel
theorem d_X10_stands_19 : decode cX10_stands 19 = .ok (.if_icmp .gt 7, 3) ∧ 22 = 19 + 3 ∧ (19 : Int) + 7 = ((26 : Nat) : Int) := by decide +kernel
theorem d_X10_stands_22 : decode cX10_stands 22 = .ok (.iconst 1, 1) ∧ 23 = 22 + 1 := by decide +kernel
theorem d_X10_stands_23 : decode cX10_stands 23 = .ok (.goto 4, 3) ∧ (23 : Int) + (4) = ((27 : Nat) : Int) := by decide +kernel
theorem d_X10_stands_26 : decode cX10_stands 26 = .ok (.iconst 0, 1) ∧ 27 = 26 + 1 := by decide +kernel
theorem d_X10_stands_27 : decode cX10_stands 27 = .ok (.ireturn, 1) := by decide +kernel
theorem d_X10_withOdds_0 : decode cX10_withOdds 0 = .ok (.iconst 0, 1) ∧ 1 = 0 + 1 := by decide +kernel
theorem d_X10_withOdds_1 : decode cX10_withOdds 1 = .ok (.istore_n 2, 1) ∧ 2 = 1 + 1 := by decide +kernel
theorem d_X10_withOdds_2 : decode cX10_withOdds 2 = .ok (.iconst 0, 1) ∧ 3 = 2 + 1 := by decide +kernel
theorem d_X10_withOdds_3 : decode cX10_withOdds 3 = .ok (.istore_n 3, 1) ∧ 4 = 3 + 1 := by decide +kernel
theorem d_X10_withOdds_4 : decode cX10_withOdds 4 = .ok (.iload_n 3, 1) ∧ 5 = 4 + 1 := by decide +kernel
theorem d_X10_withOdds_5 : decode cX10_withOdds 5 = .ok (.aload_n 0, 1) ∧ 6 = 5 + 1 := by decide +kernel
theorem d_X10_withOdds_6 : decode cX10_withOdds 6 = .ok (.getfield 19, 3) ∧ 9 = 6 + 3 := by decide +kernel
theorem d_X10_withOdds_9 : decode cX10_withOdds 9 = .ok (.getfield 120, 3) ∧ 12 = 9 + 3 := by decide +kernel
theorem d_X10_withOdds_12 : decode cX10_withOdds 12 = .ok (.if_icmp .ge 63, 3) ∧ 15 = 12 + 3 ∧ (12 : Int) + 63 = ((75 : Nat) : Int) := by decide +kernel
theorem d_X10_withOdds_15 : decode cX10_withOdds 15 = .ok (.iload_n 1, 1) ∧ 16 = 15 + 1 := by decide +kernel
theorem d_X10_withOdds_16 : decode cX10_withOdds 16 = .ok (.iload_n 3, 1) ∧ 17 = 16 + 1 := by decide +kernel
theorem d_X10_withOdds_17 : decode cX10_withOdds 17 = .ok (.ishr, 1) ∧ 18 = 17 + 1 := by decide +kernel
theorem d_X10_withOdds_18 : decode cX10_withOdds 18 = .ok (.iconst 1, 1) ∧ 19 = 18 + 1 := by decide +kernel
theorem d_X10_withOdds_19 : decode cX10_withOdds 19 = .ok (.iand, 1) ∧ 20 = 19 + 1 := by decide +kernel
theorem d_X10_withOdds_20 : decode cX10_withOdds 20 = .ok (.iconst 1, 1) ∧ 21 = 20 + 1 := by decide +kernel
theorem d_X10_withOdds_21 : decode cX10_withOdds 21 = .ok (.if_icmp .ne 48, 3) ∧ 24 = 21 + 3 ∧ (21 : Int) + 48 = ((69 : Nat) : Int) := by decide +kernel
theorem d_X10_withOdds_24 : decode cX10_withOdds 24 = .ok (.aload_n 0, 1) ∧ 25 = 24 + 1 := by decide +kernel
theorem d_X10_withOdds_25 : decode cX10_withOdds 25 = .ok (.getfield 88, 3) ∧ 28 = 25 + 3 := by decide +kernel
theorem d_X10_withOdds_28 : decode cX10_withOdds 28 = .ok (.iload_n 3, 1) ∧ 29 = 28 + 1 := by decide +kernel
theorem d_X10_withOdds_29 : decode cX10_withOdds 29 = .ok (.aload_n 0, 1) ∧ 30 = 29 + 1 := by decide +kernel
theorem d_X10_withOdds_30 : decode cX10_withOdds 30 = .ok (.iload_n 3, 1) ∧ 31 = 30 + 1 := by decide +kernel
theorem d_X10_withOdds_31 : decode cX10_withOdds 31 = .ok (.aload_n 0, 1) ∧ 32 = 31 + 1 := by decide +kernel
theorem d_X10_withOdds_32 : decode cX10_withOdds 32 = .ok (.getfield 10, 3) ∧ 35 = 32 + 3 := by decide +kernel
theorem d_X10_withOdds_35 : decode cX10_withOdds 35 = .ok (.invokevirtual 134, 3) ∧ 38 = 35 + 3 := by decide +kernel
theorem d_X10_withOdds_38 : decode cX10_withOdds 38 = .ok (.aload_n 0, 1) ∧ 39 = 38 + 1 := by decide +kernel
theorem d_X10_withOdds_39 : decode cX10_withOdds 39 = .ok (.getfield 10, 3) ∧ 42 = 39 + 3 := by decide +kernel
theorem d_X10_withOdds_42 : decode cX10_withOdds 42 = .ok (.getfield 117, 3) ∧ 45 = 42 + 3 := by decide +kernel
theorem d_X10_withOdds_45 : decode cX10_withOdds 45 = .ok (.invokevirtual 185, 3) ∧ 48 = 45 + 3 := by decide +kernel
theorem d_X10_withOdds_48 : decode cX10_withOdds 48 = .ok (.iastore, 1) ∧ 49 = 48 + 1 := by decide +kernel
theorem d_X10_withOdds_49 : decode cX10_withOdds 49 = .ok (.iload_n 2, 1) ∧ 50 = 49 + 1 := by decide +kernel
theorem d_X10_withOdds_50 : decode cX10_withOdds 50 = .ok (.aload_n 0, 1) ∧ 51 = 50 + 1 := by decide +kernel
theorem d_X10_withOdds_51 : decode cX10_withOdds 51 = .ok (.getfield 88, 3) ∧ 54 = 51 + 3 := by decide +kernel
theorem d_X10_withOdds_54 : decode cX10_withOdds 54 = .ok (.iload_n 3, 1) ∧ 55 = 54 + 1 := by decide +kernel
theorem d_X10_withOdds_55 : decode cX10_withOdds 55 = .ok (.iaload, 1) ∧ 56 = 55 + 1 := by decide +kernel
theorem d_X10_withOdds_56 : decode cX10_withOdds 56 = .ok (.iconst (-1), 1) ∧ 57 = 56 + 1 := by decide +kernel
theorem d_X10_withOdds_57 : decode cX10_withOdds 57 = .ok (.if_icmp .ne 7, 3) ∧ 60 = 57 + 3 ∧ (57 : Int) + 7 = ((64 : Nat) : Int) := by decide +kernel
theorem d_X10_withOdds_60 : decode cX10_withOdds 60 = .ok (.iconst 0, 1) ∧ 61 = 60 + 1 := by decide +kernel
theorem d_X10_withOdds_61 : decode cX10_withOdds 61 = .ok (.goto 6, 3) ∧ (61 : Int) + (6) = ((67 : Nat) : Int) := by decide +kernel
theorem d_X10_withOdds_64 : decode cX10_withOdds 64 = .ok (.iconst 1, 1) ∧ 65 = 64 + 1 := by decide +kernel
theorem d_X10_withOdds_65 : decode cX10_withOdds 65 = .ok (.iload_n 3, 1) ∧ 66 = 65 + 1 := by decide +kernel
theorem d_X10_withOdds_66 : decode cX10_withOdds 66 = .ok (.ishl, 1) ∧ 67 = 66 + 1 := by decide +kernel
theorem d_X10_withOdds_67 : decode cX10_withOdds 67 = .ok (.ior, 1) ∧ 68 = 67 + 1 := by decide +kernel
theorem d_X10_withOdds_68 : decode cX10_withOdds 68 = .ok (.istore_n 2, 1) ∧ 69 = 68 + 1 := by decide +kernel
theorem d_X10_withOdds_69 : decode cX10_withOdds 69 = .ok (.iinc 3 1, 3) ∧ 72 = 69 + 3 := by decide +kernel
theorem d_X10_withOdds_72 : decode cX10_withOdds 72 = .ok (.goto (-68), 3) ∧ (72 : Int) + ((-68)) = ((4 : Nat) : Int) := by decide +kernel
theorem d_X10_withOdds_75 : decode cX10_withOdds 75 = .ok (.iload_n 2, 1) ∧ 76 = 75 + 1 := by decide +kernel
theorem d_X10_withOdds_76 : decode cX10_withOdds 76 = .ok (.ireturn, 1) := by decide +kernel
theorem d_X10_leastOf_0 : decode cX10_leastOf 0 = .ok (.iconst (-1), 1) ∧ 1 = 0 + 1 := by decide +kernel
theorem d_X10_leastOf_1 : decode cX10_leastOf 1 = .ok (.istore_n 2, 1) ∧ 2 = 1 + 1 := by decide +kernel
theorem d_X10_leastOf_2 : decode cX10_leastOf 2 = .ok (.iconst 0, 1) ∧ 3 = 2 + 1 := by decide +kernel
theorem d_X10_leastOf_3 : decode cX10_leastOf 3 = .ok (.istore_n 3, 1) ∧ 4 = 3 + 1 := by decide +kernel
theorem d_X10_leastOf_4 : decode cX10_leastOf 4 = .ok (.iload_n 3, 1) ∧ 5 = 4 + 1 := by decide +kernel
theorem d_X10_leastOf_5 : decode cX10_leastOf 5 = .ok (.aload_n 0, 1) ∧ 6 = 5 + 1 := by decide +kernel
theorem d_X10_leastOf_6 : decode cX10_leastOf 6 = .ok (.arraylength, 1) ∧ 7 = 6 + 1 := by decide +kernel
theorem d_X10_leastOf_7 : decode cX10_leastOf 7 = .ok (.if_icmp .ge 34, 3) ∧ 10 = 7 + 3 ∧ (7 : Int) + 34 = ((41 : Nat) : Int) := by decide +kernel
theorem d_X10_leastOf_10 : decode cX10_leastOf 10 = .ok (.iload_n 1, 1) ∧ 11 = 10 + 1 := by decide +kernel
theorem d_X10_leastOf_11 : decode cX10_leastOf 11 = .ok (.iload_n 3, 1) ∧ 12 = 11 + 1 := by decide +kernel
theorem d_X10_leastOf_12 : decode cX10_leastOf 12 = .ok (.ishr, 1) ∧ 13 = 12 + 1 := by decide +kernel
theorem d_X10_leastOf_13 : decode cX10_leastOf 13 = .ok (.iconst 1, 1) ∧ 14 = 13 + 1 := by decide +kernel
theorem d_X10_leastOf_14 : decode cX10_leastOf 14 = .ok (.iand, 1) ∧ 15 = 14 + 1 := by decide +kernel
theorem d_X10_leastOf_15 : decode cX10_leastOf 15 = .ok (.iconst 1, 1) ∧ 16 = 15 + 1 := by decide +kernel
theorem d_X10_leastOf_16 : decode cX10_leastOf 16 = .ok (.if_icmp .ne 19, 3) ∧ 19 = 16 + 3 ∧ (16 : Int) + 19 = ((35 : Nat) : Int) := by decide +kernel
theorem d_X10_leastOf_19 : decode cX10_leastOf 19 = .ok (.iload_n 2, 1) ∧ 20 = 19 + 1 := by decide +kernel
theorem d_X10_leastOf_20 : decode cX10_leastOf 20 = .ok (.iconst (-1), 1) ∧ 21 = 20 + 1 := by decide +kernel
theorem d_X10_leastOf_21 : decode cX10_leastOf 21 = .ok (.if_icmp .eq 12, 3) ∧ 24 = 21 + 3 ∧ (21 : Int) + 12 = ((33 : Nat) : Int) := by decide +kernel
theorem d_X10_leastOf_24 : decode cX10_leastOf 24 = .ok (.aload_n 0, 1) ∧ 25 = 24 + 1 := by decide +kernel
theorem d_X10_leastOf_25 : decode cX10_leastOf 25 = .ok (.iload_n 3, 1) ∧ 26 = 25 + 1 := by decide +kernel
theorem d_X10_leastOf_26 : decode cX10_leastOf 26 = .ok (.iaload, 1) ∧ 27 = 26 + 1 := by decide +kernel
theorem d_X10_leastOf_27 : decode cX10_leastOf 27 = .ok (.aload_n 0, 1) ∧ 28 = 27 + 1 := by decide +kernel
theorem d_X10_leastOf_28 : decode cX10_leastOf 28 = .ok (.iload_n 2, 1) ∧ 29 = 28 + 1 := by decide +kernel
theorem d_X10_leastOf_29 : decode cX10_leastOf 29 = .ok (.iaload, 1) ∧ 30 = 29 + 1 := by decide +kernel
theorem d_X10_leastOf_30 : decode cX10_leastOf 30 = .ok (.if_icmp .ge 5, 3) ∧ 33 = 30 + 3 ∧ (30 : Int) + 5 = ((35 : Nat) : Int) := by decide +kernel
theorem d_X10_leastOf_33 : decode cX10_leastOf 33 = .ok (.iload_n 3, 1) ∧ 34 = 33 + 1 := by decide +kernel
theorem d_X10_leastOf_34 : decode cX10_leastOf 34 = .ok (.istore_n 2, 1) ∧ 35 = 34 + 1 := by decide +kernel
theorem d_X10_leastOf_35 : decode cX10_leastOf 35 = .ok (.iinc 3 1, 3) ∧ 38 = 35 + 3 := by decide +kernel
theorem d_X10_leastOf_38 : decode cX10_leastOf 38 = .ok (.goto (-34), 3) ∧ (38 : Int) + ((-34)) = ((4 : Nat) : Int) := by decide +kernel
theorem d_X10_leastOf_41 : decode cX10_leastOf 41 = .ok (.iload_n 2, 1) ∧ 42 = 41 + 1 := by decide +kernel
theorem d_X10_leastOf_42 : decode cX10_leastOf 42 = .ok (.ireturn, 1) := by decide +kernel
theorem d_X10_fewest_0 : decode cX10_fewest 0 = .ok (.aload_n 0, 1) ∧ 1 = 0 + 1 := by decide +kernel
theorem d_X10_fewest_1 : decode cX10_fewest 1 = .ok (.getfield 10, 3) ∧ 4 = 1 + 3 := by decide +kernel
theorem d_X10_fewest_4 : decode cX10_fewest 4 = .ok (.invokevirtual 134, 3) ∧ 7 = 4 + 3 := by decide +kernel
theorem d_X10_fewest_7 : decode cX10_fewest 7 = .ok (.istore_n 3, 1) ∧ 8 = 7 + 1 := by decide +kernel
theorem d_X10_fewest_8 : decode cX10_fewest 8 = .ok (.aload_n 0, 1) ∧ 9 = 8 + 1 := by decide +kernel
theorem d_X10_fewest_9 : decode cX10_fewest 9 = .ok (.aload_n 0, 1) ∧ 10 = 9 + 1 := by decide +kernel
theorem d_X10_fewest_10 : decode cX10_fewest 10 = .ok (.iload_n 1, 1) ∧ 11 = 10 + 1 := by decide +kernel
theorem d_X10_fewest_11 : decode cX10_fewest 11 = .ok (.iload_n 3, 1) ∧ 12 = 11 + 1 := by decide +kernel
theorem d_X10_fewest_12 : decode cX10_fewest 12 = .ok (.aload_n 0, 1) ∧ 13 = 12 + 1 := by decide +kernel
theorem d_X10_fewest_13 : decode cX10_fewest 13 = .ok (.getfield 10, 3) ∧ 16 = 13 + 3 := by decide +kernel
theorem d_X10_fewest_16 : decode cX10_fewest 16 = .ok (.getfield 117, 3) ∧ 19 = 16 + 3 := by decide +kernel
theorem d_X10_fewest_19 : decode cX10_fewest 19 = .ok (.invokevirtual 185, 3) ∧ 22 = 19 + 3 := by decide +kernel
theorem d_X10_fewest_22 : decode cX10_fewest 22 = .ok (.iload_n 2, 1) ∧ 23 = 22 + 1 := by decide +kernel
theorem d_X10_fewest_23 : decode cX10_fewest 23 = .ok (.invokevirtual 189, 3) ∧ 26 = 23 + 3 := by decide +kernel
theorem d_X10_fewest_26 : decode cX10_fewest 26 = .ok (.ifCond .ne 5, 3) ∧ 29 = 26 + 3 ∧ (26 : Int) + 5 = ((31 : Nat) : Int) := by decide +kernel
theorem d_X10_fewest_29 : decode cX10_fewest 29 = .ok (.iconst 0, 1) ∧ 30 = 29 + 1 := by decide +kernel
theorem d_X10_fewest_30 : decode cX10_fewest 30 = .ok (.ireturn, 1) := by decide +kernel
theorem d_X10_fewest_31 : decode cX10_fewest 31 = .ok (.iconst 0, 1) ∧ 32 = 31 + 1 := by decide +kernel
theorem d_X10_fewest_32 : decode cX10_fewest 32 = .ok (.istore 4, 2) ∧ 34 = 32 + 2 := by decide +kernel
theorem d_X10_fewest_34 : decode cX10_fewest 34 = .ok (.iload 4, 2) ∧ 36 = 34 + 2 := by decide +kernel
theorem d_X10_fewest_36 : decode cX10_fewest 36 = .ok (.aload_n 0, 1) ∧ 37 = 36 + 1 := by decide +kernel
theorem d_X10_fewest_37 : decode cX10_fewest 37 = .ok (.getfield 10, 3) ∧ 40 = 37 + 3 := by decide +kernel
theorem d_X10_fewest_40 : decode cX10_fewest 40 = .ok (.getfield 103, 3) ∧ 43 = 40 + 3 := by decide +kernel
theorem d_X10_fewest_43 : decode cX10_fewest 43 = .ok (.if_icmp .ge 42, 3) ∧ 46 = 43 + 3 ∧ (43 : Int) + 42 = ((85 : Nat) : Int) := by decide +kernel
theorem d_X10_fewest_46 : decode cX10_fewest 46 = .ok (.aload_n 0, 1) ∧ 47 = 46 + 1 := by decide +kernel
theorem d_X10_fewest_47 : decode cX10_fewest 47 = .ok (.aload_n 0, 1) ∧ 48 = 47 + 1 := by decide +kernel
theorem d_X10_fewest_48 : decode cX10_fewest 48 = .ok (.iload_n 1, 1) ∧ 49 = 48 + 1 := by decide +kernel
theorem d_X10_fewest_49 : decode cX10_fewest 49 = .ok (.iload_n 3, 1) ∧ 50 = 49 + 1 := by decide +kernel
theorem d_X10_fewest_50 : decode cX10_fewest 50 = .ok (.iconst 1, 1) ∧ 51 = 50 + 1 := by decide +kernel
theorem d_X10_fewest_51 : decode cX10_fewest 51 = .ok (.iload 4, 2) ∧ 53 = 51 + 2 := by decide +kernel
theorem d_X10_fewest_53 : decode cX10_fewest 53 = .ok (.ishl, 1) ∧ 54 = 53 + 1 := by decide +kernel
theorem d_X10_fewest_54 : decode cX10_fewest 54 = .ok (.iconst (-1), 1) ∧ 55 = 54 + 1 := by decide +kernel
theorem d_X10_fewest_55 : decode cX10_fewest 55 = .ok (.ixor, 1) ∧ 56 = 55 + 1 := by decide +kernel
theorem d_X10_fewest_56 : decode cX10_fewest 56 = .ok (.iand, 1) ∧ 57 = 56 + 1 := by decide +kernel
theorem d_X10_fewest_57 : decode cX10_fewest 57 = .ok (.aload_n 0, 1) ∧ 58 = 57 + 1 := by decide +kernel
theorem d_X10_fewest_58 : decode cX10_fewest 58 = .ok (.getfield 10, 3) ∧ 61 = 58 + 3 := by decide +kernel
theorem d_X10_fewest_61 : decode cX10_fewest 61 = .ok (.getfield 117, 3) ∧ 64 = 61 + 3 := by decide +kernel
theorem d_X10_fewest_64 : decode cX10_fewest 64 = .ok (.invokevirtual 185, 3) ∧ 67 = 64 + 3 := by decide +kernel
theorem d_X10_fewest_67 : decode cX10_fewest 67 = .ok (.iload_n 2, 1) ∧ 68 = 67 + 1 := by decide +kernel
theorem d_X10_fewest_68 : decode cX10_fewest 68 = .ok (.invokevirtual 189, 3) ∧ 71 = 68 + 3 := by decide +kernel
theorem d_X10_fewest_71 : decode cX10_fewest 71 = .ok (.ifCond .ne 8, 3) ∧ 74 = 71 + 3 ∧ (71 : Int) + 8 = ((79 : Nat) : Int) := by decide +kernel
theorem d_X10_fewest_74 : decode cX10_fewest 74 = .ok (.iconst 1, 1) ∧ 75 = 74 + 1 := by decide +kernel
theorem d_X10_fewest_75 : decode cX10_fewest 75 = .ok (.iload 4, 2) ∧ 77 = 75 + 2 := by decide +kernel
theorem d_X10_fewest_77 : decode cX10_fewest 77 = .ok (.ishl, 1) ∧ 78 = 77 + 1 := by decide +kernel
theorem d_X10_fewest_78 : decode cX10_fewest 78 = .ok (.ireturn, 1) := by decide +kernel
theorem d_X10_fewest_79 : decode cX10_fewest 79 = .ok (.iinc 4 1, 3) ∧ 82 = 79 + 3 := by decide +kernel
theorem d_X10_fewest_82 : decode cX10_fewest 82 = .ok (.goto (-48), 3) ∧ (82 : Int) + ((-48)) = ((34 : Nat) : Int) := by decide +kernel
theorem d_X10_fewest_85 : decode cX10_fewest 85 = .ok (.iconst 0, 1) ∧ 86 = 85 + 1 := by decide +kernel
theorem d_X10_fewest_86 : decode cX10_fewest 86 = .ok (.istore 4, 2) ∧ 88 = 86 + 2 := by decide +kernel
theorem d_X10_fewest_88 : decode cX10_fewest 88 = .ok (.iload 4, 2) ∧ 90 = 88 + 2 := by decide +kernel
theorem d_X10_fewest_90 : decode cX10_fewest 90 = .ok (.aload_n 0, 1) ∧ 91 = 90 + 1 := by decide +kernel
theorem d_X10_fewest_91 : decode cX10_fewest 91 = .ok (.getfield 10, 3) ∧ 94 = 91 + 3 := by decide +kernel
theorem d_X10_fewest_94 : decode cX10_fewest 94 = .ok (.getfield 103, 3) ∧ 97 = 94 + 3 := by decide +kernel
theorem d_X10_fewest_97 : decode cX10_fewest 97 = .ok (.if_icmp .ge 73, 3) ∧ 100 = 97 + 3 ∧ (97 : Int) + 73 = ((170 : Nat) : Int) := by decide +kernel
theorem d_X10_fewest_100 : decode cX10_fewest 100 = .ok (.iload 4, 2) ∧ 102 = 100 + 2 := by decide +kernel
theorem d_X10_fewest_102 : decode cX10_fewest 102 = .ok (.iconst 1, 1) ∧ 103 = 102 + 1 := by decide +kernel
theorem d_X10_fewest_103 : decode cX10_fewest 103 = .ok (.iadd, 1) ∧ 104 = 103 + 1 := by decide +kernel
theorem d_X10_fewest_104 : decode cX10_fewest 104 = .ok (.istore 5, 2) ∧ 106 = 104 + 2 := by decide +kernel
theorem d_X10_fewest_106 : decode cX10_fewest 106 = .ok (.iload 5, 2) ∧ 108 = 106 + 2 := by decide +kernel
theorem d_X10_fewest_108 : decode cX10_fewest 108 = .ok (.aload_n 0, 1) ∧ 109 = 108 + 1 := by decide +kernel
theorem d_X10_fewest_109 : decode cX10_fewest 109 = .ok (.getfield 10, 3) ∧ 112 = 109 + 3 := by decide +kernel
theorem d_X10_fewest_112 : decode cX10_fewest 112 = .ok (.getfield 103, 3) ∧ 115 = 112 + 3 := by decide +kernel
theorem d_X10_fewest_115 : decode cX10_fewest 115 = .ok (.if_icmp .ge 49, 3) ∧ 118 = 115 + 3 ∧ (115 : Int) + 49 = ((164 : Nat) : Int) := by decide +kernel
theorem d_X10_fewest_118 : decode cX10_fewest 118 = .ok (.iconst 1, 1) ∧ 119 = 118 + 1 := by decide +kernel
theorem d_X10_fewest_119 : decode cX10_fewest 119 = .ok (.iload 4, 2) ∧ 121 = 119 + 2 := by decide +kernel
theorem d_X10_fewest_121 : decode cX10_fewest 121 = .ok (.ishl, 1) ∧ 122 = 121 + 1 := by decide +kernel
theorem d_X10_fewest_122 : decode cX10_fewest 122 = .ok (.iconst 1, 1) ∧ 123 = 122 + 1 := by decide +kernel
theorem d_X10_fewest_123 : decode cX10_fewest 123 = .ok (.iload 5, 2) ∧ 125 = 123 + 2 := by decide +kernel
theorem d_X10_fewest_125 : decode cX10_fewest 125 = .ok (.ishl, 1) ∧ 126 = 125 + 1 := by decide +kernel
theorem d_X10_fewest_126 : decode cX10_fewest 126 = .ok (.ior, 1) ∧ 127 = 126 + 1 := by decide +kernel
theorem d_X10_fewest_127 : decode cX10_fewest 127 = .ok (.istore 6, 2) ∧ 129 = 127 + 2 := by decide +kernel
theorem d_X10_fewest_129 : decode cX10_fewest 129 = .ok (.aload_n 0, 1) ∧ 130 = 129 + 1 := by decide +kernel
theorem d_X10_fewest_130 : decode cX10_fewest 130 = .ok (.aload_n 0, 1) ∧ 131 = 130 + 1 := by decide +kernel
theorem d_X10_fewest_131 : decode cX10_fewest 131 = .ok (.iload_n 1, 1) ∧ 132 = 131 + 1 := by decide +kernel
theorem d_X10_fewest_132 : decode cX10_fewest 132 = .ok (.iload_n 3, 1) ∧ 133 = 132 + 1 := by decide +kernel
theorem d_X10_fewest_133 : decode cX10_fewest 133 = .ok (.iload 6, 2) ∧ 135 = 133 + 2 := by decide +kernel
theorem d_X10_fewest_135 : decode cX10_fewest 135 = .ok (.iconst (-1), 1) ∧ 136 = 135 + 1 := by decide +kernel
theorem d_X10_fewest_136 : decode cX10_fewest 136 = .ok (.ixor, 1) ∧ 137 = 136 + 1 := by decide +kernel
theorem d_X10_fewest_137 : decode cX10_fewest 137 = .ok (.iand, 1) ∧ 138 = 137 + 1 := by decide +kernel
theorem d_X10_fewest_138 : decode cX10_fewest 138 = .ok (.aload_n 0, 1) ∧ 139 = 138 + 1 := by decide +kernel
theorem d_X10_fewest_139 : decode cX10_fewest 139 = .ok (.getfield 10, 3) ∧ 142 = 139 + 3 := by decide +kernel
theorem d_X10_fewest_142 : decode cX10_fewest 142 = .ok (.getfield 117, 3) ∧ 145 = 142 + 3 := by decide +kernel
theorem d_X10_fewest_145 : decode cX10_fewest 145 = .ok (.invokevirtual 185, 3) ∧ 148 = 145 + 3 := by decide +kernel
theorem d_X10_fewest_148 : decode cX10_fewest 148 = .ok (.iload_n 2, 1) ∧ 149 = 148 + 1 := by decide +kernel
theorem d_X10_fewest_149 : decode cX10_fewest 149 = .ok (.invokevirtual 189, 3) ∧ 152 = 149 + 3 := by decide +kernel
theorem d_X10_fewest_152 : decode cX10_fewest 152 = .ok (.ifCond .ne 6, 3) ∧ 155 = 152 + 3 ∧ (152 : Int) + 6 = ((158 : Nat) : Int) := by decide +kernel
theorem d_X10_fewest_155 : decode cX10_fewest 155 = .ok (.iload 6, 2) ∧ 157 = 155 + 2 := by decide +kernel
theorem d_X10_fewest_157 : decode cX10_fewest 157 = .ok (.ireturn, 1) := by decide +kernel
theorem d_X10_fewest_158 : decode cX10_fewest 158 = .ok (.iinc 5 1, 3) ∧ 161 = 158 + 3 := by decide +kernel
theorem d_X10_fewest_161 : decode cX10_fewest 161 = .ok (.goto (-55), 3) ∧ (161 : Int) + ((-55)) = ((106 : Nat) : Int) := by decide +kernel
theorem d_X10_fewest_164 : decode cX10_fewest 164 = .ok (.iinc 4 1, 3) ∧ 167 = 164 + 3 := by decide +kernel
theorem d_X10_fewest_167 : decode cX10_fewest 167 = .ok (.goto (-79), 3) ∧ (167 : Int) + ((-79)) = ((88 : Nat) : Int) := by decide +kernel
theorem d_X10_fewest_170 : decode cX10_fewest 170 = .ok (.iconst (-1), 1) ∧ 171 = 170 + 1 := by decide +kernel
theorem d_X10_fewest_171 : decode cX10_fewest 171 = .ok (.ireturn, 1) := by decide +kernel
theorem d_X10_lowest_0 : decode cX10_lowest 0 = .ok (.iload_n 0, 1) ∧ 1 = 0 + 1 := by decide +kernel
theorem d_X10_lowest_1 : decode cX10_lowest 1 = .ok (.ifCond .ne 7, 3) ∧ 4 = 1 + 3 ∧ (1 : Int) + 7 = ((8 : Nat) : Int) := by decide +kernel
theorem d_X10_lowest_4 : decode cX10_lowest 4 = .ok (.iconst (-1), 1) ∧ 5 = 4 + 1 := by decide +kernel
theorem d_X10_lowest_5 : decode cX10_lowest 5 = .ok (.goto 12, 3) ∧ (5 : Int) + (12) = ((17 : Nat) : Int) := by decide +kernel
theorem d_X10_lowest_8 : decode cX10_lowest 8 = .ok (.iload_n 0, 1) ∧ 9 = 8 + 1 := by decide +kernel
theorem d_X10_lowest_9 : decode cX10_lowest 9 = .ok (.iload_n 0, 1) ∧ 10 = 9 + 1 := by decide +kernel
theorem d_X10_lowest_10 : decode cX10_lowest 10 = .ok (.ineg, 1) ∧ 11 = 10 + 1 := by decide +kernel
theorem d_X10_lowest_11 : decode cX10_lowest 11 = .ok (.iand, 1) ∧ 12 = 11 + 1 := by decide +kernel
theorem d_X10_lowest_12 : decode cX10_lowest 12 = .ok (.iconst 1, 1) ∧ 13 = 12 + 1 := by decide +kernel
theorem d_X10_lowest_13 : decode cX10_lowest 13 = .ok (.isub, 1) ∧ 14 = 13 + 1 := by decide +kernel
theorem d_X10_lowest_14 : decode cX10_lowest 14 = .ok (.invokestatic 198, 3) ∧ 17 = 14 + 3 := by decide +kernel
theorem d_X10_lowest_17 : decode cX10_lowest 17 = .ok (.ireturn, 1) := by decide +kernel
theorem d_X10_lowestFew_0 : decode cX10_lowestFew 0 = .ok (.iload_n 0, 1) ∧ 1 = 0 + 1 := by decide +kernel
theorem d_X10_lowestFew_1 : decode cX10_lowestFew 1 = .ok (.istore_n 2, 1) ∧ 2 = 1 + 1 := by decide +kernel
theorem d_X10_lowestFew_2 : decode cX10_lowestFew 2 = .ok (.iconst 0, 1) ∧ 3 = 2 + 1 := by decide +kernel
theorem d_X10_lowestFew_3 : decode cX10_lowestFew 3 = .ok (.istore_n 3, 1) ∧ 4 = 3 + 1 := by decide +kernel
theorem d_X10_lowestFew_4 : decode cX10_lowestFew 4 = .ok (.iload_n 3, 1) ∧ 5 = 4 + 1 := by decide +kernel
theorem d_X10_lowestFew_5 : decode cX10_lowestFew 5 = .ok (.iload_n 1, 1) ∧ 6 = 5 + 1 := by decide +kernel
theorem d_X10_lowestFew_6 : decode cX10_lowestFew 6 = .ok (.if_icmp .ge 15, 3) ∧ 9 = 6 + 3 ∧ (6 : Int) + 15 = ((21 : Nat) : Int) := by decide +kernel
theorem d_X10_lowestFew_9 : decode cX10_lowestFew 9 = .ok (.iload_n 2, 1) ∧ 10 = 9 + 1 := by decide +kernel
theorem d_X10_lowestFew_10 : decode cX10_lowestFew 10 = .ok (.iload_n 2, 1) ∧ 11 = 10 + 1 := by decide +kernel
theorem d_X10_lowestFew_11 : decode cX10_lowestFew 11 = .ok (.iconst 1, 1) ∧ 12 = 11 + 1 := by decide +kernel
theorem d_X10_lowestFew_12 : decode cX10_lowestFew 12 = .ok (.isub, 1) ∧ 13 = 12 + 1 := by decide +kernel
theorem d_X10_lowestFew_13 : decode cX10_lowestFew 13 = .ok (.iand, 1) ∧ 14 = 13 + 1 := by decide +kernel
theorem d_X10_lowestFew_14 : decode cX10_lowestFew 14 = .ok (.istore_n 2, 1) ∧ 15 = 14 + 1 := by decide +kernel
theorem d_X10_lowestFew_15 : decode cX10_lowestFew 15 = .ok (.iinc 3 1, 3) ∧ 18 = 15 + 3 := by decide +kernel
theorem d_X10_lowestFew_18 : decode cX10_lowestFew 18 = .ok (.goto (-14), 3) ∧ (18 : Int) + ((-14)) = ((4 : Nat) : Int) := by decide +kernel
theorem d_X10_lowestFew_21 : decode cX10_lowestFew 21 = .ok (.iload_n 0, 1) ∧ 22 = 21 + 1 := by decide +kernel
theorem d_X10_lowestFew_22 : decode cX10_lowestFew 22 = .ok (.iload_n 2, 1) ∧ 23 = 22 + 1 := by decide +kernel
theorem d_X10_lowestFew_23 : decode cX10_lowestFew 23 = .ok (.iconst (-1), 1) ∧ 24 = 23 + 1 := by decide +kernel
theorem d_X10_lowestFew_24 : decode cX10_lowestFew 24 = .ok (.ixor, 1) ∧ 25 = 24 + 1 := by decide +kernel
theorem d_X10_lowestFew_25 : decode cX10_lowestFew 25 = .ok (.iand, 1) ∧ 26 = 25 + 1 := by decide +kernel
theorem d_X10_lowestFew_26 : decode cX10_lowestFew 26 = .ok (.ireturn, 1) := by decide +kernel
theorem d_X10_firstBehind_0 : decode cX10_firstBehind 0 = .ok (.iload_n 1, 1) ∧ 1 = 0 + 1 := by decide +kernel
theorem d_X10_firstBehind_1 : decode cX10_firstBehind 1 = .ok (.iconst 1, 1) ∧ 2 = 1 + 1 := by decide +kernel
theorem d_X10_firstBehind_2 : decode cX10_firstBehind 2 = .ok (.iadd, 1) ∧ 3 = 2 + 1 := by decide +kernel
theorem d_X10_firstBehind_3 : decode cX10_firstBehind 3 = .ok (.istore_n 3, 1) ∧ 4 = 3 + 1 := by decide +kernel
theorem d_X10_firstBehind_4 : decode cX10_firstBehind 4 = .ok (.iload_n 1, 1) ∧ 5 = 4 + 1 := by decide +kernel
theorem d_X10_firstBehind_5 : decode cX10_firstBehind 5 = .ok (.iconst (-1), 1) ∧ 6 = 5 + 1 := by decide +kernel
theorem d_X10_firstBehind_6 : decode cX10_firstBehind 6 = .ok (.if_icmp .eq 25, 3) ∧ 9 = 6 + 3 ∧ (6 : Int) + 25 = ((31 : Nat) : Int) := by decide +kernel
theorem d_X10_firstBehind_9 : decode cX10_firstBehind 9 = .ok (.iload_n 3, 1) ∧ 10 = 9 + 1 := by decide +kernel
theorem d_X10_firstBehind_10 : decode cX10_firstBehind 10 = .ok (.iload_n 2, 1) ∧ 11 = 10 + 1 := by decide +kernel
theorem d_X10_firstBehind_11 : decode cX10_firstBehind 11 = .ok (.if_icmp .ge 20, 3) ∧ 14 = 11 + 3 ∧ (11 : Int) + 20 = ((31 : Nat) : Int) := by decide +kernel
theorem d_X10_firstBehind_14 : decode cX10_firstBehind 14 = .ok (.iload_n 0, 1) ∧ 15 = 14 + 1 := by decide +kernel
theorem d_X10_firstBehind_15 : decode cX10_firstBehind 15 = .ok (.iload_n 3, 1) ∧ 16 = 15 + 1 := by decide +kernel
theorem d_X10_firstBehind_16 : decode cX10_firstBehind 16 = .ok (.ishr, 1) ∧ 17 = 16 + 1 := by decide +kernel
theorem d_X10_firstBehind_17 : decode cX10_firstBehind 17 = .ok (.iconst 1, 1) ∧ 18 = 17 + 1 := by decide +kernel
theorem d_X10_firstBehind_18 : decode cX10_firstBehind 18 = .ok (.iand, 1) ∧ 19 = 18 + 1 := by decide +kernel
theorem d_X10_firstBehind_19 : decode cX10_firstBehind 19 = .ok (.iconst 1, 1) ∧ 20 = 19 + 1 := by decide +kernel
theorem d_X10_firstBehind_20 : decode cX10_firstBehind 20 = .ok (.if_icmp .ne 5, 3) ∧ 23 = 20 + 3 ∧ (20 : Int) + 5 = ((25 : Nat) : Int) := by decide +kernel
theorem d_X10_firstBehind_23 : decode cX10_firstBehind 23 = .ok (.iload_n 3, 1) ∧ 24 = 23 + 1 := by decide +kernel
theorem d_X10_firstBehind_24 : decode cX10_firstBehind 24 = .ok (.ireturn, 1) := by decide +kernel
theorem d_X10_firstBehind_25 : decode cX10_firstBehind 25 = .ok (.iinc 3 1, 3) ∧ 28 = 25 + 3 := by decide +kernel
theorem d_X10_firstBehind_28 : decode cX10_firstBehind 28 = .ok (.goto (-24), 3) ∧ (28 : Int) + ((-24)) = ((4 : Nat) : Int) := by decide +kernel
theorem d_X10_firstBehind_31 : decode cX10_firstBehind 31 = .ok (.iconst (-1), 1) ∧ 32 = 31 + 1 := by decide +kernel
theorem d_X10_firstBehind_32 : decode cX10_firstBehind 32 = .ok (.ireturn, 1) := by decide +kernel
theorem d_X10_thousandths_0 : decode cX10_thousandths 0 = .ok (.aload_n 0, 1) ∧ 1 = 0 + 1 := by decide +kernel
theorem d_X10_thousandths_1 : decode cX10_thousandths 1 = .ok (.getfield 81, 3) ∧ 4 = 1 + 3 := by decide +kernel
theorem d_X10_thousandths_4 : decode cX10_thousandths 4 = .ok (.aload_n 0, 1) ∧ 5 = 4 + 1 := by decide +kernel
theorem d_X10_thousandths_5 : decode cX10_thousandths 5 = .ok (.getfield 19, 3) ∧ 8 = 5 + 3 := by decide +kernel
theorem d_X10_thousandths_8 : decode cX10_thousandths 8 = .ok (.iload_n 1, 1) ∧ 9 = 8 + 1 := by decide +kernel
theorem d_X10_thousandths_9 : decode cX10_thousandths 9 = .ok (.aload_n 0, 1) ∧ 10 = 9 + 1 := by decide +kernel
theorem d_X10_thousandths_10 : decode cX10_thousandths 10 = .ok (.getfield 10, 3) ∧ 13 = 10 + 3 := by decide +kernel
theorem d_X10_thousandths_13 : decode cX10_thousandths 13 = .ok (.invokevirtual 134, 3) ∧ 16 = 13 + 3 := by decide +kernel
theorem d_X10_thousandths_16 : decode cX10_thousandths 16 = .ok (.invokevirtual 142, 3) ∧ 19 = 16 + 3 := by decide +kernel
theorem d_X10_thousandths_19 : decode cX10_thousandths 19 = .ok (.aload_n 0, 1) ∧ 20 = 19 + 1 := by decide +kernel
theorem d_X10_thousandths_20 : decode cX10_thousandths 20 = .ok (.getfield 81, 3) ∧ 23 = 20 + 3 := by decide +kernel
theorem d_X10_thousandths_23 : decode cX10_thousandths 23 = .ok (.aload_n 0, 1) ∧ 24 = 23 + 1 := by decide +kernel
theorem d_X10_thousandths_24 : decode cX10_thousandths 24 = .ok (.getfield 10, 3) ∧ 27 = 24 + 3 := by decide +kernel
theorem d_X10_thousandths_27 : decode cX10_thousandths 27 = .ok (.getfield 117, 3) ∧ 30 = 27 + 3 := by decide +kernel
theorem d_X10_thousandths_30 : decode cX10_thousandths 30 = .ok (.invokevirtual 146, 3) ∧ 33 = 30 + 3 := by decide +kernel
theorem d_X10_thousandths_33 : decode cX10_thousandths 33 = .ok (.istore_n 2, 1) ∧ 34 = 33 + 1 := by decide +kernel
theorem d_X10_thousandths_34 : decode cX10_thousandths 34 = .ok (.iload_n 2, 1) ∧ 35 = 34 + 1 := by decide +kernel
theorem d_X10_thousandths_35 : decode cX10_thousandths 35 = .ok (.ifCond .ne 8, 3) ∧ 38 = 35 + 3 ∧ (35 : Int) + 8 = ((43 : Nat) : Int) := by decide +kernel
theorem d_X10_thousandths_38 : decode cX10_thousandths 38 = .ok (.ldc 133, 2) ∧ 40 = 38 + 2 := by decide +kernel
theorem d_X10_thousandths_40 : decode cX10_thousandths 40 = .ok (.goto 23, 3) ∧ (40 : Int) + (23) = ((63 : Nat) : Int) := by decide +kernel
theorem d_X10_thousandths_43 : decode cX10_thousandths 43 = .ok (.aload_n 0, 1) ∧ 44 = 43 + 1 := by decide +kernel
theorem d_X10_thousandths_44 : decode cX10_thousandths 44 = .ok (.getfield 81, 3) ∧ 47 = 44 + 3 := by decide +kernel
theorem d_X10_thousandths_47 : decode cX10_thousandths 47 = .ok (.aload_n 0, 1) ∧ 48 = 47 + 1 := by decide +kernel
theorem d_X10_thousandths_48 : decode cX10_thousandths 48 = .ok (.getfield 10, 3) ∧ 51 = 48 + 3 := by decide +kernel
theorem d_X10_thousandths_51 : decode cX10_thousandths 51 = .ok (.getfield 117, 3) ∧ 54 = 51 + 3 := by decide +kernel
theorem d_X10_thousandths_54 : decode cX10_thousandths 54 = .ok (.invokevirtual 149, 3) ∧ 57 = 54 + 3 := by decide +kernel
theorem d_X10_thousandths_57 : decode cX10_thousandths 57 = .ok (.sipush 1000, 3) ∧ 60 = 57 + 3 := by decide +kernel
theorem d_X10_thousandths_60 : decode cX10_thousandths 60 = .ok (.imul, 1) ∧ 61 = 60 + 1 := by decide +kernel
theorem d_X10_thousandths_61 : decode cX10_thousandths 61 = .ok (.iload_n 2, 1) ∧ 62 = 61 + 1 := by decide +kernel
theorem d_X10_thousandths_62 : decode cX10_thousandths 62 = .ok (.idiv, 1) ∧ 63 = 62 + 1 := by decide +kernel
theorem d_X10_thousandths_63 : decode cX10_thousandths 63 = .ok (.ireturn, 1) := by decide +kernel
theorem d_X10_gapUpper_0 : decode cX10_gapUpper 0 = .ok (.aload_n 0, 1) ∧ 1 = 0 + 1 := by decide +kernel
theorem d_X10_gapUpper_1 : decode cX10_gapUpper 1 = .ok (.getfield 81, 3) ∧ 4 = 1 + 3 := by decide +kernel
theorem d_X10_gapUpper_4 : decode cX10_gapUpper 4 = .ok (.iload_n 1, 1) ∧ 5 = 4 + 1 := by decide +kernel
theorem d_X10_gapUpper_5 : decode cX10_gapUpper 5 = .ok (.invokevirtual 149, 3) ∧ 8 = 5 + 3 := by decide +kernel
theorem d_X10_gapUpper_8 : decode cX10_gapUpper 8 = .ok (.i2l, 1) ∧ 9 = 8 + 1 := by decide +kernel
theorem d_X10_gapUpper_9 : decode cX10_gapUpper 9 = .ok (.aload_n 0, 1) ∧ 10 = 9 + 1 := by decide +kernel
theorem d_X10_gapUpper_10 : decode cX10_gapUpper 10 = .ok (.getfield 85, 3) ∧ 13 = 10 + 3 := by decide +kernel
theorem d_X10_gapUpper_13 : decode cX10_gapUpper 13 = .ok (.iload_n 1, 1) ∧ 14 = 13 + 1 := by decide +kernel
theorem d_X10_gapUpper_14 : decode cX10_gapUpper 14 = .ok (.invokevirtual 146, 3) ∧ 17 = 14 + 3 := by decide +kernel
theorem d_X10_gapUpper_17 : decode cX10_gapUpper 17 = .ok (.i2l, 1) ∧ 18 = 17 + 1 := by decide +kernel
theorem d_X10_gapUpper_18 : decode cX10_gapUpper 18 = .ok (.lmul, 1) ∧ 19 = 18 + 1 := by decide +kernel
theorem d_X10_gapUpper_19 : decode cX10_gapUpper 19 = .ok (.lstore_n 2, 1) ∧ 20 = 19 + 1 := by decide +kernel
theorem d_X10_gapUpper_20 : decode cX10_gapUpper 20 = .ok (.aload_n 0, 1) ∧ 21 = 20 + 1 := by decide +kernel
theorem d_X10_gapUpper_21 : decode cX10_gapUpper 21 = .ok (.getfield 85, 3) ∧ 24 = 21 + 3 := by decide +kernel
theorem d_X10_gapUpper_24 : decode cX10_gapUpper 24 = .ok (.iload_n 1, 1) ∧ 25 = 24 + 1 := by decide +kernel
theorem d_X10_gapUpper_25 : decode cX10_gapUpper 25 = .ok (.invokevirtual 149, 3) ∧ 28 = 25 + 3 := by decide +kernel
theorem d_X10_gapUpper_28 : decode cX10_gapUpper 28 = .ok (.i2l, 1) ∧ 29 = 28 + 1 := by decide +kernel
theorem d_X10_gapUpper_29 : decode cX10_gapUpper 29 = .ok (.aload_n 0, 1) ∧ 30 = 29 + 1 := by decide +kernel
theorem d_X10_gapUpper_30 : decode cX10_gapUpper 30 = .ok (.getfield 81, 3) ∧ 33 = 30 + 3 := by decide +kernel
theorem d_X10_gapUpper_33 : decode cX10_gapUpper 33 = .ok (.iload_n 1, 1) ∧ 34 = 33 + 1 := by decide +kernel
theorem d_X10_gapUpper_34 : decode cX10_gapUpper 34 = .ok (.invokevirtual 146, 3) ∧ 37 = 34 + 3 := by decide +kernel
theorem d_X10_gapUpper_37 : decode cX10_gapUpper 37 = .ok (.i2l, 1) ∧ 38 = 37 + 1 := by decide +kernel
theorem d_X10_gapUpper_38 : decode cX10_gapUpper 38 = .ok (.lmul, 1) ∧ 39 = 38 + 1 := by decide +kernel
theorem d_X10_gapUpper_39 : decode cX10_gapUpper 39 = .ok (.lstore 4, 2) ∧ 41 = 39 + 2 := by decide +kernel
theorem d_X10_gapUpper_41 : decode cX10_gapUpper 41 = .ok (.lload_n 2, 1) ∧ 42 = 41 + 1 := by decide +kernel
theorem d_X10_gapUpper_42 : decode cX10_gapUpper 42 = .ok (.lload 4, 2) ∧ 44 = 42 + 2 := by decide +kernel
theorem d_X10_gapUpper_44 : decode cX10_gapUpper 44 = .ok (.lsub, 1) ∧ 45 = 44 + 1 := by decide +kernel
theorem d_X10_gapUpper_45 : decode cX10_gapUpper 45 = .ok (.invokestatic 319, 3) ∧ 48 = 45 + 3 := by decide +kernel
theorem d_X10_gapUpper_48 : decode cX10_gapUpper 48 = .ok (.lreturn, 1) := by decide +kernel
theorem d_X10_gapLower_0 : decode cX10_gapLower 0 = .ok (.aload_n 0, 1) ∧ 1 = 0 + 1 := by decide +kernel
theorem d_X10_gapLower_1 : decode cX10_gapLower 1 = .ok (.getfield 81, 3) ∧ 4 = 1 + 3 := by decide +kernel
theorem d_X10_gapLower_4 : decode cX10_gapLower 4 = .ok (.iload_n 1, 1) ∧ 5 = 4 + 1 := by decide +kernel
theorem d_X10_gapLower_5 : decode cX10_gapLower 5 = .ok (.invokevirtual 146, 3) ∧ 8 = 5 + 3 := by decide +kernel
theorem d_X10_gapLower_8 : decode cX10_gapLower 8 = .ok (.i2l, 1) ∧ 9 = 8 + 1 := by decide +kernel
theorem d_X10_gapLower_9 : decode cX10_gapLower 9 = .ok (.aload_n 0, 1) ∧ 10 = 9 + 1 := by decide +kernel
theorem d_X10_gapLower_10 : decode cX10_gapLower 10 = .ok (.getfield 85, 3) ∧ 13 = 10 + 3 := by decide +kernel
theorem d_X10_gapLower_13 : decode cX10_gapLower 13 = .ok (.iload_n 1, 1) ∧ 14 = 13 + 1 := by decide +kernel
theorem d_X10_gapLower_14 : decode cX10_gapLower 14 = .ok (.invokevirtual 146, 3) ∧ 17 = 14 + 3 := by decide +kernel
theorem d_X10_gapLower_17 : decode cX10_gapLower 17 = .ok (.i2l, 1) ∧ 18 = 17 + 1 := by decide +kernel
theorem d_X10_gapLower_18 : decode cX10_gapLower 18 = .ok (.lmul, 1) ∧ 19 = 18 + 1 := by decide +kernel
theorem d_X10_gapLower_19 : decode cX10_gapLower 19 = .ok (.lreturn, 1) := by decide +kernel
theorem d_X11_init_0 : decode cX11_init 0 = .ok (.aload_n 0, 1) ∧ 1 = 0 + 1 := by decide +kernel
theorem d_X11_init_1 : decode cX11_init 1 = .ok (.invokespecial 1, 3) ∧ 4 = 1 + 3 := by decide +kernel
theorem d_X11_init_4 : decode cX11_init 4 = .ok (.aload_n 0, 1) ∧ 5 = 4 + 1 := by decide +kernel
theorem d_X11_init_5 : decode cX11_init 5 = .ok (.sipush 380, 3) ∧ 8 = 5 + 3 := by decide +kernel
theorem d_X11_init_8 : decode cX11_init 8 = .ok (.newarray .int, 2) ∧ 10 = 8 + 2 := by decide +kernel
theorem d_X11_init_10 : decode cX11_init 10 = .ok (.putfield 7, 3) ∧ 13 = 10 + 3 := by decide +kernel
theorem d_X11_init_13 : decode cX11_init 13 = .ok (.aload_n 0, 1) ∧ 14 = 13 + 1 := by decide +kernel
theorem d_X11_init_14 : decode cX11_init 14 = .ok (.sipush 380, 3) ∧ 17 = 14 + 3 := by decide +kernel
theorem d_X11_init_17 : decode cX11_init 17 = .ok (.newarray .int, 2) ∧ 19 = 17 + 2 := by decide +kernel
theorem d_X11_init_19 : decode cX11_init 19 = .ok (.putfield 13, 3) ∧ 22 = 19 + 3 := by decide +kernel
theorem d_X11_init_22 : decode cX11_init 22 = .ok (.aload_n 0, 1) ∧ 23 = 22 + 1 := by decide +kernel
theorem d_X11_init_23 : decode cX11_init 23 = .ok (.sipush 300, 3) ∧ 26 = 23 + 3 := by decide +kernel
theorem d_X11_init_26 : decode cX11_init 26 = .ok (.newarray .byte, 2) ∧ 28 = 26 + 2 := by decide +kernel
theorem d_X11_init_28 : decode cX11_init 28 = .ok (.putfield 16, 3) ∧ 31 = 28 + 3 := by decide +kernel
theorem d_X11_init_31 : decode cX11_init 31 = .ok (.aload_n 0, 1) ∧ 32 = 31 + 1 := by decide +kernel
theorem d_X11_init_32 : decode cX11_init 32 = .ok (.iconst (-1), 1) ∧ 33 = 32 + 1 := by decide +kernel
theorem d_X11_init_33 : decode cX11_init 33 = .ok (.putfield 20, 3) ∧ 36 = 33 + 3 := by decide +kernel
theorem d_X11_init_36 : decode cX11_init 36 = .ok (.aload_n 0, 1) ∧ 37 = 36 + 1 := by decide +kernel
theorem d_X11_init_37 : decode cX11_init 37 = .ok (.iconst (-1), 1) ∧ 38 = 37 + 1 := by decide +kernel
theorem d_X11_init_38 : decode cX11_init 38 = .ok (.putfield 24, 3) ∧ 41 = 38 + 3 := by decide +kernel
theorem d_X11_init_41 : decode cX11_init 41 = .ok (.aload_n 0, 1) ∧ 42 = 41 + 1 := by decide +kernel
theorem d_X11_init_42 : decode cX11_init 42 = .ok (.bipush 6, 2) ∧ 44 = 42 + 2 := by decide +kernel
theorem d_X11_init_44 : decode cX11_init 44 = .ok (.newarray .int, 2) ∧ 46 = 44 + 2 := by decide +kernel
theorem d_X11_init_46 : decode cX11_init 46 = .ok (.putfield 27, 3) ∧ 49 = 46 + 3 := by decide +kernel
theorem d_X11_init_49 : decode cX11_init 49 = .ok (.aload_n 0, 1) ∧ 50 = 49 + 1 := by decide +kernel
theorem d_X11_init_50 : decode cX11_init 50 = .ok (.bipush 60, 2) ∧ 52 = 50 + 2 := by decide +kernel
theorem d_X11_init_52 : decode cX11_init 52 = .ok (.newarray .int, 2) ∧ 54 = 52 + 2 := by decide +kernel
theorem d_X11_init_54 : decode cX11_init 54 = .ok (.putfield 30, 3) ∧ 57 = 54 + 3 := by decide +kernel
theorem d_X11_init_57 : decode cX11_init 57 = .ok (.aload_n 0, 1) ∧ 58 = 57 + 1 := by decide +kernel
theorem d_X11_init_58 : decode cX11_init 58 = .ok (.bipush 60, 2) ∧ 60 = 58 + 2 := by decide +kernel
theorem d_X11_init_60 : decode cX11_init 60 = .ok (.newarray .int, 2) ∧ 62 = 60 + 2 := by decide +kernel
theorem d_X11_init_62 : decode cX11_init 62 = .ok (.putfield 33, 3) ∧ 65 = 62 + 3 := by decide +kernel
theorem d_X11_init_65 : decode cX11_init 65 = .ok (.aload_n 0, 1) ∧ 66 = 65 + 1 := by decide +kernel
theorem d_X11_init_66 : decode cX11_init 66 = .ok (.bipush 60, 2) ∧ 68 = 66 + 2 := by decide +kernel
theorem d_X11_init_68 : decode cX11_init 68 = .ok (.newarray .int, 2) ∧ 70 = 68 + 2 := by decide +kernel
theorem d_X11_init_70 : decode cX11_init 70 = .ok (.putfield 36, 3) ∧ 73 = 70 + 3 := by decide +kernel
theorem d_X11_init_73 : decode cX11_init 73 = .ok (.aload_n 0, 1) ∧ 74 = 73 + 1 := by decide +kernel
theorem d_X11_init_74 : decode cX11_init 74 = .ok (.sipush 2400, 3) ∧ 77 = 74 + 3 := by decide +kernel
theorem d_X11_init_77 : decode cX11_init 77 = .ok (.newarray .int, 2) ∧ 79 = 77 + 2 := by decide +kernel
theorem d_X11_init_79 : decode cX11_init 79 = .ok (.putfield 39, 3) ∧ 82 = 79 + 3 := by decide +kernel
theorem d_X11_init_82 : decode cX11_init 82 = .ok (.aload_n 0, 1) ∧ 83 = 82 + 1 := by decide +kernel
theorem d_X11_init_83 : decode cX11_init 83 = .ok (.sipush 2400, 3) ∧ 86 = 83 + 3 := by decide +kernel
theorem d_X11_init_86 : decode cX11_init 86 = .ok (.newarray .int, 2) ∧ 88 = 86 + 2 := by decide +kernel
theorem d_X11_init_88 : decode cX11_init 88 = .ok (.putfield 42, 3) ∧ 91 = 88 + 3 := by decide +kernel
theorem d_X11_init_91 : decode cX11_init 91 = .ok (.aload_n 0, 1) ∧ 92 = 91 + 1 := by decide +kernel
theorem d_X11_init_92 : decode cX11_init 92 = .ok (.bipush 40, 2) ∧ 94 = 92 + 2 := by decide +kernel
theorem d_X11_init_94 : decode cX11_init 94 = .ok (.newarray .int, 2) ∧ 96 = 94 + 2 := by decide +kernel
theorem d_X11_init_96 : decode cX11_init 96 = .ok (.putfield 45, 3) ∧ 99 = 96 + 3 := by decide +kernel
theorem d_X11_init_99 : decode cX11_init 99 = .ok (.aload_n 0, 1) ∧ 100 = 99 + 1 := by decide +kernel
theorem d_X11_init_100 : decode cX11_init 100 = .ok (.bipush 41, 2) ∧ 102 = 100 + 2 := by decide +kernel
theorem d_X11_init_102 : decode cX11_init 102 = .ok (.newarray .int, 2) ∧ 104 = 102 + 2 := by decide +kernel
theorem d_X11_init_104 : decode cX11_init 104 = .ok (.putfield 48, 3) ∧ 107 = 104 + 3 := by decide +kernel
theorem d_X11_init_107 : decode cX11_init 107 = .ok (.aload_n 0, 1) ∧ 108 = 107 + 1 := by decide +kernel
theorem d_X11_init_108 : decode cX11_init 108 = .ok (.bipush 80, 2) ∧ 110 = 108 + 2 := by decide +kernel
theorem d_X11_init_110 : decode cX11_init 110 = .ok (.newarray .int, 2) ∧ 112 = 110 + 2 := by decide +kernel
theorem d_X11_init_112 : decode cX11_init 112 = .ok (.putfield 51, 3) ∧ 115 = 112 + 3 := by decide +kernel
theorem d_X11_init_115 : decode cX11_init 115 = .ok (.aload_n 0, 1) ∧ 116 = 115 + 1 := by decide +kernel
theorem d_X11_init_116 : decode cX11_init 116 = .ok (.bipush 80, 2) ∧ 118 = 116 + 2 := by decide +kernel
theorem d_X11_init_118 : decode cX11_init 118 = .ok (.newarray .int, 2) ∧ 120 = 118 + 2 := by decide +kernel
theorem d_X11_init_120 : decode cX11_init 120 = .ok (.putfield 54, 3) ∧ 123 = 120 + 3 := by decide +kernel
theorem d_X11_init_123 : decode cX11_init 123 = .ok (.aload_n 0, 1) ∧ 124 = 123 + 1 := by decide +kernel
theorem d_X11_init_124 : decode cX11_init 124 = .ok (.bipush 10, 2) ∧ 126 = 124 + 2 := by decide +kernel
theorem d_X11_init_126 : decode cX11_init 126 = .ok (.newarray .int, 2) ∧ 128 = 126 + 2 := by decide +kernel
theorem d_X11_init_128 : decode cX11_init 128 = .ok (.putfield 57, 3) ∧ 131 = 128 + 3 := by decide +kernel
theorem d_X11_init_131 : decode cX11_init 131 = .ok (.aload_n 0, 1) ∧ 132 = 131 + 1 := by decide +kernel
theorem d_X11_init_132 : decode cX11_init 132 = .ok (.bipush 10, 2) ∧ 134 = 132 + 2 := by decide +kernel
theorem d_X11_init_134 : decode cX11_init 134 = .ok (.newarray .int, 2) ∧ 136 = 134 + 2 := by decide +kernel
theorem d_X11_init_136 : decode cX11_init 136 = .ok (.putfield 60, 3) ∧ 139 = 136 + 3 := by decide +kernel
theorem d_X11_init_139 : decode cX11_init 139 = .ok (.aload_n 0, 1) ∧ 140 = 139 + 1 := by decide +kernel
theorem d_X11_init_140 : decode cX11_init 140 = .ok (.bipush 10, 2) ∧ 142 = 140 + 2 := by decide +kernel
theorem d_X11_init_142 : decode cX11_init 142 = .ok (.newarray .int, 2) ∧ 144 = 142 + 2 := by decide +kernel
theorem d_X11_init_144 : decode cX11_init 144 = .ok (.putfield 63, 3) ∧ 147 = 144 + 3 := by decide +kernel
theorem d_X11_init_147 : decode cX11_init 147 = .ok (.aload_n 0, 1) ∧ 148 = 147 + 1 := by decide +kernel
theorem d_X11_init_148 : decode cX11_init 148 = .ok (.sipush 400, 3) ∧ 151 = 148 + 3 := by decide +kernel
theorem d_X11_init_151 : decode cX11_init 151 = .ok (.newarray .int, 2) ∧ 153 = 151 + 2 := by decide +kernel
theorem d_X11_init_153 : decode cX11_init 153 = .ok (.putfield 66, 3) ∧ 156 = 153 + 3 := by decide +kernel
theorem d_X11_init_156 : decode cX11_init 156 = .ok (.aload_n 0, 1) ∧ 157 = 156 + 1 := by decide +kernel
theorem d_X11_init_157 : decode cX11_init 157 = .ok (.sipush 400, 3) ∧ 160 = 157 + 3 := by decide +kernel
theorem d_X11_init_160 : decode cX11_init 160 = .ok (.newarray .int, 2) ∧ 162 = 160 + 2 := by decide +kernel
theorem d_X11_init_162 : decode cX11_init 162 = .ok (.putfield 69, 3) ∧ 165 = 162 + 3 := by decide +kernel
theorem d_X11_init_165 : decode cX11_init 165 = .ok (.aload_n 0, 1) ∧ 166 = 165 + 1 := by decide +kernel
theorem d_X11_init_166 : decode cX11_init 166 = .ok (.bipush 11, 2) ∧ 168 = 166 + 2 := by decide +kernel
theorem d_X11_init_168 : decode cX11_init 168 = .ok (.newarray .int, 2) ∧ 170 = 168 + 2 := by decide +kernel
theorem d_X11_init_170 : decode cX11_init 170 = .ok (.putfield 72, 3) ∧ 173 = 170 + 3 := by decide +kernel
theorem d_X11_init_173 : decode cX11_init 173 = .ok (.aload_n 0, 1) ∧ 174 = 173 + 1 := by decide +kernel
theorem d_X11_init_174 : decode cX11_init 174 = .ok (.sipush 200, 3) ∧ 177 = 174 + 3 := by decide +kernel
theorem d_X11_init_177 : decode cX11_init 177 = .ok (.newarray .long, 2) ∧ 179 = 177 + 2 := by decide +kernel
theorem d_X11_init_179 : decode cX11_init 179 = .ok (.putfield 75, 3) ∧ 182 = 179 + 3 := by decide +kernel
theorem d_X11_init_182 : decode cX11_init 182 = .ok (.aload_n 0, 1) ∧ 183 = 182 + 1 := by decide +kernel
theorem d_X11_init_183 : decode cX11_init 183 = .ok (.sipush 16384, 3) ∧ 186 = 183 + 3 := by decide +kernel
theorem d_X11_init_186 : decode cX11_init 186 = .ok (.newarray .int, 2) ∧ 188 = 186 + 2 := by decide +kernel
theorem d_X11_init_188 : decode cX11_init 188 = .ok (.putfield 79, 3) ∧ 191 = 188 + 3 := by decide +kernel
theorem d_X11_init_191 : decode cX11_init 191 = .ok (.aload_n 0, 1) ∧ 192 = 191 + 1 := by decide +kernel
theorem d_X11_init_192 : decode cX11_init 192 = .ok (.bipush 14, 2) ∧ 194 = 192 + 2 := by decide +kernel
theorem d_X11_init_194 : decode cX11_init 194 = .ok (.newarray .int, 2) ∧ 196 = 194 + 2 := by decide +kernel
theorem d_X11_init_196 : decode cX11_init 196 = .ok (.putfield 82, 3) ∧ 199 = 196 + 3 := by decide +kernel
theorem d_X11_init_199 : decode cX11_init 199 = .ok (.aload_n 0, 1) ∧ 200 = 199 + 1 := by decide +kernel
theorem d_X11_init_200 : decode cX11_init 200 = .ok (.bipush 14, 2) ∧ 202 = 200 + 2 := by decide +kernel
theorem d_X11_init_202 : decode cX11_init 202 = .ok (.newarray .int, 2) ∧ 204 = 202 + 2 := by decide +kernel
theorem d_X11_init_204 : decode cX11_init 204 = .ok (.putfield 85, 3) ∧ 207 = 204 + 3 := by decide +kernel
theorem d_X11_init_207 : decode cX11_init 207 = .ok (.aload_n 0, 1) ∧ 208 = 207 + 1 := by decide +kernel
theorem d_X11_init_208 : decode cX11_init 208 = .ok (.bipush 12, 2) ∧ 210 = 208 + 2 := by decide +kernel
theorem d_X11_init_210 : decode cX11_init 210 = .ok (.newarray .int, 2) ∧ 212 = 210 + 2 := by decide +kernel
theorem d_X11_init_212 : decode cX11_init 212 = .ok (.putfield 88, 3) ∧ 215 = 212 + 3 := by decide +kernel
theorem d_X11_init_215 : decode cX11_init 215 = .ok (.aload_n 0, 1) ∧ 216 = 215 + 1 := by decide +kernel
theorem d_X11_init_216 : decode cX11_init 216 = .ok (.bipush 12, 2) ∧ 218 = 216 + 2 := by decide +kernel
theorem d_X11_init_218 : decode cX11_init 218 = .ok (.newarray .int, 2) ∧ 220 = 218 + 2 := by decide +kernel
theorem d_X11_init_220 : decode cX11_init 220 = .ok (.putfield 91, 3) ∧ 223 = 220 + 3 := by decide +kernel
theorem d_X11_init_223 : decode cX11_init 223 = .ok (.aload_n 0, 1) ∧ 224 = 223 + 1 := by decide +kernel
theorem d_X11_init_224 : decode cX11_init 224 = .ok (.bipush 12, 2) ∧ 226 = 224 + 2 := by decide +kernel
theorem d_X11_init_226 : decode cX11_init 226 = .ok (.newarray .int, 2) ∧ 228 = 226 + 2 := by decide +kernel
theorem d_X11_init_228 : decode cX11_init 228 = .ok (.putfield 94, 3) ∧ 231 = 228 + 3 := by decide +kernel
theorem d_X11_init_231 : decode cX11_init 231 = .ok (.aload_n 0, 1) ∧ 232 = 231 + 1 := by decide +kernel
theorem d_X11_init_232 : decode cX11_init 232 = .ok (.getfield 7, 3) ∧ 235 = 232 + 3 := by decide +kernel
theorem d_X11_init_235 : decode cX11_init 235 = .ok (.iconst 5, 1) ∧ 236 = 235 + 1 := by decide +kernel
theorem d_X11_init_236 : decode cX11_init 236 = .ok (.sipush 1000, 3) ∧ 239 = 236 + 3 := by decide +kernel
theorem d_X11_init_239 : decode cX11_init 239 = .ok (.iastore, 1) ∧ 240 = 239 + 1 := by decide +kernel
theorem d_X11_init_240 : decode cX11_init 240 = .ok (.aload_n 0, 1) ∧ 241 = 240 + 1 := by decide +kernel
theorem d_X11_init_241 : decode cX11_init 241 = .ok (.iconst 1, 1) ∧ 242 = 241 + 1 := by decide +kernel
theorem d_X11_init_242 : decode cX11_init 242 = .ok (.invokevirtual 97, 3) ∧ 245 = 242 + 3 := by decide +kernel
theorem d_X11_init_245 : decode cX11_init 245 = .ok (.return_, 1) := by decide +kernel
theorem d_X11_in_0 : decode cX11_in 0 = .ok (.iload_n 0, 1) ∧ 1 = 0 + 1 := by decide +kernel
theorem d_X11_in_1 : decode cX11_in 1 = .ok (.iload_n 1, 1) ∧ 2 = 1 + 1 := by decide +kernel
theorem d_X11_in_2 : decode cX11_in 2 = .ok (.if_icmp .lt 12, 3) ∧ 5 = 2 + 3 ∧ (2 : Int) + 12 = ((14 : Nat) : Int) := by decide +kernel
theorem d_X11_in_5 : decode cX11_in 5 = .ok (.iload_n 0, 1) ∧ 6 = 5 + 1 := by decide +kernel
theorem d_X11_in_6 : decode cX11_in 6 = .ok (.iload_n 2, 1) ∧ 7 = 6 + 1 := by decide +kernel
theorem d_X11_in_7 : decode cX11_in 7 = .ok (.if_icmp .gt 7, 3) ∧ 10 = 7 + 3 ∧ (7 : Int) + 7 = ((14 : Nat) : Int) := by decide +kernel
theorem d_X11_in_10 : decode cX11_in 10 = .ok (.iconst 1, 1) ∧ 11 = 10 + 1 := by decide +kernel
theorem d_X11_in_11 : decode cX11_in 11 = .ok (.goto 4, 3) ∧ (11 : Int) + (4) = ((15 : Nat) : Int) := by decide +kernel
theorem d_X11_in_14 : decode cX11_in 14 = .ok (.iconst 0, 1) ∧ 15 = 14 + 1 := by decide +kernel
theorem d_X11_in_15 : decode cX11_in 15 = .ok (.ireturn, 1) := by decide +kernel
theorem d_X11_lesser_0 : decode cX11_lesser 0 = .ok (.iload_n 0, 1) ∧ 1 = 0 + 1 := by decide +kernel
theorem d_X11_lesser_1 : decode cX11_lesser 1 = .ok (.iload_n 1, 1) ∧ 2 = 1 + 1 := by decide +kernel
theorem d_X11_lesser_2 : decode cX11_lesser 2 = .ok (.if_icmp .ge 7, 3) ∧ 5 = 2 + 3 ∧ (2 : Int) + 7 = ((9 : Nat) : Int) := by decide +kernel
theorem d_X11_lesser_5 : decode cX11_lesser 5 = .ok (.iload_n 0, 1) ∧ 6 = 5 + 1 := by decide +kernel
theorem d_X11_lesser_6 : decode cX11_lesser 6 = .ok (.goto 4, 3) ∧ (6 : Int) + (4) = ((10 : Nat) : Int) := by decide +kernel
theorem d_X11_lesser_9 : decode cX11_lesser 9 = .ok (.iload_n 1, 1) ∧ 10 = 9 + 1 := by decide +kernel
theorem d_X11_lesser_10 : decode cX11_lesser 10 = .ok (.ireturn, 1) := by decide +kernel
theorem d_X11_greater_0 : decode cX11_greater 0 = .ok (.iload_n 0, 1) ∧ 1 = 0 + 1 := by decide +kernel
theorem d_X11_greater_1 : decode cX11_greater 1 = .ok (.iload_n 1, 1) ∧ 2 = 1 + 1 := by decide +kernel
theorem d_X11_greater_2 : decode cX11_greater 2 = .ok (.if_icmp .le 7, 3) ∧ 5 = 2 + 3 ∧ (2 : Int) + 7 = ((9 : Nat) : Int) := by decide +kernel
theorem d_X11_greater_5 : decode cX11_greater 5 = .ok (.iload_n 0, 1) ∧ 6 = 5 + 1 := by decide +kernel
theorem d_X11_greater_6 : decode cX11_greater 6 = .ok (.goto 4, 3) ∧ (6 : Int) + (4) = ((10 : Nat) : Int) := by decide +kernel
theorem d_X11_greater_9 : decode cX11_greater 9 = .ok (.iload_n 1, 1) ∧ 10 = 9 + 1 := by decide +kernel
theorem d_X11_greater_10 : decode cX11_greater 10 = .ok (.ireturn, 1) := by decide +kernel
theorem d_X11_away_0 : decode cX11_away 0 = .ok (.lload_n 0, 1) ∧ 1 = 0 + 1 := by decide +kernel
theorem d_X11_away_1 : decode cX11_away 1 = .ok (.lconst 0, 1) ∧ 2 = 1 + 1 := by decide +kernel
theorem d_X11_away_2 : decode cX11_away 2 = .ok (.lcmp, 1) ∧ 3 = 2 + 1 := by decide +kernel
theorem d_X11_away_3 : decode cX11_away 3 = .ok (.ifCond .ge 8, 3) ∧ 6 = 3 + 3 ∧ (3 : Int) + 8 = ((11 : Nat) : Int) := by decide +kernel
theorem d_X11_away_6 : decode cX11_away 6 = .ok (.lload_n 0, 1) ∧ 7 = 6 + 1 := by decide +kernel
theorem d_X11_away_7 : decode cX11_away 7 = .ok (.lneg, 1) ∧ 8 = 7 + 1 := by decide +kernel
theorem d_X11_away_8 : decode cX11_away 8 = .ok (.goto 4, 3) ∧ (8 : Int) + (4) = ((12 : Nat) : Int) := by decide +kernel
theorem d_X11_away_11 : decode cX11_away 11 = .ok (.lload_n 0, 1) ∧ 12 = 11 + 1 := by decide +kernel
theorem d_X11_away_12 : decode cX11_away 12 = .ok (.lreturn, 1) := by decide +kernel
theorem d_X11_ones_0 : decode cX11_ones 0 = .ok (.iconst 0, 1) ∧ 1 = 0 + 1 := by decide +kernel
theorem d_X11_ones_1 : decode cX11_ones 1 = .ok (.istore_n 1, 1) ∧ 2 = 1 + 1 := by decide +kernel
theorem d_X11_ones_2 : decode cX11_ones 2 = .ok (.iconst 0, 1) ∧ 3 = 2 + 1 := by decide +kernel
theorem d_X11_ones_3 : decode cX11_ones 3 = .ok (.istore_n 2, 1) ∧ 4 = 3 + 1 := by decide +kernel
theorem d_X11_ones_4 : decode cX11_ones 4 = .ok (.iload_n 2, 1) ∧ 5 = 4 + 1 := by decide +kernel
theorem d_X11_ones_5 : decode cX11_ones 5 = .ok (.bipush 31, 2) ∧ 7 = 5 + 2 := by decide +kernel
theorem d_X11_ones_7 : decode cX11_ones 7 = .ok (.if_icmp .ge 17, 3) ∧ 10 = 7 + 3 ∧ (7 : Int) + 17 = ((24 : Nat) : Int) := by decide +kernel
theorem d_X11_ones_10 : decode cX11_ones 10 = .ok (.iload_n 1, 1) ∧ 11 = 10 + 1 := by decide +kernel
theorem d_X11_ones_11 : decode cX11_ones 11 = .ok (.iload_n 0, 1) ∧ 12 = 11 + 1 := by decide +kernel
theorem d_X11_ones_12 : decode cX11_ones 12 = .ok (.iload_n 2, 1) ∧ 13 = 12 + 1 := by decide +kernel
theorem d_X11_ones_13 : decode cX11_ones 13 = .ok (.ishr, 1) ∧ 14 = 13 + 1 := by decide +kernel
theorem d_X11_ones_14 : decode cX11_ones 14 = .ok (.iconst 1, 1) ∧ 15 = 14 + 1 := by decide +kernel
theorem d_X11_ones_15 : decode cX11_ones 15 = .ok (.iand, 1) ∧ 16 = 15 + 1 := by decide +kernel
theorem d_X11_ones_16 : decode cX11_ones 16 = .ok (.iadd, 1) ∧ 17 = 16 + 1 := by decide +kernel
theorem d_X11_ones_17 : decode cX11_ones 17 = .ok (.istore_n 1, 1) ∧ 18 = 17 + 1 := by decide +kernel
theorem d_X11_ones_18 : decode cX11_ones 18 = .ok (.iinc 2 1, 3) ∧ 21 = 18 + 3 := by decide +kernel
theorem d_X11_ones_21 : decode cX11_ones 21 = .ok (.goto (-17), 3) ∧ (21 : Int) + ((-17)) = ((4 : Nat) : Int) := by decide +kernel
theorem d_X11_ones_24 : decode cX11_ones 24 = .ok (.iload_n 1, 1) ∧ 25 = 24 + 1 := by decide +kernel
theorem d_X11_ones_25 : decode cX11_ones 25 = .ok (.ireturn, 1) := by decide +kernel
theorem d_X11_copies_0 : decode cX11_copies 0 = .ok (.iconst 0, 1) ∧ 1 = 0 + 1 := by decide +kernel
theorem d_X11_copies_1 : decode cX11_copies 1 = .ok (.istore_n 2, 1) ∧ 2 = 1 + 1 := by decide +kernel
theorem d_X11_copies_2 : decode cX11_copies 2 = .ok (.iload_n 2, 1) ∧ 3 = 2 + 1 := by decide +kernel
theorem d_X11_copies_3 : decode cX11_copies 3 = .ok (.sipush 380, 3) ∧ 6 = 3 + 3 := by decide +kernel
theorem d_X11_copies_6 : decode cX11_copies 6 = .ok (.if_icmp .ge 40, 3) ∧ 9 = 6 + 3 ∧ (6 : Int) + 40 = ((46 : Nat) : Int) := by decide +kernel
theorem d_X11_copies_9 : decode cX11_copies 9 = .ok (.iload_n 1, 1) ∧ 10 = 9 + 1 := by decide +kernel
theorem d_X11_copies_10 : decode cX11_copies 10 = .ok (.ifCond .eq 18, 3) ∧ 13 = 10 + 3 ∧ (10 : Int) + 18 = ((28 : Nat) : Int) := by decide +kernel
theorem d_X11_copies_13 : decode cX11_copies 13 = .ok (.aload_n 0, 1) ∧ 14 = 13 + 1 := by decide +kernel
theorem d_X11_copies_14 : decode cX11_copies 14 = .ok (.getfield 13, 3) ∧ 17 = 14 + 3 := by decide +kernel
theorem d_X11_copies_17 : decode cX11_copies 17 = .ok (.iload_n 2, 1) ∧ 18 = 17 + 1 := by decide +kernel
theorem d_X11_copies_18 : decode cX11_copies 18 = .ok (.aload_n 0, 1) ∧ 19 = 18 + 1 := by decide +kernel
theorem d_X11_copies_19 : decode cX11_copies 19 = .ok (.getfield 7, 3) ∧ 22 = 19 + 3 := by decide +kernel
theorem d_X11_copies_22 : decode cX11_copies 22 = .ok (.iload_n 2, 1) ∧ 23 = 22 + 1 := by decide +kernel
theorem d_X11_copies_23 : decode cX11_copies 23 = .ok (.iaload, 1) ∧ 24 = 23 + 1 := by decide +kernel
theorem d_X11_copies_24 : decode cX11_copies 24 = .ok (.iastore, 1) ∧ 25 = 24 + 1 := by decide +kernel
theorem d_X11_copies_25 : decode cX11_copies 25 = .ok (.goto 15, 3) ∧ (25 : Int) + (15) = ((40 : Nat) : Int) := by decide +kernel
theorem d_X11_copies_28 : decode cX11_copies 28 = .ok (.aload_n 0, 1) ∧ 29 = 28 + 1 := by decide +kernel
theorem d_X11_copies_29 : decode cX11_copies 29 = .ok (.getfield 7, 3) ∧ 32 = 29 + 3 := by decide +kernel
theorem d_X11_copies_32 : decode cX11_copies 32 = .ok (.iload_n 2, 1) ∧ 33 = 32 + 1 := by decide +kernel
theorem d_X11_copies_33 : decode cX11_copies 33 = .ok (.aload_n 0, 1) ∧ 34 = 33 + 1 := by decide +kernel
theorem d_X11_copies_34 : decode cX11_copies 34 = .ok (.getfield 13, 3) ∧ 37 = 34 + 3 := by decide +kernel
theorem d_X11_copies_37 : decode cX11_copies 37 = .ok (.iload_n 2, 1) ∧ 38 = 37 + 1 := by decide +kernel
theorem d_X11_copies_38 : decode cX11_copies 38 = .ok (.iaload, 1) ∧ 39 = 38 + 1 := by decide +kernel
theorem d_X11_copies_39 : decode cX11_copies 39 = .ok (.iastore, 1) ∧ 40 = 39 + 1 := by decide +kernel
theorem d_X11_copies_40 : decode cX11_copies 40 = .ok (.iinc 2 1, 3) ∧ 43 = 40 + 3 := by decide +kernel
theorem d_X11_copies_43 : decode cX11_copies 43 = .ok (.goto (-41), 3) ∧ (43 : Int) + ((-41)) = ((2 : Nat) : Int) := by decide +kernel
theorem d_X11_copies_46 : decode cX11_copies 46 = .ok (.return_, 1) := by decide +kernel
theorem d_X11_isChild_0 : decode cX11_isChild 0 = .ok (.iload_n 1, 1) ∧ 1 = 0 + 1 := by decide +kernel
theorem d_X11_isChild_1 : decode cX11_isChild 1 = .ok (.iconst 0, 1) ∧ 2 = 1 + 1 := by decide +kernel
theorem d_X11_isChild_2 : decode cX11_isChild 2 = .ok (.aload_n 0, 1) ∧ 3 = 2 + 1 := by decide +kernel
theorem d_X11_isChild_3 : decode cX11_isChild 3 = .ok (.getfield 7, 3) ∧ 6 = 3 + 3 := by decide +kernel
theorem d_X11_isChild_6 : decode cX11_isChild 6 = .ok (.iconst 0, 1) ∧ 7 = 6 + 1 := by decide +kernel
theorem d_X11_isChild_7 : decode cX11_isChild 7 = .ok (.iaload, 1) ∧ 8 = 7 + 1 := by decide +kernel
theorem d_X11_isChild_8 : decode cX11_isChild 8 = .ok (.iconst 1, 1) ∧ 9 = 8 + 1 := by decide +kernel
theorem d_X11_isChild_9 : decode cX11_isChild 9 = .ok (.isub, 1) ∧ 10 = 9 + 1 := by decide +kernel
theorem d_X11_isChild_10 : decode cX11_isChild 10 = .ok (.invokestatic 101, 3) ∧ 13 = 10 + 3 := by decide +kernel
theorem d_X11_isChild_13 : decode cX11_isChild 13 = .ok (.ireturn, 1) := by decide +kernel
theorem d_X11_isThing_0 : decode cX11_isThing 0 = .ok (.iload_n 1, 1) ∧ 1 = 0 + 1 := by decide +kernel
theorem d_X11_isThing_1 : decode cX11_isThing 1 = .ok (.iconst 0, 1) ∧ 2 = 1 + 1 := by decide +kernel
theorem d_X11_isThing_2 : decode cX11_isThing 2 = .ok (.aload_n 0, 1) ∧ 3 = 2 + 1 := by decide +kernel
theorem d_X11_isThing_3 : decode cX11_isThing 3 = .ok (.getfield 7, 3) ∧ 6 = 3 + 3 := by decide +kernel
theorem d_X11_isThing_6 : decode cX11_isThing 6 = .ok (.iconst 1, 1) ∧ 7 = 6 + 1 := by decide +kernel
theorem d_X11_isThing_7 : decode cX11_isThing 7 = .ok (.iaload, 1) ∧ 8 = 7 + 1 := by decide +kernel
theorem d_X11_isThing_8 : decode cX11_isThing 8 = .ok (.iconst 1, 1) ∧ 9 = 8 + 1 := by decide +kernel
theorem d_X11_isThing_9 : decode cX11_isThing 9 = .ok (.isub, 1) ∧ 10 = 9 + 1 := by decide +kernel
theorem d_X11_isThing_10 : decode cX11_isThing 10 = .ok (.invokestatic 101, 3) ∧ 13 = 10 + 3 := by decide +kernel
theorem d_X11_isThing_13 : decode cX11_isThing 13 = .ok (.ireturn, 1) := by decide +kernel
theorem d_X11_childOf_0 : decode cX11_childOf 0 = .ok (.aload_n 0, 1) ∧ 1 = 0 + 1 := by decide +kernel
theorem d_X11_childOf_1 : decode cX11_childOf 1 = .ok (.getfield 7, 3) ∧ 4 = 1 + 3 := by decide +kernel
theorem d_X11_childOf_4 : decode cX11_childOf 4 = .ok (.bipush 10, 2) ∧ 6 = 4 + 2 := by decide +kernel
theorem d_X11_childOf_6 : decode cX11_childOf 6 = .ok (.iconst 5, 1) ∧ 7 = 6 + 1 := by decide +kernel
theorem d_X11_childOf_7 : decode cX11_childOf 7 = .ok (.iload_n 1, 1) ∧ 8 = 7 + 1 := by decide +kernel
theorem d_X11_childOf_8 : decode cX11_childOf 8 = .ok (.imul, 1) ∧ 9 = 8 + 1 := by decide +kernel
theorem d_X11_childOf_9 : decode cX11_childOf 9 = .ok (.iadd, 1) ∧ 10 = 9 + 1 := by decide +kernel
theorem d_X11_childOf_10 : decode cX11_childOf 10 = .ok (.iload_n 2, 1) ∧ 11 = 10 + 1 := by decide +kernel
theorem d_X11_childOf_11 : decode cX11_childOf 11 = .ok (.iadd, 1) ∧ 12 = 11 + 1 := by decide +kernel
theorem d_X11_childOf_12 : decode cX11_childOf 12 = .ok (.iaload, 1) ∧ 13 = 12 + 1 := by decide +kernel
theorem d_X11_childOf_13 : decode cX11_childOf 13 = .ok (.ireturn, 1) := by decide +kernel
theorem d_X11_of_0 : decode cX11_of 0 = .ok (.aload_n 0, 1) ∧ 1 = 0 + 1 := by decide +kernel
theorem d_X11_of_1 : decode cX11_of 1 = .ok (.getfield 7, 3) ∧ 4 = 1 + 3 := by decide +kernel
theorem d_X11_of_4 : decode cX11_of 4 = .ok (.bipush 100, 2) ∧ 6 = 4 + 2 := by decide +kernel
theorem d_X11_of_6 : decode cX11_of 6 = .ok (.iconst 4, 1) ∧ 7 = 6 + 1 := by decide +kernel
theorem d_X11_of_7 : decode cX11_of 7 = .ok (.iload_n 1, 1) ∧ 8 = 7 + 1 := by decide +kernel
theorem d_X11_of_8 : decode cX11_of 8 = .ok (.imul, 1) ∧ 9 = 8 + 1 := by decide +kernel
theorem d_X11_of_9 : decode cX11_of 9 = .ok (.iadd, 1) ∧ 10 = 9 + 1 := by decide +kernel
theorem d_X11_of_10 : decode cX11_of 10 = .ok (.iload_n 2, 1) ∧ 11 = 10 + 1 := by decide +kernel
theorem d_X11_of_11 : decode cX11_of 11 = .ok (.iadd, 1) ∧ 12 = 11 + 1 := by decide +kernel
theorem d_X11_of_12 : decode cX11_of 12 = .ok (.iaload, 1) ∧ 13 = 12 + 1 := by decide +kernel
theorem d_X11_of_13 : decode cX11_of 13 = .ok (.ireturn, 1) := by decide +kernel
theorem d_X11_answerOf_0 : decode cX11_answerOf 0 = .ok (.aload_n 0, 1) ∧ 1 = 0 + 1 := by decide +kernel
theorem d_X11_answerOf_1 : decode cX11_answerOf 1 = .ok (.getfield 7, 3) ∧ 4 = 1 + 3 := by decide +kernel
theorem d_X11_answerOf_4 : decode cX11_answerOf 4 = .ok (.sipush 150, 3) ∧ 7 = 4 + 3 := by decide +kernel
theorem d_X11_answerOf_7 : decode cX11_answerOf 7 = .ok (.bipush 14, 2) ∧ 9 = 7 + 2 := by decide +kernel
theorem d_X11_answerOf_9 : decode cX11_answerOf 9 = .ok (.iload_n 1, 1) ∧ 10 = 9 + 1 := by decide +kernel
theorem d_X11_answerOf_10 : decode cX11_answerOf 10 = .ok (.imul, 1) ∧ 11 = 10 + 1 := by decide +kernel
theorem d_X11_answerOf_11 : decode cX11_answerOf 11 = .ok (.iadd, 1) ∧ 12 = 11 + 1 := by decide +kernel
theorem d_X11_answerOf_12 : decode cX11_answerOf 12 = .ok (.iload_n 2, 1) ∧ 13 = 12 + 1 := by decide +kernel
theorem d_X11_answerOf_13 : decode cX11_answerOf 13 = .ok (.iadd, 1) ∧ 14 = 13 + 1 := by decide +kernel
theorem d_X11_answerOf_14 : decode cX11_answerOf 14 = .ok (.iaload, 1) ∧ 15 = 14 + 1 := by decide +kernel
theorem d_X11_answerOf_15 : decode cX11_answerOf 15 = .ok (.ireturn, 1) := by decide +kernel
theorem d_X11_child_0 : decode cX11_child 0 = .ok (.iload_n 1, 1) ∧ 1 = 0 + 1 := by decide +kernel
theorem d_X11_child_1 : decode cX11_child 1 = .ok (.iconst 0, 1) ∧ 2 = 1 + 1 := by decide +kernel
theorem d_X11_child_2 : decode cX11_child 2 = .ok (.iconst 1, 1) ∧ 3 = 2 + 1 := by decide +kernel
theorem d_X11_child_3 : decode cX11_child 3 = .ok (.invokestatic 101, 3) ∧ 6 = 3 + 3 := by decide +kernel
theorem d_X11_child_6 : decode cX11_child 6 = .ok (.ifCond .eq 34, 3) ∧ 9 = 6 + 3 ∧ (6 : Int) + 34 = ((40 : Nat) : Int) := by decide +kernel
theorem d_X11_child_9 : decode cX11_child 9 = .ok (.iload_n 2, 1) ∧ 10 = 9 + 1 := by decide +kernel
theorem d_X11_child_10 : decode cX11_child 10 = .ok (.iconst 0, 1) ∧ 11 = 10 + 1 := by decide +kernel
theorem d_X11_child_11 : decode cX11_child 11 = .ok (.bipush 99, 2) ∧ 13 = 11 + 2 := by decide +kernel
theorem d_X11_child_13 : decode cX11_child 13 = .ok (.invokestatic 101, 3) ∧ 16 = 13 + 3 := by decide +kernel
theorem d_X11_child_16 : decode cX11_child 16 = .ok (.ifCond .eq 24, 3) ∧ 19 = 16 + 3 ∧ (16 : Int) + 24 = ((40 : Nat) : Int) := by decide +kernel
theorem d_X11_child_19 : decode cX11_child 19 = .ok (.iload_n 3, 1) ∧ 20 = 19 + 1 := by decide +kernel
theorem d_X11_child_20 : decode cX11_child 20 = .ok (.iconst 0, 1) ∧ 21 = 20 + 1 := by decide +kernel
theorem d_X11_child_21 : decode cX11_child 21 = .ok (.bipush 9, 2) ∧ 23 = 21 + 2 := by decide +kernel
theorem d_X11_child_23 : decode cX11_child 23 = .ok (.invokestatic 101, 3) ∧ 26 = 23 + 3 := by decide +kernel
theorem d_X11_child_26 : decode cX11_child 26 = .ok (.ifCond .eq 14, 3) ∧ 29 = 26 + 3 ∧ (26 : Int) + 14 = ((40 : Nat) : Int) := by decide +kernel
theorem d_X11_child_29 : decode cX11_child 29 = .ok (.aload_n 0, 1) ∧ 30 = 29 + 1 := by decide +kernel
theorem d_X11_child_30 : decode cX11_child 30 = .ok (.getfield 7, 3) ∧ 33 = 30 + 3 := by decide +kernel
theorem d_X11_child_33 : decode cX11_child 33 = .ok (.iconst 0, 1) ∧ 34 = 33 + 1 := by decide +kernel
theorem d_X11_child_34 : decode cX11_child 34 = .ok (.iaload, 1) ∧ 35 = 34 + 1 := by decide +kernel
theorem d_X11_child_35 : decode cX11_child 35 = .ok (.bipush 14, 2) ∧ 37 = 35 + 2 := by decide +kernel
theorem d_X11_child_37 : decode cX11_child 37 = .ok (.if_icmp .ne 5, 3) ∧ 40 = 37 + 3 ∧ (37 : Int) + 5 = ((42 : Nat) : Int) := by decide +kernel
theorem d_X11_child_40 : decode cX11_child 40 = .ok (.iconst (-1), 1) ∧ 41 = 40 + 1 := by decide +kernel
theorem d_X11_child_41 : decode cX11_child 41 = .ok (.ireturn, 1) := by decide +kernel
theorem d_X11_child_42 : decode cX11_child 42 = .ok (.aload_n 0, 1) ∧ 43 = 42 + 1 := by decide +kernel
theorem d_X11_child_43 : decode cX11_child 43 = .ok (.getfield 7, 3) ∧ 46 = 43 + 3 := by decide +kernel
theorem d_X11_child_46 : decode cX11_child 46 = .ok (.iconst 0, 1) ∧ 47 = 46 + 1 := by decide +kernel
theorem d_X11_child_47 : decode cX11_child 47 = .ok (.iaload, 1) ∧ 48 = 47 + 1 := by decide +kernel
theorem d_X11_child_48 : decode cX11_child 48 = .ok (.istore 6, 2) ∧ 50 = 48 + 2 := by decide +kernel
theorem d_X11_child_50 : decode cX11_child 50 = .ok (.bipush 10, 2) ∧ 52 = 50 + 2 := by decide +kernel
theorem d_X11_child_52 : decode cX11_child 52 = .ok (.iconst 5, 1) ∧ 53 = 52 + 1 := by decide +kernel
theorem d_X11_child_53 : decode cX11_child 53 = .ok (.iload 6, 2) ∧ 55 = 53 + 2 := by decide +kernel
theorem d_X11_child_55 : decode cX11_child 55 = .ok (.imul, 1) ∧ 56 = 55 + 1 := by decide +kernel
theorem d_X11_child_56 : decode cX11_child 56 = .ok (.iadd, 1) ∧ 57 = 56 + 1 := by decide +kernel
theorem d_X11_child_57 : decode cX11_child 57 = .ok (.istore 7, 2) ∧ 59 = 57 + 2 := by decide +kernel
theorem d_X11_child_59 : decode cX11_child 59 = .ok (.aload_n 0, 1) ∧ 60 = 59 + 1 := by decide +kernel
theorem d_X11_child_60 : decode cX11_child 60 = .ok (.getfield 7, 3) ∧ 63 = 60 + 3 := by decide +kernel
theorem d_X11_child_63 : decode cX11_child 63 = .ok (.iload 7, 2) ∧ 65 = 63 + 2 := by decide +kernel
theorem d_X11_child_65 : decode cX11_child 65 = .ok (.iload_n 1, 1) ∧ 66 = 65 + 1 := by decide +kernel
theorem d_X11_child_66 : decode cX11_child 66 = .ok (.iastore, 1) ∧ 67 = 66 + 1 := by decide +kernel
theorem d_X11_child_67 : decode cX11_child 67 = .ok (.aload_n 0, 1) ∧ 68 = 67 + 1 := by decide +kernel
theorem d_X11_child_68 : decode cX11_child 68 = .ok (.getfield 7, 3) ∧ 71 = 68 + 3 := by decide +kernel
theorem d_X11_child_71 : decode cX11_child 71 = .ok (.iload 7, 2) ∧ 73 = 71 + 2 := by decide +kernel
theorem d_X11_child_73 : decode cX11_child 73 = .ok (.iconst 1, 1) ∧ 74 = 73 + 1 := by decide +kernel
theorem d_X11_child_74 : decode cX11_child 74 = .ok (.iadd, 1) ∧ 75 = 74 + 1 := by decide +kernel
theorem d_X11_child_75 : decode cX11_child 75 = .ok (.iload_n 2, 1) ∧ 76 = 75 + 1 := by decide +kernel
theorem d_X11_child_76 : decode cX11_child 76 = .ok (.iastore, 1) ∧ 77 = 76 + 1 := by decide +kernel
theorem d_X11_child_77 : decode cX11_child 77 = .ok (.aload_n 0, 1) ∧ 78 = 77 + 1 := by decide +kernel
theorem d_X11_child_78 : decode cX11_child 78 = .ok (.getfield 7, 3) ∧ 81 = 78 + 3 := by decide +kernel
theorem d_X11_child_81 : decode cX11_child 81 = .ok (.iload 7, 2) ∧ 83 = 81 + 2 := by decide +kernel
theorem d_X11_child_83 : decode cX11_child 83 = .ok (.iconst 2, 1) ∧ 84 = 83 + 1 := by decide +kernel
theorem d_X11_child_84 : decode cX11_child 84 = .ok (.iadd, 1) ∧ 85 = 84 + 1 := by decide +kernel
theorem d_X11_child_85 : decode cX11_child 85 = .ok (.iload_n 3, 1) ∧ 86 = 85 + 1 := by decide +kernel
theorem d_X11_child_86 : decode cX11_child 86 = .ok (.iastore, 1) ∧ 87 = 86 + 1 := by decide +kernel
theorem d_X11_child_87 : decode cX11_child 87 = .ok (.aload_n 0, 1) ∧ 88 = 87 + 1 := by decide +kernel
theorem d_X11_child_88 : decode cX11_child 88 = .ok (.getfield 7, 3) ∧ 91 = 88 + 3 := by decide +kernel
theorem d_X11_child_91 : decode cX11_child 91 = .ok (.iload 7, 2) ∧ 93 = 91 + 2 := by decide +kernel
theorem d_X11_child_93 : decode cX11_child 93 = .ok (.iconst 3, 1) ∧ 94 = 93 + 1 := by decide +kernel
theorem d_X11_child_94 : decode cX11_child 94 = .ok (.iadd, 1) ∧ 95 = 94 + 1 := by decide +kernel
theorem d_X11_child_95 : decode cX11_child 95 = .ok (.iload 4, 2) ∧ 97 = 95 + 2 := by decide +kernel
theorem d_X11_child_97 : decode cX11_child 97 = .ok (.ifCond .eq 7, 3) ∧ 100 = 97 + 3 ∧ (97 : Int) + 7 = ((104 : Nat) : Int) := by decide +kernel
theorem d_X11_child_100 : decode cX11_child 100 = .ok (.iconst 1, 1) ∧ 101 = 100 + 1 := by decide +kernel
theorem d_X11_child_101 : decode cX11_child 101 = .ok (.goto 4, 3) ∧ (101 : Int) + (4) = ((105 : Nat) : Int) := by decide +kernel
theorem d_X11_child_104 : decode cX11_child 104 = .ok (.iconst 0, 1) ∧ 105 = 104 + 1 := by decide +kernel
theorem d_X11_child_105 : decode cX11_child 105 = .ok (.iastore, 1) ∧ 106 = 105 + 1 := by decide +kernel
theorem d_X11_child_106 : decode cX11_child 106 = .ok (.aload_n 0, 1) ∧ 107 = 106 + 1 := by decide +kernel
theorem d_X11_child_107 : decode cX11_child 107 = .ok (.getfield 7, 3) ∧ 110 = 107 + 3 := by decide +kernel
theorem d_X11_child_110 : decode cX11_child 110 = .ok (.iload 7, 2) ∧ 112 = 110 + 2 := by decide +kernel
theorem d_X11_child_112 : decode cX11_child 112 = .ok (.iconst 4, 1) ∧ 113 = 112 + 1 := by decide +kernel
theorem d_X11_child_113 : decode cX11_child 113 = .ok (.iadd, 1) ∧ 114 = 113 + 1 := by decide +kernel
theorem d_X11_child_114 : decode cX11_child 114 = .ok (.iload 5, 2) ∧ 116 = 114 + 2 := by decide +kernel
theorem d_X11_child_116 : decode cX11_child 116 = .ok (.ifCond .eq 7, 3) ∧ 119 = 116 + 3 ∧ (116 : Int) + 7 = ((123 : Nat) : Int) := by decide +kernel
theorem d_X11_child_119 : decode cX11_child 119 = .ok (.iconst 1, 1) ∧ 120 = 119 + 1 := by decide +kernel
theorem d_X11_child_120 : decode cX11_child 120 = .ok (.goto 4, 3) ∧ (120 : Int) + (4) = ((124 : Nat) : Int) := by decide +kernel
theorem d_X11_child_123 : decode cX11_child 123 = .ok (.iconst 0, 1) ∧ 124 = 123 + 1 := by decide +kernel
theorem d_X11_child_124 : decode cX11_child 124 = .ok (.iastore, 1) ∧ 125 = 124 + 1 := by decide +kernel
theorem d_X11_child_125 : decode cX11_child 125 = .ok (.aload_n 0, 1) ∧ 126 = 125 + 1 := by decide +kernel
theorem d_X11_child_126 : decode cX11_child 126 = .ok (.getfield 7, 3) ∧ 129 = 126 + 3 := by decide +kernel
theorem d_X11_child_129 : decode cX11_child 129 = .ok (.bipush 80, 2) ∧ 131 = 129 + 2 := by decide +kernel
theorem d_X11_child_131 : decode cX11_child 131 = .ok (.iload 6, 2) ∧ 133 = 131 + 2 := by decide +kernel
theorem d_X11_child_133 : decode cX11_child 133 = .ok (.iadd, 1) ∧ 134 = 133 + 1 := by decide +kernel
theorem d_X11_child_134 : decode cX11_child 134 = .ok (.aload_n 0, 1) ∧ 135 = 134 + 1 := by decide +kernel
theorem d_X11_child_135 : decode cX11_child 135 = .ok (.getfield 7, 3) ∧ 138 = 135 + 3 := by decide +kernel
theorem d_X11_child_138 : decode cX11_child 138 = .ok (.iload 7, 2) ∧ 140 = 138 + 2 := by decide +kernel
theorem d_X11_child_140 : decode cX11_child 140 = .ok (.iconst 4, 1) ∧ 141 = 140 + 1 := by decide +kernel
theorem d_X11_child_141 : decode cX11_child 141 = .ok (.iadd, 1) ∧ 142 = 141 + 1 := by decide +kernel
theorem d_X11_child_142 : decode cX11_child 142 = .ok (.iaload, 1) ∧ 143 = 142 + 1 := by decide +kernel
theorem d_X11_child_143 : decode cX11_child 143 = .ok (.iastore, 1) ∧ 144 = 143 + 1 := by decide +kernel
theorem d_X11_child_144 : decode cX11_child 144 = .ok (.iconst 0, 1) ∧ 145 = 144 + 1 := by decide +kernel
theorem d_X11_child_145 : decode cX11_child 145 = .ok (.istore 8, 2) ∧ 147 = 145 + 2 := by decide +kernel
theorem d_X11_child_147 : decode cX11_child 147 = .ok (.iload 8, 2) ∧ 149 = 147 + 2 := by decide +kernel
theorem d_X11_child_149 : decode cX11_child 149 = .ok (.bipush 12, 2) ∧ 151 = 149 + 2 := by decide +kernel
theorem d_X11_child_151 : decode cX11_child 151 = .ok (.if_icmp .ge 27, 3) ∧ 154 = 151 + 3 ∧ (151 : Int) + 27 = ((178 : Nat) : Int) := by decide +kernel
theorem d_X11_child_154 : decode cX11_child 154 = .ok (.aload_n 0, 1) ∧ 155 = 154 + 1 := by decide +kernel
theorem d_X11_child_155 : decode cX11_child 155 = .ok (.getfield 7, 3) ∧ 158 = 155 + 3 := by decide +kernel
theorem d_X11_child_158 : decode cX11_child 158 = .ok (.sipush 150, 3) ∧ 161 = 158 + 3 := by decide +kernel
theorem d_X11_child_161 : decode cX11_child 161 = .ok (.bipush 14, 2) ∧ 163 = 161 + 2 := by decide +kernel
theorem d_X11_child_163 : decode cX11_child 163 = .ok (.iload 8, 2) ∧ 165 = 163 + 2 := by decide +kernel
theorem d_X11_child_165 : decode cX11_child 165 = .ok (.imul, 1) ∧ 166 = 165 + 1 := by decide +kernel
theorem d_X11_child_166 : decode cX11_child 166 = .ok (.iadd, 1) ∧ 167 = 166 + 1 := by decide +kernel
theorem d_X11_child_167 : decode cX11_child 167 = .ok (.iload 6, 2) ∧ 169 = 167 + 2 := by decide +kernel
theorem d_X11_child_169 : decode cX11_child 169 = .ok (.iadd, 1) ∧ 170 = 169 + 1 := by decide +kernel
theorem d_X11_child_170 : decode cX11_child 170 = .ok (.iconst (-1), 1) ∧ 171 = 170 + 1 := by decide +kernel
theorem d_X11_child_171 : decode cX11_child 171 = .ok (.iastore, 1) ∧ 172 = 171 + 1 := by decide +kernel
theorem d_X11_child_172 : decode cX11_child 172 = .ok (.iinc 8 1, 3) ∧ 175 = 172 + 3 := by decide +kernel
theorem d_X11_child_175 : decode cX11_child 175 = .ok (.goto (-28), 3) ∧ (175 : Int) + ((-28)) = ((147 : Nat) : Int) := by decide +kernel
theorem d_X11_child_178 : decode cX11_child 178 = .ok (.aload_n 0, 1) ∧ 179 = 178 + 1 := by decide +kernel
theorem d_X11_child_179 : decode cX11_child 179 = .ok (.getfield 7, 3) ∧ 182 = 179 + 3 := by decide +kernel
theorem d_X11_child_182 : decode cX11_child 182 = .ok (.iconst 0, 1) ∧ 183 = 182 + 1 := by decide +kernel
theorem d_X11_child_183 : decode cX11_child 183 = .ok (.dup2, 1) ∧ 184 = 183 + 1 := by decide +kernel
theorem d_X11_child_184 : decode cX11_child 184 = .ok (.iaload, 1) ∧ 185 = 184 + 1 := by decide +kernel
theorem d_X11_child_185 : decode cX11_child 185 = .ok (.iconst 1, 1) ∧ 186 = 185 + 1 := by decide +kernel
theorem d_X11_child_186 : decode cX11_child 186 = .ok (.iadd, 1) ∧ 187 = 186 + 1 := by decide +kernel
theorem d_X11_child_187 : decode cX11_child 187 = .ok (.iastore, 1) ∧ 188 = 187 + 1 := by decide +kernel
theorem d_X11_child_188 : decode cX11_child 188 = .ok (.iload 6, 2) ∧ 190 = 188 + 2 := by decide +kernel
theorem d_X11_child_190 : decode cX11_child 190 = .ok (.ireturn, 1) := by decide +kernel
theorem d_X11_had_0 : decode cX11_had 0 = .ok (.aload_n 0, 1) ∧ 1 = 0 + 1 := by decide +kernel
theorem d_X11_had_1 : decode cX11_had 1 = .ok (.iload_n 1, 1) ∧ 2 = 1 + 1 := by decide +kernel
theorem d_X11_had_2 : decode cX11_had 2 = .ok (.invokevirtual 105, 3) ∧ 5 = 2 + 3 := by decide +kernel
theorem d_X11_had_5 : decode cX11_had 5 = .ok (.ifCond .ne 5, 3) ∧ 8 = 5 + 3 ∧ (5 : Int) + 5 = ((10 : Nat) : Int) := by decide +kernel
theorem d_X11_had_8 : decode cX11_had 8 = .ok (.iconst 0, 1) ∧ 9 = 8 + 1 := by decide +kernel
theorem d_X11_had_9 : decode cX11_had 9 = .ok (.ireturn, 1) := by decide +kernel
theorem d_X11_had_10 : decode cX11_had 10 = .ok (.aload_n 0, 1) ∧ 11 = 10 + 1 := by decide +kernel
theorem d_X11_had_11 : decode cX11_had 11 = .ok (.getfield 7, 3) ∧ 14 = 11 + 3 := by decide +kernel
theorem d_X11_had_14 : decode cX11_had 14 = .ok (.bipush 80, 2) ∧ 16 = 14 + 2 := by decide +kernel
theorem d_X11_had_16 : decode cX11_had 16 = .ok (.iload_n 1, 1) ∧ 17 = 16 + 1 := by decide +kernel
theorem d_X11_had_17 : decode cX11_had 17 = .ok (.iadd, 1) ∧ 18 = 17 + 1 := by decide +kernel
theorem d_X11_had_18 : decode cX11_had 18 = .ok (.iload_n 2, 1) ∧ 19 = 18 + 1 := by decide +kernel
theorem d_X11_had_19 : decode cX11_had 19 = .ok (.ifCond .eq 7, 3) ∧ 22 = 19 + 3 ∧ (19 : Int) + 7 = ((26 : Nat) : Int) := by decide +kernel
theorem d_X11_had_22 : decode cX11_had 22 = .ok (.iconst 1, 1) ∧ 23 = 22 + 1 := by decide +kernel
theorem d_X11_had_23 : decode cX11_had 23 = .ok (.goto 4, 3) ∧ (23 : Int) + (4) = ((27 : Nat) : Int) := by decide +kernel
theorem d_X11_had_26 : decode cX11_had 26 = .ok (.iconst 0, 1) ∧ 27 = 26 + 1 := by decide +kernel
theorem d_X11_had_27 : decode cX11_had 27 = .ok (.iastore, 1) ∧ 28 = 27 + 1 := by decide +kernel
theorem d_X11_had_28 : decode cX11_had 28 = .ok (.iconst 1, 1) ∧ 29 = 28 + 1 := by decide +kernel
theorem d_X11_had_29 : decode cX11_had 29 = .ok (.ireturn, 1) := by decide +kernel
theorem d_X11_thing_0 : decode cX11_thing 0 = .ok (.iload_n 1, 1) ∧ 1 = 0 + 1 := by decide +kernel
theorem d_X11_thing_1 : decode cX11_thing 1 = .ok (.iconst 0, 1) ∧ 2 = 1 + 1 := by decide +kernel
theorem d_X11_thing_2 : decode cX11_thing 2 = .ok (.iconst 3, 1) ∧ 3 = 2 + 1 := by decide +kernel
theorem d_X11_thing_3 : decode cX11_thing 3 = .ok (.invokestatic 101, 3) ∧ 6 = 3 + 3 := by decide +kernel
theorem d_X11_thing_6 : decode cX11_thing 6 = .ok (.ifCond .eq 36, 3) ∧ 9 = 6 + 3 ∧ (6 : Int) + 36 = ((42 : Nat) : Int) := by decide +kernel
theorem d_X11_thing_9 : decode cX11_thing 9 = .ok (.iload_n 2, 1) ∧ 10 = 9 + 1 := by decide +kernel
theorem d_X11_thing_10 : decode cX11_thing 10 = .ok (.iconst 0, 1) ∧ 11 = 10 + 1 := by decide +kernel
theorem d_X11_thing_11 : decode cX11_thing 11 = .ok (.bipush 99, 2) ∧ 13 = 11 + 2 := by decide +kernel
theorem d_X11_thing_13 : decode cX11_thing 13 = .ok (.invokestatic 101, 3) ∧ 16 = 13 + 3 := by decide +kernel
theorem d_X11_thing_16 : decode cX11_thing 16 = .ok (.ifCond .eq 26, 3) ∧ 19 = 16 + 3 ∧ (16 : Int) + 26 = ((42 : Nat) : Int) := by decide +kernel
theorem d_X11_thing_19 : decode cX11_thing 19 = .ok (.iload 4, 2) ∧ 21 = 19 + 2 := by decide +kernel
theorem d_X11_thing_21 : decode cX11_thing 21 = .ok (.iconst 0, 1) ∧ 22 = 21 + 1 := by decide +kernel
theorem d_X11_thing_22 : decode cX11_thing 22 = .ok (.sipush 999, 3) ∧ 25 = 22 + 3 := by decide +kernel
theorem d_X11_thing_25 : decode cX11_thing 25 = .ok (.invokestatic 101, 3) ∧ 28 = 25 + 3 := by decide +kernel
theorem d_X11_thing_28 : decode cX11_thing 28 = .ok (.ifCond .eq 14, 3) ∧ 31 = 28 + 3 ∧ (28 : Int) + 14 = ((42 : Nat) : Int) := by decide +kernel
theorem d_X11_thing_31 : decode cX11_thing 31 = .ok (.aload_n 0, 1) ∧ 32 = 31 + 1 := by decide +kernel
theorem d_X11_thing_32 : decode cX11_thing 32 = .ok (.getfield 7, 3) ∧ 35 = 32 + 3 := by decide +kernel
theorem d_X11_thing_35 : decode cX11_thing 35 = .ok (.iconst 1, 1) ∧ 36 = 35 + 1 := by decide +kernel
theorem d_X11_thing_36 : decode cX11_thing 36 = .ok (.iaload, 1) ∧ 37 = 36 + 1 := by decide +kernel
theorem d_X11_thing_37 : decode cX11_thing 37 = .ok (.bipush 12, 2) ∧ 39 = 37 + 2 := by decide +kernel
theorem d_X11_thing_39 : decode cX11_thing 39 = .ok (.if_icmp .ne 5, 3) ∧ 42 = 39 + 3 ∧ (39 : Int) + 5 = ((44 : Nat) : Int) := by decide +kernel
theorem d_X11_thing_42 : decode cX11_thing 42 = .ok (.iconst (-1), 1) ∧ 43 = 42 + 1 := by decide +kernel
theorem d_X11_thing_43 : decode cX11_thing 43 = .ok (.ireturn, 1) := by decide +kernel
theorem d_X11_thing_44 : decode cX11_thing 44 = .ok (.aload_n 0, 1) ∧ 45 = 44 + 1 := by decide +kernel
theorem d_X11_thing_45 : decode cX11_thing 45 = .ok (.getfield 7, 3) ∧ 48 = 45 + 3 := by decide +kernel
theorem d_X11_thing_48 : decode cX11_thing 48 = .ok (.iconst 1, 1) ∧ 49 = 48 + 1 := by decide +kernel
theorem d_X11_thing_49 : decode cX11_thing 49 = .ok (.iaload, 1) ∧ 50 = 49 + 1 := by decide +kernel
theorem d_X11_thing_50 : decode cX11_thing 50 = .ok (.istore 5, 2) ∧ 52 = 50 + 2 := by decide +kernel
theorem d_X11_thing_52 : decode cX11_thing 52 = .ok (.bipush 100, 2) ∧ 54 = 52 + 2 := by decide +kernel
theorem d_X11_thing_54 : decode cX11_thing 54 = .ok (.iconst 4, 1) ∧ 55 = 54 + 1 := by decide +kernel
theorem d_X11_thing_55 : decode cX11_thing 55 = .ok (.iload 5, 2) ∧ 57 = 55 + 2 := by decide +kernel
theorem d_X11_thing_57 : decode cX11_thing 57 = .ok (.imul, 1) ∧ 58 = 57 + 1 := by decide +kernel
theorem d_X11_thing_58 : decode cX11_thing 58 = .ok (.iadd, 1) ∧ 59 = 58 + 1 := by decide +kernel
theorem d_X11_thing_59 : decode cX11_thing 59 = .ok (.istore 6, 2) ∧ 61 = 59 + 2 := by decide +kernel
theorem d_X11_thing_61 : decode cX11_thing 61 = .ok (.aload_n 0, 1) ∧ 62 = 61 + 1 := by decide +kernel
theorem d_X11_thing_62 : decode cX11_thing 62 = .ok (.getfield 7, 3) ∧ 65 = 62 + 3 := by decide +kernel
theorem d_X11_thing_65 : decode cX11_thing 65 = .ok (.iload 6, 2) ∧ 67 = 65 + 2 := by decide +kernel
theorem d_X11_thing_67 : decode cX11_thing 67 = .ok (.iload_n 1, 1) ∧ 68 = 67 + 1 := by decide +kernel
theorem d_X11_thing_68 : decode cX11_thing 68 = .ok (.iastore, 1) ∧ 69 = 68 + 1 := by decide +kernel
theorem d_X11_thing_69 : decode cX11_thing 69 = .ok (.aload_n 0, 1) ∧ 70 = 69 + 1 := by decide +kernel
theorem d_X11_thing_70 : decode cX11_thing 70 = .ok (.getfield 7, 3) ∧ 73 = 70 + 3 := by decide +kernel
theorem d_X11_thing_73 : decode cX11_thing 73 = .ok (.iload 6, 2) ∧ 75 = 73 + 2 := by decide +kernel
theorem d_X11_thing_75 : decode cX11_thing 75 = .ok (.iconst 1, 1) ∧ 76 = 75 + 1 := by decide +kernel
theorem d_X11_thing_76 : decode cX11_thing 76 = .ok (.iadd, 1) ∧ 77 = 76 + 1 := by decide +kernel
theorem d_X11_thing_77 : decode cX11_thing 77 = .ok (.iload_n 2, 1) ∧ 78 = 77 + 1 := by decide +kernel
theorem d_X11_thing_78 : decode cX11_thing 78 = .ok (.iastore, 1) ∧ 79 = 78 + 1 := by decide +kernel
theorem d_X11_thing_79 : decode cX11_thing 79 = .ok (.aload_n 0, 1) ∧ 80 = 79 + 1 := by decide +kernel
theorem d_X11_thing_80 : decode cX11_thing 80 = .ok (.getfield 7, 3) ∧ 83 = 80 + 3 := by decide +kernel
theorem d_X11_thing_83 : decode cX11_thing 83 = .ok (.iload 6, 2) ∧ 85 = 83 + 2 := by decide +kernel
theorem d_X11_thing_85 : decode cX11_thing 85 = .ok (.iconst 2, 1) ∧ 86 = 85 + 1 := by decide +kernel
theorem d_X11_thing_86 : decode cX11_thing 86 = .ok (.iadd, 1) ∧ 87 = 86 + 1 := by decide +kernel
theorem d_X11_thing_87 : decode cX11_thing 87 = .ok (.iload_n 3, 1) ∧ 88 = 87 + 1 := by decide +kernel
theorem d_X11_thing_88 : decode cX11_thing 88 = .ok (.ifCond .eq 7, 3) ∧ 91 = 88 + 3 ∧ (88 : Int) + 7 = ((95 : Nat) : Int) := by decide +kernel
theorem d_X11_thing_91 : decode cX11_thing 91 = .ok (.iconst 1, 1) ∧ 92 = 91 + 1 := by decide +kernel
theorem d_X11_thing_92 : decode cX11_thing 92 = .ok (.goto 4, 3) ∧ (92 : Int) + (4) = ((96 : Nat) : Int) := by decide +kernel
theorem d_X11_thing_95 : decode cX11_thing 95 = .ok (.iconst 0, 1) ∧ 96 = 95 + 1 := by decide +kernel
theorem d_X11_thing_96 : decode cX11_thing 96 = .ok (.iastore, 1) ∧ 97 = 96 + 1 := by decide +kernel
theorem d_X11_thing_97 : decode cX11_thing 97 = .ok (.aload_n 0, 1) ∧ 98 = 97 + 1 := by decide +kernel
theorem d_X11_thing_98 : decode cX11_thing 98 = .ok (.getfield 7, 3) ∧ 101 = 98 + 3 := by decide +kernel
theorem d_X11_thing_101 : decode cX11_thing 101 = .ok (.iload 6, 2) ∧ 103 = 101 + 2 := by decide +kernel
theorem d_X11_thing_103 : decode cX11_thing 103 = .ok (.iconst 3, 1) ∧ 104 = 103 + 1 := by decide +kernel
theorem d_X11_thing_104 : decode cX11_thing 104 = .ok (.iadd, 1) ∧ 105 = 104 + 1 := by decide +kernel
theorem d_X11_thing_105 : decode cX11_thing 105 = .ok (.iload 4, 2) ∧ 107 = 105 + 2 := by decide +kernel
theorem d_X11_thing_107 : decode cX11_thing 107 = .ok (.iastore, 1) ∧ 108 = 107 + 1 := by decide +kernel
theorem d_X11_thing_108 : decode cX11_thing 108 = .ok (.iconst 0, 1) ∧ 109 = 108 + 1 := by decide +kernel
theorem d_X11_thing_109 : decode cX11_thing 109 = .ok (.istore 7, 2) ∧ 111 = 109 + 2 := by decide +kernel
theorem d_X11_thing_111 : decode cX11_thing 111 = .ok (.iload 7, 2) ∧ 113 = 111 + 2 := by decide +kernel
theorem d_X11_thing_113 : decode cX11_thing 113 = .ok (.bipush 14, 2) ∧ 115 = 113 + 2 := by decide +kernel
theorem d_X11_thing_115 : decode cX11_thing 115 = .ok (.if_icmp .ge 27, 3) ∧ 118 = 115 + 3 ∧ (115 : Int) + 27 = ((142 : Nat) : Int) := by decide +kernel
theorem d_X11_thing_118 : decode cX11_thing 118 = .ok (.aload_n 0, 1) ∧ 119 = 118 + 1 := by decide +kernel
theorem d_X11_thing_119 : decode cX11_thing 119 = .ok (.getfield 7, 3) ∧ 122 = 119 + 3 := by decide +kernel
theorem d_X11_thing_122 : decode cX11_thing 122 = .ok (.sipush 150, 3) ∧ 125 = 122 + 3 := by decide +kernel
theorem d_X11_thing_125 : decode cX11_thing 125 = .ok (.bipush 14, 2) ∧ 127 = 125 + 2 := by decide +kernel
theorem d_X11_thing_127 : decode cX11_thing 127 = .ok (.iload 5, 2) ∧ 129 = 127 + 2 := by decide +kernel
theorem d_X11_thing_129 : decode cX11_thing 129 = .ok (.imul, 1) ∧ 130 = 129 + 1 := by decide +kernel
theorem d_X11_thing_130 : decode cX11_thing 130 = .ok (.iadd, 1) ∧ 131 = 130 + 1 := by decide +kernel
theorem d_X11_thing_131 : decode cX11_thing 131 = .ok (.iload 7, 2) ∧ 133 = 131 + 2 := by decide +kernel
theorem d_X11_thing_133 : decode cX11_thing 133 = .ok (.iadd, 1) ∧ 134 = 133 + 1 := by decide +kernel
theorem d_X11_thing_134 : decode cX11_thing 134 = .ok (.iconst (-1), 1) ∧ 135 = 134 + 1 := by decide +kernel
theorem d_X11_thing_135 : decode cX11_thing 135 = .ok (.iastore, 1) ∧ 136 = 135 + 1 := by decide +kernel
theorem d_X11_thing_136 : decode cX11_thing 136 = .ok (.iinc 7 1, 3) ∧ 139 = 136 + 3 := by decide +kernel
theorem d_X11_thing_139 : decode cX11_thing 139 = .ok (.goto (-28), 3) ∧ (139 : Int) + ((-28)) = ((111 : Nat) : Int) := by decide +kernel
theorem d_X11_thing_142 : decode cX11_thing 142 = .ok (.aload_n 0, 1) ∧ 143 = 142 + 1 := by decide +kernel
theorem d_X11_thing_143 : decode cX11_thing 143 = .ok (.getfield 7, 3) ∧ 146 = 143 + 3 := by decide +kernel
theorem d_X11_thing_146 : decode cX11_thing 146 = .ok (.iconst 1, 1) ∧ 147 = 146 + 1 := by decide +kernel
theorem d_X11_thing_147 : decode cX11_thing 147 = .ok (.dup2, 1) ∧ 148 = 147 + 1 := by decide +kernel
theorem d_X11_thing_148 : decode cX11_thing 148 = .ok (.iaload, 1) ∧ 149 = 148 + 1 := by decide +kernel
theorem d_X11_thing_149 : decode cX11_thing 149 = .ok (.iconst 1, 1) ∧ 150 = 149 + 1 := by decide +kernel
theorem d_X11_thing_150 : decode cX11_thing 150 = .ok (.iadd, 1) ∧ 151 = 150 + 1 := by decide +kernel
theorem d_X11_thing_151 : decode cX11_thing 151 = .ok (.iastore, 1) ∧ 152 = 151 + 1 := by decide +kernel
theorem d_X11_thing_152 : decode cX11_thing 152 = .ok (.iload 5, 2) ∧ 154 = 152 + 2 := by decide +kernel
theorem d_X11_thing_154 : decode cX11_thing 154 = .ok (.ireturn, 1) := by decide +kernel
theorem d_X11_answer_0 : decode cX11_answer 0 = .ok (.aload_n 0, 1) ∧ 1 = 0 + 1 := by decide +kernel
theorem d_X11_answer_1 : decode cX11_answer 1 = .ok (.iload_n 1, 1) ∧ 2 = 1 + 1 := by decide +kernel
theorem d_X11_answer_2 : decode cX11_answer 2 = .ok (.invokevirtual 109, 3) ∧ 5 = 2 + 3 := by decide +kernel
theorem d_X11_answer_5 : decode cX11_answer 5 = .ok (.ifCond .eq 21, 3) ∧ 8 = 5 + 3 ∧ (5 : Int) + 21 = ((26 : Nat) : Int) := by decide +kernel
theorem d_X11_answer_8 : decode cX11_answer 8 = .ok (.aload_n 0, 1) ∧ 9 = 8 + 1 := by decide +kernel
theorem d_X11_answer_9 : decode cX11_answer 9 = .ok (.iload_n 2, 1) ∧ 10 = 9 + 1 := by decide +kernel
theorem d_X11_answer_10 : decode cX11_answer 10 = .ok (.invokevirtual 105, 3) ∧ 13 = 10 + 3 := by decide +kernel
theorem d_X11_answer_13 : decode cX11_answer 13 = .ok (.ifCond .eq 13, 3) ∧ 16 = 13 + 3 ∧ (13 : Int) + 13 = ((26 : Nat) : Int) := by decide +kernel
theorem d_X11_answer_16 : decode cX11_answer 16 = .ok (.iload_n 3, 1) ∧ 17 = 16 + 1 := by decide +kernel
theorem d_X11_answer_17 : decode cX11_answer 17 = .ok (.iconst (-1), 1) ∧ 18 = 17 + 1 := by decide +kernel
theorem d_X11_answer_18 : decode cX11_answer 18 = .ok (.bipush 99, 2) ∧ 20 = 18 + 2 := by decide +kernel
theorem d_X11_answer_20 : decode cX11_answer 20 = .ok (.invokestatic 101, 3) ∧ 23 = 20 + 3 := by decide +kernel
theorem d_X11_answer_23 : decode cX11_answer 23 = .ok (.ifCond .ne 5, 3) ∧ 26 = 23 + 3 ∧ (23 : Int) + 5 = ((28 : Nat) : Int) := by decide +kernel
theorem d_X11_answer_26 : decode cX11_answer 26 = .ok (.iconst 0, 1) ∧ 27 = 26 + 1 := by decide +kernel
theorem d_X11_answer_27 : decode cX11_answer 27 = .ok (.ireturn, 1) := by decide +kernel
theorem d_X11_answer_28 : decode cX11_answer 28 = .ok (.aload_n 0, 1) ∧ 29 = 28 + 1 := by decide +kernel
theorem d_X11_answer_29 : decode cX11_answer 29 = .ok (.getfield 7, 3) ∧ 32 = 29 + 3 := by decide +kernel
theorem d_X11_answer_32 : decode cX11_answer 32 = .ok (.sipush 150, 3) ∧ 35 = 32 + 3 := by decide +kernel
theorem d_X11_answer_35 : decode cX11_answer 35 = .ok (.bipush 14, 2) ∧ 37 = 35 + 2 := by decide +kernel
theorem d_X11_answer_37 : decode cX11_answer 37 = .ok (.iload_n 1, 1) ∧ 38 = 37 + 1 := by decide +kernel
theorem d_X11_answer_38 : decode cX11_answer 38 = .ok (.imul, 1) ∧ 39 = 38 + 1 := by decide +kernel
theorem d_X11_answer_39 : decode cX11_answer 39 = .ok (.iadd, 1) ∧ 40 = 39 + 1 := by decide +kernel
theorem d_X11_answer_40 : decode cX11_answer 40 = .ok (.iload_n 2, 1) ∧ 41 = 40 + 1 := by decide +kernel
theorem d_X11_answer_41 : decode cX11_answer 41 = .ok (.iadd, 1) ∧ 42 = 41 + 1 := by decide +kernel
theorem d_X11_answer_42 : decode cX11_answer 42 = .ok (.iload_n 3, 1) ∧ 43 = 42 + 1 := by decide +kernel
theorem d_X11_answer_43 : decode cX11_answer 43 = .ok (.iastore, 1) ∧ 44 = 43 + 1 := by decide +kernel
theorem d_X11_answer_44 : decode cX11_answer 44 = .ok (.iconst 1, 1) ∧ 45 = 44 + 1 := by decide +kernel
theorem d_X11_answer_45 : decode cX11_answer 45 = .ok (.ireturn, 1) := by decide +kernel
theorem d_X11_answered_0 : decode cX11_answered 0 = .ok (.aload_n 0, 1) ∧ 1 = 0 + 1 := by decide +kernel
theorem d_X11_answered_1 : decode cX11_answered 1 = .ok (.iload_n 1, 1) ∧ 2 = 1 + 1 := by decide +kernel
theorem d_X11_answered_2 : decode cX11_answered 2 = .ok (.invokevirtual 109, 3) ∧ 5 = 2 + 3 := by decide +kernel
theorem d_X11_answered_5 : decode cX11_answered 5 = .ok (.ifCond .eq 20, 3) ∧ 8 = 5 + 3 ∧ (5 : Int) + 20 = ((25 : Nat) : Int) := by decide +kernel
theorem d_X11_answered_8 : decode cX11_answered 8 = .ok (.aload_n 0, 1) ∧ 9 = 8 + 1 := by decide +kernel
theorem d_X11_answered_9 : decode cX11_answered 9 = .ok (.iload_n 2, 1) ∧ 10 = 9 + 1 := by decide +kernel
theorem d_X11_answered_10 : decode cX11_answered 10 = .ok (.invokevirtual 105, 3) ∧ 13 = 10 + 3 := by decide +kernel
theorem d_X11_answered_13 : decode cX11_answered 13 = .ok (.ifCond .eq 12, 3) ∧ 16 = 13 + 3 ∧ (13 : Int) + 12 = ((25 : Nat) : Int) := by decide +kernel
theorem d_X11_answered_16 : decode cX11_answered 16 = .ok (.aload_n 0, 1) ∧ 17 = 16 + 1 := by decide +kernel
theorem d_X11_answered_17 : decode cX11_answered 17 = .ok (.iload_n 1, 1) ∧ 18 = 17 + 1 := by decide +kernel
theorem d_X11_answered_18 : decode cX11_answered 18 = .ok (.iload_n 2, 1) ∧ 19 = 18 + 1 := by decide +kernel
theorem d_X11_answered_19 : decode cX11_answered 19 = .ok (.invokevirtual 112, 3) ∧ 22 = 19 + 3 := by decide +kernel
theorem d_X11_answered_22 : decode cX11_answered 22 = .ok (.goto 4, 3) ∧ (22 : Int) + (4) = ((26 : Nat) : Int) := by decide +kernel
theorem d_X11_answered_25 : decode cX11_answered 25 = .ok (.iconst (-1), 1) ∧ 26 = 25 + 1 := by decide +kernel
theorem d_X11_answered_26 : decode cX11_answered 26 = .ok (.ireturn, 1) := by decide +kernel
theorem d_X11_differs_0 : decode cX11_differs 0 = .ok (.iconst 0, 1) ∧ 1 = 0 + 1 := by decide +kernel
theorem d_X11_differs_1 : decode cX11_differs 1 = .ok (.istore 4, 2) ∧ 3 = 1 + 2 := by decide +kernel
theorem d_X11_differs_3 : decode cX11_differs 3 = .ok (.iconst 0, 1) ∧ 4 = 3 + 1 := by decide +kernel
theorem d_X11_differs_4 : decode cX11_differs 4 = .ok (.istore 5, 2) ∧ 6 = 4 + 2 := by decide +kernel
theorem d_X11_differs_6 : decode cX11_differs 6 = .ok (.iconst 0, 1) ∧ 7 = 6 + 1 := by decide +kernel
theorem d_X11_differs_7 : decode cX11_differs 7 = .ok (.istore 6, 2) ∧ 9 = 7 + 2 := by decide +kernel
theorem d_X11_differs_9 : decode cX11_differs 9 = .ok (.iconst 0, 1) ∧ 10 = 9 + 1 := by decide +kernel
theorem d_X11_differs_10 : decode cX11_differs 10 = .ok (.istore 7, 2) ∧ 12 = 10 + 2 := by decide +kernel
theorem d_X11_differs_12 : decode cX11_differs 12 = .ok (.iconst 0, 1) ∧ 13 = 12 + 1 := by decide +kernel
theorem d_X11_differs_13 : decode cX11_differs 13 = .ok (.istore 8, 2) ∧ 15 = 13 + 2 := by decide +kernel
theorem d_X11_differs_15 : decode cX11_differs 15 = .ok (.iload 8, 2) ∧ 17 = 15 + 2 := by decide +kernel
theorem d_X11_differs_17 : decode cX11_differs 17 = .ok (.aload_n 0, 1) ∧ 18 = 17 + 1 := by decide +kernel
theorem d_X11_differs_18 : decode cX11_differs 18 = .ok (.getfield 7, 3) ∧ 21 = 18 + 3 := by decide +kernel
theorem d_X11_differs_21 : decode cX11_differs 21 = .ok (.iconst 0, 1) ∧ 22 = 21 + 1 := by decide +kernel
theorem d_X11_differs_22 : decode cX11_differs 22 = .ok (.iaload, 1) ∧ 23 = 22 + 1 := by decide +kernel
theorem d_X11_differs_23 : decode cX11_differs 23 = .ok (.if_icmp .ge 73, 3) ∧ 26 = 23 + 3 ∧ (23 : Int) + 73 = ((96 : Nat) : Int) := by decide +kernel
theorem d_X11_differs_26 : decode cX11_differs 26 = .ok (.aload_n 0, 1) ∧ 27 = 26 + 1 := by decide +kernel
theorem d_X11_differs_27 : decode cX11_differs 27 = .ok (.iload_n 1, 1) ∧ 28 = 27 + 1 := by decide +kernel
theorem d_X11_differs_28 : decode cX11_differs 28 = .ok (.iload 8, 2) ∧ 30 = 28 + 2 := by decide +kernel
theorem d_X11_differs_30 : decode cX11_differs 30 = .ok (.invokevirtual 112, 3) ∧ 33 = 30 + 3 := by decide +kernel
theorem d_X11_differs_33 : decode cX11_differs 33 = .ok (.istore 9, 2) ∧ 35 = 33 + 2 := by decide +kernel
theorem d_X11_differs_35 : decode cX11_differs 35 = .ok (.iload 9, 2) ∧ 37 = 35 + 2 := by decide +kernel
theorem d_X11_differs_37 : decode cX11_differs 37 = .ok (.iconst (-1), 1) ∧ 38 = 37 + 1 := by decide +kernel
theorem d_X11_differs_38 : decode cX11_differs 38 = .ok (.if_icmp .eq 52, 3) ∧ 41 = 38 + 3 ∧ (38 : Int) + 52 = ((90 : Nat) : Int) := by decide +kernel
theorem d_X11_differs_41 : decode cX11_differs 41 = .ok (.iload_n 3, 1) ∧ 42 = 41 + 1 := by decide +kernel
theorem d_X11_differs_42 : decode cX11_differs 42 = .ok (.iconst 2, 1) ∧ 43 = 42 + 1 := by decide +kernel
theorem d_X11_differs_43 : decode cX11_differs 43 = .ok (.if_icmp .eq 14, 3) ∧ 46 = 43 + 3 ∧ (43 : Int) + 14 = ((57 : Nat) : Int) := by decide +kernel
theorem d_X11_differs_46 : decode cX11_differs 46 = .ok (.aload_n 0, 1) ∧ 47 = 46 + 1 := by decide +kernel
theorem d_X11_differs_47 : decode cX11_differs 47 = .ok (.iload 8, 2) ∧ 49 = 47 + 2 := by decide +kernel
theorem d_X11_differs_49 : decode cX11_differs 49 = .ok (.iconst 0, 1) ∧ 50 = 49 + 1 := by decide +kernel
theorem d_X11_differs_50 : decode cX11_differs 50 = .ok (.invokevirtual 116, 3) ∧ 53 = 50 + 3 := by decide +kernel
theorem d_X11_differs_53 : decode cX11_differs 53 = .ok (.iload_n 3, 1) ∧ 54 = 53 + 1 := by decide +kernel
theorem d_X11_differs_54 : decode cX11_differs 54 = .ok (.if_icmp .ne 36, 3) ∧ 57 = 54 + 3 ∧ (54 : Int) + 36 = ((90 : Nat) : Int) := by decide +kernel
theorem d_X11_differs_57 : decode cX11_differs 57 = .ok (.iload_n 2, 1) ∧ 58 = 57 + 1 := by decide +kernel
theorem d_X11_differs_58 : decode cX11_differs 58 = .ok (.iload 8, 2) ∧ 60 = 58 + 2 := by decide +kernel
