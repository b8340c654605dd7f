theorem d_X11_differs_60 : decode cX11_differs 60 = .ok (.ishr, 1) ∧ 61 = 60 + 1 := by decide +kernel
theorem d_X11_differs_61 : decode cX11_differs 61 = .ok (.iconst 1, 1) ∧ 62 = 61 + 1 := by decide +kernel
theorem d_X11_differs_62 : decode cX11_differs 62 = .ok (.iand, 1) ∧ 63 = 62 + 1 := by decide +kernel
theorem d_X11_differs_63 : decode cX11_differs 63 = .ok (.iconst 1, 1) ∧ 64 = 63 + 1 := by decide +kernel
theorem d_X11_differs_64 : decode cX11_differs 64 = .ok (.if_icmp .ne 16, 3) ∧ 67 = 64 + 3 ∧ (64 : Int) + 16 = ((80 : Nat) : Int) := by decide +kernel
theorem d_X11_differs_67 : decode cX11_differs 67 = .ok (.iinc 4 1, 3) ∧ 70 = 67 + 3 := by decide +kernel
theorem d_X11_differs_70 : decode cX11_differs 70 = .ok (.iload 6, 2) ∧ 72 = 70 + 2 := by decide +kernel
theorem d_X11_differs_72 : decode cX11_differs 72 = .ok (.iload 9, 2) ∧ 74 = 72 + 2 := by decide +kernel
theorem d_X11_differs_74 : decode cX11_differs 74 = .ok (.iadd, 1) ∧ 75 = 74 + 1 := by decide +kernel
theorem d_X11_differs_75 : decode cX11_differs 75 = .ok (.istore 6, 2) ∧ 77 = 75 + 2 := by decide +kernel
theorem d_X11_differs_77 : decode cX11_differs 77 = .ok (.goto 13, 3) ∧ (77 : Int) + (13) = ((90 : Nat) : Int) := by decide +kernel
theorem d_X11_differs_80 : decode cX11_differs 80 = .ok (.iinc 5 1, 3) ∧ 83 = 80 + 3 := by decide +kernel
theorem d_X11_differs_83 : decode cX11_differs 83 = .ok (.iload 7, 2) ∧ 85 = 83 + 2 := by decide +kernel
theorem d_X11_differs_85 : decode cX11_differs 85 = .ok (.iload 9, 2) ∧ 87 = 85 + 2 := by decide +kernel
theorem d_X11_differs_87 : decode cX11_differs 87 = .ok (.iadd, 1) ∧ 88 = 87 + 1 := by decide +kernel
theorem d_X11_differs_88 : decode cX11_differs 88 = .ok (.istore 7, 2) ∧ 90 = 88 + 2 := by decide +kernel
theorem d_X11_differs_90 : decode cX11_differs 90 = .ok (.iinc 8 1, 3) ∧ 93 = 90 + 3 := by decide +kernel
theorem d_X11_differs_93 : decode cX11_differs 93 = .ok (.goto (-78), 3) ∧ (93 : Int) + ((-78)) = ((15 : Nat) : Int) := by decide +kernel
theorem d_X11_differs_96 : decode cX11_differs 96 = .ok (.aload_n 0, 1) ∧ 97 = 96 + 1 := by decide +kernel
theorem d_X11_differs_97 : decode cX11_differs 97 = .ok (.iload 6, 2) ∧ 99 = 97 + 2 := by decide +kernel
theorem d_X11_differs_99 : decode cX11_differs 99 = .ok (.iload 5, 2) ∧ 101 = 99 + 2 := by decide +kernel
theorem d_X11_differs_101 : decode cX11_differs 101 = .ok (.imul, 1) ∧ 102 = 101 + 1 := by decide +kernel
theorem d_X11_differs_102 : decode cX11_differs 102 = .ok (.iload 7, 2) ∧ 104 = 102 + 2 := by decide +kernel
theorem d_X11_differs_104 : decode cX11_differs 104 = .ok (.iload 4, 2) ∧ 106 = 104 + 2 := by decide +kernel
theorem d_X11_differs_106 : decode cX11_differs 106 = .ok (.imul, 1) ∧ 107 = 106 + 1 := by decide +kernel
theorem d_X11_differs_107 : decode cX11_differs 107 = .ok (.isub, 1) ∧ 108 = 107 + 1 := by decide +kernel
theorem d_X11_differs_108 : decode cX11_differs 108 = .ok (.i2l, 1) ∧ 109 = 108 + 1 := by decide +kernel
theorem d_X11_differs_109 : decode cX11_differs 109 = .ok (.putfield 119, 3) ∧ 112 = 109 + 3 := by decide +kernel
theorem d_X11_differs_112 : decode cX11_differs 112 = .ok (.aload_n 0, 1) ∧ 113 = 112 + 1 := by decide +kernel
theorem d_X11_differs_113 : decode cX11_differs 113 = .ok (.iload_n 1, 1) ∧ 114 = 113 + 1 := by decide +kernel
theorem d_X11_differs_114 : decode cX11_differs 114 = .ok (.iconst 2, 1) ∧ 115 = 114 + 1 := by decide +kernel
theorem d_X11_differs_115 : decode cX11_differs 115 = .ok (.invokevirtual 123, 3) ∧ 118 = 115 + 3 := by decide +kernel
theorem d_X11_differs_118 : decode cX11_differs 118 = .ok (.iconst 1, 1) ∧ 119 = 118 + 1 := by decide +kernel
theorem d_X11_differs_119 : decode cX11_differs 119 = .ok (.if_icmp .ne 12, 3) ∧ 122 = 119 + 3 ∧ (119 : Int) + 12 = ((131 : Nat) : Int) := by decide +kernel
theorem d_X11_differs_122 : decode cX11_differs 122 = .ok (.aload_n 0, 1) ∧ 123 = 122 + 1 := by decide +kernel
theorem d_X11_differs_123 : decode cX11_differs 123 = .ok (.aload_n 0, 1) ∧ 124 = 123 + 1 := by decide +kernel
theorem d_X11_differs_124 : decode cX11_differs 124 = .ok (.getfield 119, 3) ∧ 127 = 124 + 3 := by decide +kernel
theorem d_X11_differs_127 : decode cX11_differs 127 = .ok (.lneg, 1) ∧ 128 = 127 + 1 := by decide +kernel
theorem d_X11_differs_128 : decode cX11_differs 128 = .ok (.putfield 119, 3) ∧ 131 = 128 + 3 := by decide +kernel
theorem d_X11_differs_131 : decode cX11_differs 131 = .ok (.aload_n 0, 1) ∧ 132 = 131 + 1 := by decide +kernel
theorem d_X11_differs_132 : decode cX11_differs 132 = .ok (.iload 4, 2) ∧ 134 = 132 + 2 := by decide +kernel
theorem d_X11_differs_134 : decode cX11_differs 134 = .ok (.iload 5, 2) ∧ 136 = 134 + 2 := by decide +kernel
theorem d_X11_differs_136 : decode cX11_differs 136 = .ok (.imul, 1) ∧ 137 = 136 + 1 := by decide +kernel
theorem d_X11_differs_137 : decode cX11_differs 137 = .ok (.i2l, 1) ∧ 138 = 137 + 1 := by decide +kernel
theorem d_X11_differs_138 : decode cX11_differs 138 = .ok (.putfield 126, 3) ∧ 141 = 138 + 3 := by decide +kernel
theorem d_X11_differs_141 : decode cX11_differs 141 = .ok (.iload 4, 2) ∧ 143 = 141 + 2 := by decide +kernel
theorem d_X11_differs_143 : decode cX11_differs 143 = .ok (.ifCond .le 12, 3) ∧ 146 = 143 + 3 ∧ (143 : Int) + 12 = ((155 : Nat) : Int) := by decide +kernel
theorem d_X11_differs_146 : decode cX11_differs 146 = .ok (.iload 5, 2) ∧ 148 = 146 + 2 := by decide +kernel
theorem d_X11_differs_148 : decode cX11_differs 148 = .ok (.ifCond .le 7, 3) ∧ 151 = 148 + 3 ∧ (148 : Int) + 7 = ((155 : Nat) : Int) := by decide +kernel
theorem d_X11_differs_151 : decode cX11_differs 151 = .ok (.iconst 1, 1) ∧ 152 = 151 + 1 := by decide +kernel
theorem d_X11_differs_152 : decode cX11_differs 152 = .ok (.goto 4, 3) ∧ (152 : Int) + (4) = ((156 : Nat) : Int) := by decide +kernel
theorem d_X11_differs_155 : decode cX11_differs 155 = .ok (.iconst 0, 1) ∧ 156 = 155 + 1 := by decide +kernel
theorem d_X11_differs_156 : decode cX11_differs 156 = .ok (.ireturn, 1) := by decide +kernel
theorem d_X11_hadBits_0 : decode cX11_hadBits 0 = .ok (.iconst 0, 1) ∧ 1 = 0 + 1 := by decide +kernel
theorem d_X11_hadBits_1 : decode cX11_hadBits 1 = .ok (.istore_n 1, 1) ∧ 2 = 1 + 1 := by decide +kernel
theorem d_X11_hadBits_2 : decode cX11_hadBits 2 = .ok (.iconst 0, 1) ∧ 3 = 2 + 1 := by decide +kernel
theorem d_X11_hadBits_3 : decode cX11_hadBits 3 = .ok (.istore_n 2, 1) ∧ 4 = 3 + 1 := by decide +kernel
theorem d_X11_hadBits_4 : decode cX11_hadBits 4 = .ok (.iload_n 2, 1) ∧ 5 = 4 + 1 := by decide +kernel
theorem d_X11_hadBits_5 : decode cX11_hadBits 5 = .ok (.aload_n 0, 1) ∧ 6 = 5 + 1 := by decide +kernel
theorem d_X11_hadBits_6 : decode cX11_hadBits 6 = .ok (.getfield 7, 3) ∧ 9 = 6 + 3 := by decide +kernel
theorem d_X11_hadBits_9 : decode cX11_hadBits 9 = .ok (.iconst 0, 1) ∧ 10 = 9 + 1 := by decide +kernel
theorem d_X11_hadBits_10 : decode cX11_hadBits 10 = .ok (.iaload, 1) ∧ 11 = 10 + 1 := by decide +kernel
theorem d_X11_hadBits_11 : decode cX11_hadBits 11 = .ok (.if_icmp .ge 23, 3) ∧ 14 = 11 + 3 ∧ (11 : Int) + 23 = ((34 : Nat) : Int) := by decide +kernel
theorem d_X11_hadBits_14 : decode cX11_hadBits 14 = .ok (.iload_n 1, 1) ∧ 15 = 14 + 1 := by decide +kernel
theorem d_X11_hadBits_15 : decode cX11_hadBits 15 = .ok (.aload_n 0, 1) ∧ 16 = 15 + 1 := by decide +kernel
theorem d_X11_hadBits_16 : decode cX11_hadBits 16 = .ok (.getfield 7, 3) ∧ 19 = 16 + 3 := by decide +kernel
theorem d_X11_hadBits_19 : decode cX11_hadBits 19 = .ok (.bipush 80, 2) ∧ 21 = 19 + 2 := by decide +kernel
theorem d_X11_hadBits_21 : decode cX11_hadBits 21 = .ok (.iload_n 2, 1) ∧ 22 = 21 + 1 := by decide +kernel
theorem d_X11_hadBits_22 : decode cX11_hadBits 22 = .ok (.iadd, 1) ∧ 23 = 22 + 1 := by decide +kernel
theorem d_X11_hadBits_23 : decode cX11_hadBits 23 = .ok (.iaload, 1) ∧ 24 = 23 + 1 := by decide +kernel
theorem d_X11_hadBits_24 : decode cX11_hadBits 24 = .ok (.iload_n 2, 1) ∧ 25 = 24 + 1 := by decide +kernel
theorem d_X11_hadBits_25 : decode cX11_hadBits 25 = .ok (.ishl, 1) ∧ 26 = 25 + 1 := by decide +kernel
theorem d_X11_hadBits_26 : decode cX11_hadBits 26 = .ok (.ior, 1) ∧ 27 = 26 + 1 := by decide +kernel
theorem d_X11_hadBits_27 : decode cX11_hadBits 27 = .ok (.istore_n 1, 1) ∧ 28 = 27 + 1 := by decide +kernel
theorem d_X11_hadBits_28 : decode cX11_hadBits 28 = .ok (.iinc 2 1, 3) ∧ 31 = 28 + 3 := by decide +kernel
theorem d_X11_hadBits_31 : decode cX11_hadBits 31 = .ok (.goto (-27), 3) ∧ (31 : Int) + ((-27)) = ((4 : Nat) : Int) := by decide +kernel
theorem d_X11_hadBits_34 : decode cX11_hadBits 34 = .ok (.iload_n 1, 1) ∧ 35 = 34 + 1 := by decide +kernel
theorem d_X11_hadBits_35 : decode cX11_hadBits 35 = .ok (.ireturn, 1) := by decide +kernel
theorem d_X11_coinBits_0 : decode cX11_coinBits 0 = .ok (.iconst 0, 1) ∧ 1 = 0 + 1 := by decide +kernel
theorem d_X11_coinBits_1 : decode cX11_coinBits 1 = .ok (.istore_n 1, 1) ∧ 2 = 1 + 1 := by decide +kernel
theorem d_X11_coinBits_2 : decode cX11_coinBits 2 = .ok (.iconst 0, 1) ∧ 3 = 2 + 1 := by decide +kernel
theorem d_X11_coinBits_3 : decode cX11_coinBits 3 = .ok (.istore_n 2, 1) ∧ 4 = 3 + 1 := by decide +kernel
theorem d_X11_coinBits_4 : decode cX11_coinBits 4 = .ok (.iload_n 2, 1) ∧ 5 = 4 + 1 := by decide +kernel
theorem d_X11_coinBits_5 : decode cX11_coinBits 5 = .ok (.aload_n 0, 1) ∧ 6 = 5 + 1 := by decide +kernel
theorem d_X11_coinBits_6 : decode cX11_coinBits 6 = .ok (.getfield 7, 3) ∧ 9 = 6 + 3 := by decide +kernel
theorem d_X11_coinBits_9 : decode cX11_coinBits 9 = .ok (.iconst 0, 1) ∧ 10 = 9 + 1 := by decide +kernel
theorem d_X11_coinBits_10 : decode cX11_coinBits 10 = .ok (.iaload, 1) ∧ 11 = 10 + 1 := by decide +kernel
theorem d_X11_coinBits_11 : decode cX11_coinBits 11 = .ok (.if_icmp .ge 20, 3) ∧ 14 = 11 + 3 ∧ (11 : Int) + 20 = ((31 : Nat) : Int) := by decide +kernel
theorem d_X11_coinBits_14 : decode cX11_coinBits 14 = .ok (.iload_n 1, 1) ∧ 15 = 14 + 1 := by decide +kernel
theorem d_X11_coinBits_15 : decode cX11_coinBits 15 = .ok (.aload_n 0, 1) ∧ 16 = 15 + 1 := by decide +kernel
theorem d_X11_coinBits_16 : decode cX11_coinBits 16 = .ok (.iload_n 2, 1) ∧ 17 = 16 + 1 := by decide +kernel
theorem d_X11_coinBits_17 : decode cX11_coinBits 17 = .ok (.iconst 4, 1) ∧ 18 = 17 + 1 := by decide +kernel
theorem d_X11_coinBits_18 : decode cX11_coinBits 18 = .ok (.invokevirtual 116, 3) ∧ 21 = 18 + 3 := by decide +kernel
theorem d_X11_coinBits_21 : decode cX11_coinBits 21 = .ok (.iload_n 2, 1) ∧ 22 = 21 + 1 := by decide +kernel
theorem d_X11_coinBits_22 : decode cX11_coinBits 22 = .ok (.ishl, 1) ∧ 23 = 22 + 1 := by decide +kernel
theorem d_X11_coinBits_23 : decode cX11_coinBits 23 = .ok (.ior, 1) ∧ 24 = 23 + 1 := by decide +kernel
theorem d_X11_coinBits_24 : decode cX11_coinBits 24 = .ok (.istore_n 1, 1) ∧ 25 = 24 + 1 := by decide +kernel
theorem d_X11_coinBits_25 : decode cX11_coinBits 25 = .ok (.iinc 2 1, 3) ∧ 28 = 25 + 3 := by decide +kernel
theorem d_X11_coinBits_28 : decode cX11_coinBits 28 = .ok (.goto (-24), 3) ∧ (28 : Int) + ((-24)) = ((4 : Nat) : Int) := by decide +kernel
theorem d_X11_coinBits_31 : decode cX11_coinBits 31 = .ok (.iload_n 1, 1) ∧ 32 = 31 + 1 := by decide +kernel
theorem d_X11_coinBits_32 : decode cX11_coinBits 32 = .ok (.ireturn, 1) := by decide +kernel
theorem d_X11_thousandths_0 : decode cX11_thousandths 0 = .ok (.ldc2_w 129, 3) ∧ 3 = 0 + 3 := by decide +kernel
theorem d_X11_thousandths_3 : decode cX11_thousandths 3 = .ok (.aload_n 0, 1) ∧ 4 = 3 + 1 := by decide +kernel
theorem d_X11_thousandths_4 : decode cX11_thousandths 4 = .ok (.getfield 119, 3) ∧ 7 = 4 + 3 := by decide +kernel
theorem d_X11_thousandths_7 : decode cX11_thousandths 7 = .ok (.lmul, 1) ∧ 8 = 7 + 1 := by decide +kernel
theorem d_X11_thousandths_8 : decode cX11_thousandths 8 = .ok (.aload_n 0, 1) ∧ 9 = 8 + 1 := by decide +kernel
theorem d_X11_thousandths_9 : decode cX11_thousandths 9 = .ok (.getfield 126, 3) ∧ 12 = 9 + 3 := by decide +kernel
theorem d_X11_thousandths_12 : decode cX11_thousandths 12 = .ok (.ldiv, 1) ∧ 13 = 12 + 1 := by decide +kernel
theorem d_X11_thousandths_13 : decode cX11_thousandths 13 = .ok (.l2i, 1) ∧ 14 = 13 + 1 := by decide +kernel
theorem d_X11_thousandths_14 : decode cX11_thousandths 14 = .ok (.ireturn, 1) := by decide +kernel
theorem d_X11_difference_0 : decode cX11_difference 0 = .ok (.aload_n 0, 1) ∧ 1 = 0 + 1 := by decide +kernel
theorem d_X11_difference_1 : decode cX11_difference 1 = .ok (.iload_n 1, 1) ∧ 2 = 1 + 1 := by decide +kernel
theorem d_X11_difference_2 : decode cX11_difference 2 = .ok (.invokevirtual 109, 3) ∧ 5 = 2 + 3 := by decide +kernel
theorem d_X11_difference_5 : decode cX11_difference 5 = .ok (.ifCond .eq 34, 3) ∧ 8 = 5 + 3 ∧ (5 : Int) + 34 = ((39 : Nat) : Int) := by decide +kernel
theorem d_X11_difference_8 : decode cX11_difference 8 = .ok (.iload_n 2, 1) ∧ 9 = 8 + 1 := by decide +kernel
theorem d_X11_difference_9 : decode cX11_difference 9 = .ok (.iconst 0, 1) ∧ 10 = 9 + 1 := by decide +kernel
theorem d_X11_difference_10 : decode cX11_difference 10 = .ok (.iconst 2, 1) ∧ 11 = 10 + 1 := by decide +kernel
theorem d_X11_difference_11 : decode cX11_difference 11 = .ok (.invokestatic 101, 3) ∧ 14 = 11 + 3 := by decide +kernel
theorem d_X11_difference_14 : decode cX11_difference 14 = .ok (.ifCond .eq 25, 3) ∧ 17 = 14 + 3 ∧ (14 : Int) + 25 = ((39 : Nat) : Int) := by decide +kernel
theorem d_X11_difference_17 : decode cX11_difference 17 = .ok (.iload_n 3, 1) ∧ 18 = 17 + 1 := by decide +kernel
theorem d_X11_difference_18 : decode cX11_difference 18 = .ok (.iconst 0, 1) ∧ 19 = 18 + 1 := by decide +kernel
theorem d_X11_difference_19 : decode cX11_difference 19 = .ok (.iconst 2, 1) ∧ 20 = 19 + 1 := by decide +kernel
theorem d_X11_difference_20 : decode cX11_difference 20 = .ok (.invokestatic 101, 3) ∧ 23 = 20 + 3 := by decide +kernel
theorem d_X11_difference_23 : decode cX11_difference 23 = .ok (.ifCond .eq 16, 3) ∧ 26 = 23 + 3 ∧ (23 : Int) + 16 = ((39 : Nat) : Int) := by decide +kernel
theorem d_X11_difference_26 : decode cX11_difference 26 = .ok (.aload_n 0, 1) ∧ 27 = 26 + 1 := by decide +kernel
theorem d_X11_difference_27 : decode cX11_difference 27 = .ok (.iload_n 1, 1) ∧ 28 = 27 + 1 := by decide +kernel
theorem d_X11_difference_28 : decode cX11_difference 28 = .ok (.aload_n 0, 1) ∧ 29 = 28 + 1 := by decide +kernel
theorem d_X11_difference_29 : decode cX11_difference 29 = .ok (.invokevirtual 131, 3) ∧ 32 = 29 + 3 := by decide +kernel
theorem d_X11_difference_32 : decode cX11_difference 32 = .ok (.iload_n 2, 1) ∧ 33 = 32 + 1 := by decide +kernel
theorem d_X11_difference_33 : decode cX11_difference 33 = .ok (.invokevirtual 135, 3) ∧ 36 = 33 + 3 := by decide +kernel
theorem d_X11_difference_36 : decode cX11_difference 36 = .ok (.ifCond .ne 6, 3) ∧ 39 = 36 + 3 ∧ (36 : Int) + 6 = ((42 : Nat) : Int) := by decide +kernel
theorem d_X11_difference_39 : decode cX11_difference 39 = .ok (.ldc 138, 2) ∧ 41 = 39 + 2 := by decide +kernel
theorem d_X11_difference_41 : decode cX11_difference 41 = .ok (.ireturn, 1) := by decide +kernel
theorem d_X11_difference_42 : decode cX11_difference 42 = .ok (.iload_n 3, 1) ∧ 43 = 42 + 1 := by decide +kernel
theorem d_X11_difference_43 : decode cX11_difference 43 = .ok (.ifCond .ne 11, 3) ∧ 46 = 43 + 3 ∧ (43 : Int) + 11 = ((54 : Nat) : Int) := by decide +kernel
theorem d_X11_difference_46 : decode cX11_difference 46 = .ok (.aload_n 0, 1) ∧ 47 = 46 + 1 := by decide +kernel
theorem d_X11_difference_47 : decode cX11_difference 47 = .ok (.getfield 119, 3) ∧ 50 = 47 + 3 := by decide +kernel
theorem d_X11_difference_50 : decode cX11_difference 50 = .ok (.l2i, 1) ∧ 51 = 50 + 1 := by decide +kernel
theorem d_X11_difference_51 : decode cX11_difference 51 = .ok (.goto 20, 3) ∧ (51 : Int) + (20) = ((71 : Nat) : Int) := by decide +kernel
theorem d_X11_difference_54 : decode cX11_difference 54 = .ok (.iload_n 3, 1) ∧ 55 = 54 + 1 := by decide +kernel
theorem d_X11_difference_55 : decode cX11_difference 55 = .ok (.iconst 1, 1) ∧ 56 = 55 + 1 := by decide +kernel
theorem d_X11_difference_56 : decode cX11_difference 56 = .ok (.if_icmp .ne 11, 3) ∧ 59 = 56 + 3 ∧ (56 : Int) + 11 = ((67 : Nat) : Int) := by decide +kernel
theorem d_X11_difference_59 : decode cX11_difference 59 = .ok (.aload_n 0, 1) ∧ 60 = 59 + 1 := by decide +kernel
theorem d_X11_difference_60 : decode cX11_difference 60 = .ok (.getfield 126, 3) ∧ 63 = 60 + 3 := by decide +kernel
theorem d_X11_difference_63 : decode cX11_difference 63 = .ok (.l2i, 1) ∧ 64 = 63 + 1 := by decide +kernel
theorem d_X11_difference_64 : decode cX11_difference 64 = .ok (.goto 7, 3) ∧ (64 : Int) + (7) = ((71 : Nat) : Int) := by decide +kernel
theorem d_X11_difference_67 : decode cX11_difference 67 = .ok (.aload_n 0, 1) ∧ 68 = 67 + 1 := by decide +kernel
theorem d_X11_difference_68 : decode cX11_difference 68 = .ok (.invokevirtual 139, 3) ∧ 71 = 68 + 3 := by decide +kernel
theorem d_X11_difference_71 : decode cX11_difference 71 = .ok (.ireturn, 1) := by decide +kernel
theorem d_X11_put_0 : decode cX11_put 0 = .ok (.bipush 24, 2) ∧ 2 = 0 + 2 := by decide +kernel
theorem d_X11_put_2 : decode cX11_put 2 = .ok (.istore_n 2, 1) ∧ 3 = 2 + 1 := by decide +kernel
theorem d_X11_put_3 : decode cX11_put 3 = .ok (.iload_n 2, 1) ∧ 4 = 3 + 1 := by decide +kernel
theorem d_X11_put_4 : decode cX11_put 4 = .ok (.ifCond .lt 34, 3) ∧ 7 = 4 + 3 ∧ (4 : Int) + 34 = ((38 : Nat) : Int) := by decide +kernel
theorem d_X11_put_7 : decode cX11_put 7 = .ok (.aload_n 0, 1) ∧ 8 = 7 + 1 := by decide +kernel
theorem d_X11_put_8 : decode cX11_put 8 = .ok (.getfield 16, 3) ∧ 11 = 8 + 3 := by decide +kernel
theorem d_X11_put_11 : decode cX11_put 11 = .ok (.aload_n 0, 1) ∧ 12 = 11 + 1 := by decide +kernel
theorem d_X11_put_12 : decode cX11_put 12 = .ok (.getfield 142, 3) ∧ 15 = 12 + 3 := by decide +kernel
theorem d_X11_put_15 : decode cX11_put 15 = .ok (.iload_n 1, 1) ∧ 16 = 15 + 1 := by decide +kernel
theorem d_X11_put_16 : decode cX11_put 16 = .ok (.iload_n 2, 1) ∧ 17 = 16 + 1 := by decide +kernel
theorem d_X11_put_17 : decode cX11_put 17 = .ok (.ishr, 1) ∧ 18 = 17 + 1 := by decide +kernel
theorem d_X11_put_18 : decode cX11_put 18 = .ok (.i2b, 1) ∧ 19 = 18 + 1 := by decide +kernel
theorem d_X11_put_19 : decode cX11_put 19 = .ok (.bastore, 1) ∧ 20 = 19 + 1 := by decide +kernel
theorem d_X11_put_20 : decode cX11_put 20 = .ok (.aload_n 0, 1) ∧ 21 = 20 + 1 := by decide +kernel
theorem d_X11_put_21 : decode cX11_put 21 = .ok (.dup, 1) ∧ 22 = 21 + 1 := by decide +kernel
theorem d_X11_put_22 : decode cX11_put 22 = .ok (.getfield 142, 3) ∧ 25 = 22 + 3 := by decide +kernel
theorem d_X11_put_25 : decode cX11_put 25 = .ok (.iconst 1, 1) ∧ 26 = 25 + 1 := by decide +kernel
theorem d_X11_put_26 : decode cX11_put 26 = .ok (.iadd, 1) ∧ 27 = 26 + 1 := by decide +kernel
theorem d_X11_put_27 : decode cX11_put 27 = .ok (.putfield 142, 3) ∧ 30 = 27 + 3 := by decide +kernel
theorem d_X11_put_30 : decode cX11_put 30 = .ok (.iload_n 2, 1) ∧ 31 = 30 + 1 := by decide +kernel
theorem d_X11_put_31 : decode cX11_put 31 = .ok (.bipush 8, 2) ∧ 33 = 31 + 2 := by decide +kernel
theorem d_X11_put_33 : decode cX11_put 33 = .ok (.isub, 1) ∧ 34 = 33 + 1 := by decide +kernel
theorem d_X11_put_34 : decode cX11_put 34 = .ok (.istore_n 2, 1) ∧ 35 = 34 + 1 := by decide +kernel
theorem d_X11_put_35 : decode cX11_put 35 = .ok (.goto (-32), 3) ∧ (35 : Int) + ((-32)) = ((3 : Nat) : Int) := by decide +kernel
theorem d_X11_put_38 : decode cX11_put 38 = .ok (.return_, 1) := by decide +kernel
theorem d_X11_feed_0 : decode cX11_feed 0 = .ok (.aload_n 0, 1) ∧ 1 = 0 + 1 := by decide +kernel
theorem d_X11_feed_1 : decode cX11_feed 1 = .ok (.getfield 142, 3) ∧ 4 = 1 + 3 := by decide +kernel
theorem d_X11_feed_4 : decode cX11_feed 4 = .ok (.bipush 20, 2) ∧ 6 = 4 + 2 := by decide +kernel
theorem d_X11_feed_6 : decode cX11_feed 6 = .ok (.iadd, 1) ∧ 7 = 6 + 1 := by decide +kernel
theorem d_X11_feed_7 : decode cX11_feed 7 = .ok (.sipush 300, 3) ∧ 10 = 7 + 3 := by decide +kernel
theorem d_X11_feed_10 : decode cX11_feed 10 = .ok (.if_icmp .le 5, 3) ∧ 13 = 10 + 3 ∧ (10 : Int) + 5 = ((15 : Nat) : Int) := by decide +kernel
theorem d_X11_feed_13 : decode cX11_feed 13 = .ok (.iconst (-1), 1) ∧ 14 = 13 + 1 := by decide +kernel
theorem d_X11_feed_14 : decode cX11_feed 14 = .ok (.ireturn, 1) := by decide +kernel
theorem d_X11_feed_15 : decode cX11_feed 15 = .ok (.aload_n 0, 1) ∧ 16 = 15 + 1 := by decide +kernel
theorem d_X11_feed_16 : decode cX11_feed 16 = .ok (.iload_n 1, 1) ∧ 17 = 16 + 1 := by decide +kernel
theorem d_X11_feed_17 : decode cX11_feed 17 = .ok (.invokevirtual 145, 3) ∧ 20 = 17 + 3 := by decide +kernel
theorem d_X11_feed_20 : decode cX11_feed 20 = .ok (.aload_n 0, 1) ∧ 21 = 20 + 1 := by decide +kernel
theorem d_X11_feed_21 : decode cX11_feed 21 = .ok (.iload_n 2, 1) ∧ 22 = 21 + 1 := by decide +kernel
theorem d_X11_feed_22 : decode cX11_feed 22 = .ok (.invokevirtual 145, 3) ∧ 25 = 22 + 3 := by decide +kernel
theorem d_X11_feed_25 : decode cX11_feed 25 = .ok (.aload_n 0, 1) ∧ 26 = 25 + 1 := by decide +kernel
theorem d_X11_feed_26 : decode cX11_feed 26 = .ok (.iload_n 3, 1) ∧ 27 = 26 + 1 := by decide +kernel
theorem d_X11_feed_27 : decode cX11_feed 27 = .ok (.invokevirtual 145, 3) ∧ 30 = 27 + 3 := by decide +kernel
theorem d_X11_feed_30 : decode cX11_feed 30 = .ok (.aload_n 0, 1) ∧ 31 = 30 + 1 := by decide +kernel
theorem d_X11_feed_31 : decode cX11_feed 31 = .ok (.iload 4, 2) ∧ 33 = 31 + 2 := by decide +kernel
theorem d_X11_feed_33 : decode cX11_feed 33 = .ok (.invokevirtual 145, 3) ∧ 36 = 33 + 3 := by decide +kernel
theorem d_X11_feed_36 : decode cX11_feed 36 = .ok (.aload_n 0, 1) ∧ 37 = 36 + 1 := by decide +kernel
theorem d_X11_feed_37 : decode cX11_feed 37 = .ok (.iload 5, 2) ∧ 39 = 37 + 2 := by decide +kernel
theorem d_X11_feed_39 : decode cX11_feed 39 = .ok (.invokevirtual 145, 3) ∧ 42 = 39 + 3 := by decide +kernel
theorem d_X11_feed_42 : decode cX11_feed 42 = .ok (.aload_n 0, 1) ∧ 43 = 42 + 1 := by decide +kernel
theorem d_X11_feed_43 : decode cX11_feed 43 = .ok (.getfield 142, 3) ∧ 46 = 43 + 3 := by decide +kernel
theorem d_X11_feed_46 : decode cX11_feed 46 = .ok (.ireturn, 1) := by decide +kernel
theorem d_X11_end_0 : decode cX11_end 0 = .ok (.iload_n 1, 1) ∧ 1 = 0 + 1 := by decide +kernel
theorem d_X11_end_1 : decode cX11_end 1 = .ok (.iconst 0, 1) ∧ 2 = 1 + 1 := by decide +kernel
theorem d_X11_end_2 : decode cX11_end 2 = .ok (.aload_n 0, 1) ∧ 3 = 2 + 1 := by decide +kernel
theorem d_X11_end_3 : decode cX11_end 3 = .ok (.getfield 142, 3) ∧ 6 = 3 + 3 := by decide +kernel
theorem d_X11_end_6 : decode cX11_end 6 = .ok (.invokestatic 101, 3) ∧ 9 = 6 + 3 := by decide +kernel
theorem d_X11_end_9 : decode cX11_end 9 = .ok (.ifCond .ne 5, 3) ∧ 12 = 9 + 3 ∧ (9 : Int) + 5 = ((14 : Nat) : Int) := by decide +kernel
theorem d_X11_end_12 : decode cX11_end 12 = .ok (.iconst (-1), 1) ∧ 13 = 12 + 1 := by decide +kernel
theorem d_X11_end_13 : decode cX11_end 13 = .ok (.ireturn, 1) := by decide +kernel
theorem d_X11_end_14 : decode cX11_end 14 = .ok (.aload_n 0, 1) ∧ 15 = 14 + 1 := by decide +kernel
theorem d_X11_end_15 : decode cX11_end 15 = .ok (.iload_n 1, 1) ∧ 16 = 15 + 1 := by decide +kernel
theorem d_X11_end_16 : decode cX11_end 16 = .ok (.putfield 142, 3) ∧ 19 = 16 + 3 := by decide +kernel
theorem d_X11_end_19 : decode cX11_end 19 = .ok (.iload_n 1, 1) ∧ 20 = 19 + 1 := by decide +kernel
theorem d_X11_end_20 : decode cX11_end 20 = .ok (.ireturn, 1) := by decide +kernel
theorem d_X11_isLetter_0 : decode cX11_isLetter 0 = .ok (.iload_n 0, 1) ∧ 1 = 0 + 1 := by decide +kernel
theorem d_X11_isLetter_1 : decode cX11_isLetter 1 = .ok (.bipush 97, 2) ∧ 3 = 1 + 2 := by decide +kernel
theorem d_X11_isLetter_3 : decode cX11_isLetter 3 = .ok (.bipush 122, 2) ∧ 5 = 3 + 2 := by decide +kernel
theorem d_X11_isLetter_5 : decode cX11_isLetter 5 = .ok (.invokestatic 101, 3) ∧ 8 = 5 + 3 := by decide +kernel
theorem d_X11_isLetter_8 : decode cX11_isLetter 8 = .ok (.ifCond .ne 14, 3) ∧ 11 = 8 + 3 ∧ (8 : Int) + 14 = ((22 : Nat) : Int) := by decide +kernel
theorem d_X11_isLetter_11 : decode cX11_isLetter 11 = .ok (.iload_n 0, 1) ∧ 12 = 11 + 1 := by decide +kernel
theorem d_X11_isLetter_12 : decode cX11_isLetter 12 = .ok (.bipush 65, 2) ∧ 14 = 12 + 2 := by decide +kernel
theorem d_X11_isLetter_14 : decode cX11_isLetter 14 = .ok (.bipush 90, 2) ∧ 16 = 14 + 2 := by decide +kernel
theorem d_X11_isLetter_16 : decode cX11_isLetter 16 = .ok (.invokestatic 101, 3) ∧ 19 = 16 + 3 := by decide +kernel
theorem d_X11_isLetter_19 : decode cX11_isLetter 19 = .ok (.ifCond .eq 7, 3) ∧ 22 = 19 + 3 ∧ (19 : Int) + 7 = ((26 : Nat) : Int) := by decide +kernel
theorem d_X11_isLetter_22 : decode cX11_isLetter 22 = .ok (.iconst 1, 1) ∧ 23 = 22 + 1 := by decide +kernel
theorem d_X11_isLetter_23 : decode cX11_isLetter 23 = .ok (.goto 4, 3) ∧ (23 : Int) + (4) = ((27 : Nat) : Int) := by decide +kernel
theorem d_X11_isLetter_26 : decode cX11_isLetter 26 = .ok (.iconst 0, 1) ∧ 27 = 26 + 1 := by decide +kernel
theorem d_X11_isLetter_27 : decode cX11_isLetter 27 = .ok (.ireturn, 1) := by decide +kernel
theorem d_X11_wordOf_0 : decode cX11_wordOf 0 = .ok (.lload_n 0, 1) ∧ 1 = 0 + 1 := by decide +kernel
theorem d_X11_wordOf_1 : decode cX11_wordOf 1 = .ok (.ldc2_w 149, 3) ∧ 4 = 1 + 3 := by decide +kernel
theorem d_X11_wordOf_4 : decode cX11_wordOf 4 = .ok (.lcmp, 1) ∧ 5 = 4 + 1 := by decide +kernel
theorem d_X11_wordOf_5 : decode cX11_wordOf 5 = .ok (.ifCond .ne 5, 3) ∧ 8 = 5 + 3 ∧ (5 : Int) + 5 = ((10 : Nat) : Int) := by decide +kernel
theorem d_X11_wordOf_8 : decode cX11_wordOf 8 = .ok (.iconst 0, 1) ∧ 9 = 8 + 1 := by decide +kernel
theorem d_X11_wordOf_9 : decode cX11_wordOf 9 = .ok (.ireturn, 1) := by decide +kernel
theorem d_X11_wordOf_10 : decode cX11_wordOf 10 = .ok (.lload_n 0, 1) ∧ 11 = 10 + 1 := by decide +kernel
theorem d_X11_wordOf_11 : decode cX11_wordOf 11 = .ok (.ldc2_w 151, 3) ∧ 14 = 11 + 3 := by decide +kernel
theorem d_X11_wordOf_14 : decode cX11_wordOf 14 = .ok (.lcmp, 1) ∧ 15 = 14 + 1 := by decide +kernel
theorem d_X11_wordOf_15 : decode cX11_wordOf 15 = .ok (.ifCond .ne 5, 3) ∧ 18 = 15 + 3 ∧ (15 : Int) + 5 = ((20 : Nat) : Int) := by decide +kernel
theorem d_X11_wordOf_18 : decode cX11_wordOf 18 = .ok (.iconst 1, 1) ∧ 19 = 18 + 1 := by decide +kernel
theorem d_X11_wordOf_19 : decode cX11_wordOf 19 = .ok (.ireturn, 1) := by decide +kernel
theorem d_X11_wordOf_20 : decode cX11_wordOf 20 = .ok (.lload_n 0, 1) ∧ 21 = 20 + 1 := by decide +kernel
theorem d_X11_wordOf_21 : decode cX11_wordOf 21 = .ok (.ldc2_w 153, 3) ∧ 24 = 21 + 3 := by decide +kernel
theorem d_X11_wordOf_24 : decode cX11_wordOf 24 = .ok (.lcmp, 1) ∧ 25 = 24 + 1 := by decide +kernel
theorem d_X11_wordOf_25 : decode cX11_wordOf 25 = .ok (.ifCond .ne 5, 3) ∧ 28 = 25 + 3 ∧ (25 : Int) + 5 = ((30 : Nat) : Int) := by decide +kernel
theorem d_X11_wordOf_28 : decode cX11_wordOf 28 = .ok (.iconst 2, 1) ∧ 29 = 28 + 1 := by decide +kernel
theorem d_X11_wordOf_29 : decode cX11_wordOf 29 = .ok (.ireturn, 1) := by decide +kernel
theorem d_X11_wordOf_30 : decode cX11_wordOf 30 = .ok (.lload_n 0, 1) ∧ 31 = 30 + 1 := by decide +kernel
theorem d_X11_wordOf_31 : decode cX11_wordOf 31 = .ok (.ldc2_w 155, 3) ∧ 34 = 31 + 3 := by decide +kernel
theorem d_X11_wordOf_34 : decode cX11_wordOf 34 = .ok (.lcmp, 1) ∧ 35 = 34 + 1 := by decide +kernel
theorem d_X11_wordOf_35 : decode cX11_wordOf 35 = .ok (.ifCond .ne 5, 3) ∧ 38 = 35 + 3 ∧ (35 : Int) + 5 = ((40 : Nat) : Int) := by decide +kernel
theorem d_X11_wordOf_38 : decode cX11_wordOf 38 = .ok (.iconst 3, 1) ∧ 39 = 38 + 1 := by decide +kernel
theorem d_X11_wordOf_39 : decode cX11_wordOf 39 = .ok (.ireturn, 1) := by decide +kernel
theorem d_X11_wordOf_40 : decode cX11_wordOf 40 = .ok (.lload_n 0, 1) ∧ 41 = 40 + 1 := by decide +kernel
theorem d_X11_wordOf_41 : decode cX11_wordOf 41 = .ok (.ldc2_w 157, 3) ∧ 44 = 41 + 3 := by decide +kernel
theorem d_X11_wordOf_44 : decode cX11_wordOf 44 = .ok (.lcmp, 1) ∧ 45 = 44 + 1 := by decide +kernel
theorem d_X11_wordOf_45 : decode cX11_wordOf 45 = .ok (.ifCond .ne 5, 3) ∧ 48 = 45 + 3 ∧ (45 : Int) + 5 = ((50 : Nat) : Int) := by decide +kernel
theorem d_X11_wordOf_48 : decode cX11_wordOf 48 = .ok (.iconst 4, 1) ∧ 49 = 48 + 1 := by decide +kernel
theorem d_X11_wordOf_49 : decode cX11_wordOf 49 = .ok (.ireturn, 1) := by decide +kernel
theorem d_X11_wordOf_50 : decode cX11_wordOf 50 = .ok (.lload_n 0, 1) ∧ 51 = 50 + 1 := by decide +kernel
theorem d_X11_wordOf_51 : decode cX11_wordOf 51 = .ok (.ldc2_w 159, 3) ∧ 54 = 51 + 3 := by decide +kernel
theorem d_X11_wordOf_54 : decode cX11_wordOf 54 = .ok (.lcmp, 1) ∧ 55 = 54 + 1 := by decide +kernel
theorem d_X11_wordOf_55 : decode cX11_wordOf 55 = .ok (.ifCond .ne 5, 3) ∧ 58 = 55 + 3 ∧ (55 : Int) + 5 = ((60 : Nat) : Int) := by decide +kernel
theorem d_X11_wordOf_58 : decode cX11_wordOf 58 = .ok (.iconst 5, 1) ∧ 59 = 58 + 1 := by decide +kernel
theorem d_X11_wordOf_59 : decode cX11_wordOf 59 = .ok (.ireturn, 1) := by decide +kernel
theorem d_X11_wordOf_60 : decode cX11_wordOf 60 = .ok (.lload_n 0, 1) ∧ 61 = 60 + 1 := by decide +kernel
theorem d_X11_wordOf_61 : decode cX11_wordOf 61 = .ok (.ldc2_w 161, 3) ∧ 64 = 61 + 3 := by decide +kernel
theorem d_X11_wordOf_64 : decode cX11_wordOf 64 = .ok (.lcmp, 1) ∧ 65 = 64 + 1 := by decide +kernel
theorem d_X11_wordOf_65 : decode cX11_wordOf 65 = .ok (.ifCond .ne 6, 3) ∧ 68 = 65 + 3 ∧ (65 : Int) + 6 = ((71 : Nat) : Int) := by decide +kernel
theorem d_X11_wordOf_68 : decode cX11_wordOf 68 = .ok (.bipush 6, 2) ∧ 70 = 68 + 2 := by decide +kernel
theorem d_X11_wordOf_70 : decode cX11_wordOf 70 = .ok (.ireturn, 1) := by decide +kernel
theorem d_X11_wordOf_71 : decode cX11_wordOf 71 = .ok (.lload_n 0, 1) ∧ 72 = 71 + 1 := by decide +kernel
theorem d_X11_wordOf_72 : decode cX11_wordOf 72 = .ok (.ldc2_w 163, 3) ∧ 75 = 72 + 3 := by decide +kernel
theorem d_X11_wordOf_75 : decode cX11_wordOf 75 = .ok (.lcmp, 1) ∧ 76 = 75 + 1 := by decide +kernel
theorem d_X11_wordOf_76 : decode cX11_wordOf 76 = .ok (.ifCond .ne 6, 3) ∧ 79 = 76 + 3 ∧ (76 : Int) + 6 = ((82 : Nat) : Int) := by decide +kernel
theorem d_X11_wordOf_79 : decode cX11_wordOf 79 = .ok (.bipush 7, 2) ∧ 81 = 79 + 2 := by decide +kernel
theorem d_X11_wordOf_81 : decode cX11_wordOf 81 = .ok (.ireturn, 1) := by decide +kernel
theorem d_X11_wordOf_82 : decode cX11_wordOf 82 = .ok (.lload_n 0, 1) ∧ 83 = 82 + 1 := by decide +kernel
theorem d_X11_wordOf_83 : decode cX11_wordOf 83 = .ok (.ldc2_w 165, 3) ∧ 86 = 83 + 3 := by decide +kernel
theorem d_X11_wordOf_86 : decode cX11_wordOf 86 = .ok (.lcmp, 1) ∧ 87 = 86 + 1 := by decide +kernel
theorem d_X11_wordOf_87 : decode cX11_wordOf 87 = .ok (.ifCond .ne 6, 3) ∧ 90 = 87 + 3 ∧ (87 : Int) + 6 = ((93 : Nat) : Int) := by decide +kernel
theorem d_X11_wordOf_90 : decode cX11_wordOf 90 = .ok (.bipush 8, 2) ∧ 92 = 90 + 2 := by decide +kernel
theorem d_X11_wordOf_92 : decode cX11_wordOf 92 = .ok (.ireturn, 1) := by decide +kernel
theorem d_X11_wordOf_93 : decode cX11_wordOf 93 = .ok (.lload_n 0, 1) ∧ 94 = 93 + 1 := by decide +kernel
theorem d_X11_wordOf_94 : decode cX11_wordOf 94 = .ok (.ldc2_w 167, 3) ∧ 97 = 94 + 3 := by decide +kernel
theorem d_X11_wordOf_97 : decode cX11_wordOf 97 = .ok (.lcmp, 1) ∧ 98 = 97 + 1 := by decide +kernel
theorem d_X11_wordOf_98 : decode cX11_wordOf 98 = .ok (.ifCond .ne 6, 3) ∧ 101 = 98 + 3 ∧ (98 : Int) + 6 = ((104 : Nat) : Int) := by decide +kernel
theorem d_X11_wordOf_101 : decode cX11_wordOf 101 = .ok (.bipush 9, 2) ∧ 103 = 101 + 2 := by decide +kernel
theorem d_X11_wordOf_103 : decode cX11_wordOf 103 = .ok (.ireturn, 1) := by decide +kernel
theorem d_X11_wordOf_104 : decode cX11_wordOf 104 = .ok (.lload_n 0, 1) ∧ 105 = 104 + 1 := by decide +kernel
theorem d_X11_wordOf_105 : decode cX11_wordOf 105 = .ok (.ldc2_w 169, 3) ∧ 108 = 105 + 3 := by decide +kernel
theorem d_X11_wordOf_108 : decode cX11_wordOf 108 = .ok (.lcmp, 1) ∧ 109 = 108 + 1 := by decide +kernel
theorem d_X11_wordOf_109 : decode cX11_wordOf 109 = .ok (.ifCond .ne 6, 3) ∧ 112 = 109 + 3 ∧ (109 : Int) + 6 = ((115 : Nat) : Int) := by decide +kernel
theorem d_X11_wordOf_112 : decode cX11_wordOf 112 = .ok (.bipush 10, 2) ∧ 114 = 112 + 2 := by decide +kernel
theorem d_X11_wordOf_114 : decode cX11_wordOf 114 = .ok (.ireturn, 1) := by decide +kernel
theorem d_X11_wordOf_115 : decode cX11_wordOf 115 = .ok (.lload_n 0, 1) ∧ 116 = 115 + 1 := by decide +kernel
theorem d_X11_wordOf_116 : decode cX11_wordOf 116 = .ok (.ldc2_w 171, 3) ∧ 119 = 116 + 3 := by decide +kernel
theorem d_X11_wordOf_119 : decode cX11_wordOf 119 = .ok (.lcmp, 1) ∧ 120 = 119 + 1 := by decide +kernel
theorem d_X11_wordOf_120 : decode cX11_wordOf 120 = .ok (.ifCond .ne 6, 3) ∧ 123 = 120 + 3 ∧ (120 : Int) + 6 = ((126 : Nat) : Int) := by decide +kernel
theorem d_X11_wordOf_123 : decode cX11_wordOf 123 = .ok (.bipush 11, 2) ∧ 125 = 123 + 2 := by decide +kernel
theorem d_X11_wordOf_125 : decode cX11_wordOf 125 = .ok (.ireturn, 1) := by decide +kernel
theorem d_X11_wordOf_126 : decode cX11_wordOf 126 = .ok (.lload_n 0, 1) ∧ 127 = 126 + 1 := by decide +kernel
theorem d_X11_wordOf_127 : decode cX11_wordOf 127 = .ok (.ldc2_w 173, 3) ∧ 130 = 127 + 3 := by decide +kernel
theorem d_X11_wordOf_130 : decode cX11_wordOf 130 = .ok (.lcmp, 1) ∧ 131 = 130 + 1 := by decide +kernel
theorem d_X11_wordOf_131 : decode cX11_wordOf 131 = .ok (.ifCond .ne 6, 3) ∧ 134 = 131 + 3 ∧ (131 : Int) + 6 = ((137 : Nat) : Int) := by decide +kernel
theorem d_X11_wordOf_134 : decode cX11_wordOf 134 = .ok (.bipush 12, 2) ∧ 136 = 134 + 2 := by decide +kernel
theorem d_X11_wordOf_136 : decode cX11_wordOf 136 = .ok (.ireturn, 1) := by decide +kernel
theorem d_X11_wordOf_137 : decode cX11_wordOf 137 = .ok (.lload_n 0, 1) ∧ 138 = 137 + 1 := by decide +kernel
theorem d_X11_wordOf_138 : decode cX11_wordOf 138 = .ok (.ldc2_w 175, 3) ∧ 141 = 138 + 3 := by decide +kernel
theorem d_X11_wordOf_141 : decode cX11_wordOf 141 = .ok (.lcmp, 1) ∧ 142 = 141 + 1 := by decide +kernel
theorem d_X11_wordOf_142 : decode cX11_wordOf 142 = .ok (.ifCond .ne 6, 3) ∧ 145 = 142 + 3 ∧ (142 : Int) + 6 = ((148 : Nat) : Int) := by decide +kernel
theorem d_X11_wordOf_145 : decode cX11_wordOf 145 = .ok (.bipush 13, 2) ∧ 147 = 145 + 2 := by decide +kernel
theorem d_X11_wordOf_147 : decode cX11_wordOf 147 = .ok (.ireturn, 1) := by decide +kernel
theorem d_X11_wordOf_148 : decode cX11_wordOf 148 = .ok (.lload_n 0, 1) ∧ 149 = 148 + 1 := by decide +kernel
theorem d_X11_wordOf_149 : decode cX11_wordOf 149 = .ok (.ldc2_w 177, 3) ∧ 152 = 149 + 3 := by decide +kernel
theorem d_X11_wordOf_152 : decode cX11_wordOf 152 = .ok (.lcmp, 1) ∧ 153 = 152 + 1 := by decide +kernel
theorem d_X11_wordOf_153 : decode cX11_wordOf 153 = .ok (.ifCond .ne 6, 3) ∧ 156 = 153 + 3 ∧ (153 : Int) + 6 = ((159 : Nat) : Int) := by decide +kernel
theorem d_X11_wordOf_156 : decode cX11_wordOf 156 = .ok (.bipush 14, 2) ∧ 158 = 156 + 2 := by decide +kernel
theorem d_X11_wordOf_158 : decode cX11_wordOf 158 = .ok (.ireturn, 1) := by decide +kernel
theorem d_X11_wordOf_159 : decode cX11_wordOf 159 = .ok (.lload_n 0, 1) ∧ 160 = 159 + 1 := by decide +kernel
theorem d_X11_wordOf_160 : decode cX11_wordOf 160 = .ok (.ldc2_w 179, 3) ∧ 163 = 160 + 3 := by decide +kernel
theorem d_X11_wordOf_163 : decode cX11_wordOf 163 = .ok (.lcmp, 1) ∧ 164 = 163 + 1 := by decide +kernel
theorem d_X11_wordOf_164 : decode cX11_wordOf 164 = .ok (.ifCond .ne 6, 3) ∧ 167 = 164 + 3 ∧ (164 : Int) + 6 = ((170 : Nat) : Int) := by decide +kernel
theorem d_X11_wordOf_167 : decode cX11_wordOf 167 = .ok (.bipush 15, 2) ∧ 169 = 167 + 2 := by decide +kernel
theorem d_X11_wordOf_169 : decode cX11_wordOf 169 = .ok (.ireturn, 1) := by decide +kernel
theorem d_X11_wordOf_170 : decode cX11_wordOf 170 = .ok (.lload_n 0, 1) ∧ 171 = 170 + 1 := by decide +kernel
theorem d_X11_wordOf_171 : decode cX11_wordOf 171 = .ok (.ldc2_w 181, 3) ∧ 174 = 171 + 3 := by decide +kernel
theorem d_X11_wordOf_174 : decode cX11_wordOf 174 = .ok (.lcmp, 1) ∧ 175 = 174 + 1 := by decide +kernel
theorem d_X11_wordOf_175 : decode cX11_wordOf 175 = .ok (.ifCond .ne 6, 3) ∧ 178 = 175 + 3 ∧ (175 : Int) + 6 = ((181 : Nat) : Int) := by decide +kernel
theorem d_X11_wordOf_178 : decode cX11_wordOf 178 = .ok (.bipush 16, 2) ∧ 180 = 178 + 2 := by decide +kernel
theorem d_X11_wordOf_180 : decode cX11_wordOf 180 = .ok (.ireturn, 1) := by decide +kernel
theorem d_X11_wordOf_181 : decode cX11_wordOf 181 = .ok (.lload_n 0, 1) ∧ 182 = 181 + 1 := by decide +kernel
theorem d_X11_wordOf_182 : decode cX11_wordOf 182 = .ok (.ldc2_w 183, 3) ∧ 185 = 182 + 3 := by decide +kernel
theorem d_X11_wordOf_185 : decode cX11_wordOf 185 = .ok (.lcmp, 1) ∧ 186 = 185 + 1 := by decide +kernel
theorem d_X11_wordOf_186 : decode cX11_wordOf 186 = .ok (.ifCond .ne 6, 3) ∧ 189 = 186 + 3 ∧ (186 : Int) + 6 = ((192 : Nat) : Int) := by decide +kernel
theorem d_X11_wordOf_189 : decode cX11_wordOf 189 = .ok (.bipush 17, 2) ∧ 191 = 189 + 2 := by decide +kernel
theorem d_X11_wordOf_191 : decode cX11_wordOf 191 = .ok (.ireturn, 1) := by decide +kernel
theorem d_X11_wordOf_192 : decode cX11_wordOf 192 = .ok (.lload_n 0, 1) ∧ 193 = 192 + 1 := by decide +kernel
theorem d_X11_wordOf_193 : decode cX11_wordOf 193 = .ok (.ldc2_w 185, 3) ∧ 196 = 193 + 3 := by decide +kernel
theorem d_X11_wordOf_196 : decode cX11_wordOf 196 = .ok (.lcmp, 1) ∧ 197 = 196 + 1 := by decide +kernel
theorem d_X11_wordOf_197 : decode cX11_wordOf 197 = .ok (.ifCond .ne 6, 3) ∧ 200 = 197 + 3 ∧ (197 : Int) + 6 = ((203 : Nat) : Int) := by decide +kernel
theorem d_X11_wordOf_200 : decode cX11_wordOf 200 = .ok (.bipush 18, 2) ∧ 202 = 200 + 2 := by decide +kernel
theorem d_X11_wordOf_202 : decode cX11_wordOf 202 = .ok (.ireturn, 1) := by decide +kernel
theorem d_X11_wordOf_203 : decode cX11_wordOf 203 = .ok (.lload_n 0, 1) ∧ 204 = 203 + 1 := by decide +kernel
theorem d_X11_wordOf_204 : decode cX11_wordOf 204 = .ok (.ldc2_w 187, 3) ∧ 207 = 204 + 3 := by decide +kernel
theorem d_X11_wordOf_207 : decode cX11_wordOf 207 = .ok (.lcmp, 1) ∧ 208 = 207 + 1 := by decide +kernel
theorem d_X11_wordOf_208 : decode cX11_wordOf 208 = .ok (.ifCond .ne 6, 3) ∧ 211 = 208 + 3 ∧ (208 : Int) + 6 = ((214 : Nat) : Int) := by decide +kernel
theorem d_X11_wordOf_211 : decode cX11_wordOf 211 = .ok (.bipush 19, 2) ∧ 213 = 211 + 2 := by decide +kernel
theorem d_X11_wordOf_213 : decode cX11_wordOf 213 = .ok (.ireturn, 1) := by decide +kernel
theorem d_X11_wordOf_214 : decode cX11_wordOf 214 = .ok (.lload_n 0, 1) ∧ 215 = 214 + 1 := by decide +kernel
theorem d_X11_wordOf_215 : decode cX11_wordOf 215 = .ok (.ldc2_w 189, 3) ∧ 218 = 215 + 3 := by decide +kernel
theorem d_X11_wordOf_218 : decode cX11_wordOf 218 = .ok (.lcmp, 1) ∧ 219 = 218 + 1 := by decide +kernel
theorem d_X11_wordOf_219 : decode cX11_wordOf 219 = .ok (.ifCond .ne 6, 3) ∧ 222 = 219 + 3 ∧ (219 : Int) + 6 = ((225 : Nat) : Int) := by decide +kernel
theorem d_X11_wordOf_222 : decode cX11_wordOf 222 = .ok (.bipush 20, 2) ∧ 224 = 222 + 2 := by decide +kernel
theorem d_X11_wordOf_224 : decode cX11_wordOf 224 = .ok (.ireturn, 1) := by decide +kernel
theorem d_X11_wordOf_225 : decode cX11_wordOf 225 = .ok (.iconst (-1), 1) ∧ 226 = 225 + 1 := by decide +kernel
theorem d_X11_wordOf_226 : decode cX11_wordOf 226 = .ok (.ireturn, 1) := by decide +kernel
theorem d_X11_next_0 : decode cX11_next 0 = .ok (.aload_n 0, 1) ∧ 1 = 0 + 1 := by decide +kernel
theorem d_X11_next_1 : decode cX11_next 1 = .ok (.getfield 191, 3) ∧ 4 = 1 + 3 := by decide +kernel
theorem d_X11_next_4 : decode cX11_next 4 = .ok (.aload_n 0, 1) ∧ 5 = 4 + 1 := by decide +kernel
theorem d_X11_next_5 : decode cX11_next 5 = .ok (.getfield 194, 3) ∧ 8 = 5 + 3 := by decide +kernel
theorem d_X11_next_8 : decode cX11_next 8 = .ok (.if_icmp .ge 44, 3) ∧ 11 = 8 + 3 ∧ (8 : Int) + 44 = ((52 : Nat) : Int) := by decide +kernel
theorem d_X11_next_11 : decode cX11_next 11 = .ok (.aload_n 0, 1) ∧ 12 = 11 + 1 := by decide +kernel
theorem d_X11_next_12 : decode cX11_next 12 = .ok (.getfield 16, 3) ∧ 15 = 12 + 3 := by decide +kernel
theorem d_X11_next_15 : decode cX11_next 15 = .ok (.aload_n 0, 1) ∧ 16 = 15 + 1 := by decide +kernel
theorem d_X11_next_16 : decode cX11_next 16 = .ok (.getfield 191, 3) ∧ 19 = 16 + 3 := by decide +kernel
theorem d_X11_next_19 : decode cX11_next 19 = .ok (.baload, 1) ∧ 20 = 19 + 1 := by decide +kernel
theorem d_X11_next_20 : decode cX11_next 20 = .ok (.bipush 32, 2) ∧ 22 = 20 + 2 := by decide +kernel
theorem d_X11_next_22 : decode cX11_next 22 = .ok (.if_icmp .eq 17, 3) ∧ 25 = 22 + 3 ∧ (22 : Int) + 17 = ((39 : Nat) : Int) := by decide +kernel
theorem d_X11_next_25 : decode cX11_next 25 = .ok (.aload_n 0, 1) ∧ 26 = 25 + 1 := by decide +kernel
theorem d_X11_next_26 : decode cX11_next 26 = .ok (.getfield 16, 3) ∧ 29 = 26 + 3 := by decide +kernel
theorem d_X11_next_29 : decode cX11_next 29 = .ok (.aload_n 0, 1) ∧ 30 = 29 + 1 := by decide +kernel
theorem d_X11_next_30 : decode cX11_next 30 = .ok (.getfield 191, 3) ∧ 33 = 30 + 3 := by decide +kernel
theorem d_X11_next_33 : decode cX11_next 33 = .ok (.baload, 1) ∧ 34 = 33 + 1 := by decide +kernel
theorem d_X11_next_34 : decode cX11_next 34 = .ok (.bipush 10, 2) ∧ 36 = 34 + 2 := by decide +kernel
theorem d_X11_next_36 : decode cX11_next 36 = .ok (.if_icmp .ne 16, 3) ∧ 39 = 36 + 3 ∧ (36 : Int) + 16 = ((52 : Nat) : Int) := by decide +kernel
theorem d_X11_next_39 : decode cX11_next 39 = .ok (.aload_n 0, 1) ∧ 40 = 39 + 1 := by decide +kernel
theorem d_X11_next_40 : decode cX11_next 40 = .ok (.dup, 1) ∧ 41 = 40 + 1 := by decide +kernel
theorem d_X11_next_41 : decode cX11_next 41 = .ok (.getfield 191, 3) ∧ 44 = 41 + 3 := by decide +kernel
theorem d_X11_next_44 : decode cX11_next 44 = .ok (.iconst 1, 1) ∧ 45 = 44 + 1 := by decide +kernel
theorem d_X11_next_45 : decode cX11_next 45 = .ok (.iadd, 1) ∧ 46 = 45 + 1 := by decide +kernel
theorem d_X11_next_46 : decode cX11_next 46 = .ok (.putfield 191, 3) ∧ 49 = 46 + 3 := by decide +kernel
theorem d_X11_next_49 : decode cX11_next 49 = .ok (.goto (-49), 3) ∧ (49 : Int) + ((-49)) = ((0 : Nat) : Int) := by decide +kernel
theorem d_X11_next_52 : decode cX11_next 52 = .ok (.aload_n 0, 1) ∧ 53 = 52 + 1 := by decide +kernel
theorem d_X11_next_53 : decode cX11_next 53 = .ok (.aload_n 0, 1) ∧ 54 = 53 + 1 := by decide +kernel
theorem d_X11_next_54 : decode cX11_next 54 = .ok (.getfield 191, 3) ∧ 57 = 54 + 3 := by decide +kernel
theorem d_X11_next_57 : decode cX11_next 57 = .ok (.putfield 197, 3) ∧ 60 = 57 + 3 := by decide +kernel
theorem d_X11_next_60 : decode cX11_next 60 = .ok (.aload_n 0, 1) ∧ 61 = 60 + 1 := by decide +kernel
theorem d_X11_next_61 : decode cX11_next 61 = .ok (.getfield 191, 3) ∧ 64 = 61 + 3 := by decide +kernel
theorem d_X11_next_64 : decode cX11_next 64 = .ok (.aload_n 0, 1) ∧ 65 = 64 + 1 := by decide +kernel
theorem d_X11_next_65 : decode cX11_next 65 = .ok (.getfield 194, 3) ∧ 68 = 65 + 3 := by decide +kernel
theorem d_X11_next_68 : decode cX11_next 68 = .ok (.if_icmp .ne 9, 3) ∧ 71 = 68 + 3 ∧ (68 : Int) + 9 = ((77 : Nat) : Int) := by decide +kernel
theorem d_X11_next_71 : decode cX11_next 71 = .ok (.aload_n 0, 1) ∧ 72 = 71 + 1 := by decide +kernel
theorem d_X11_next_72 : decode cX11_next 72 = .ok (.iconst 0, 1) ∧ 73 = 72 + 1 := by decide +kernel
theorem d_X11_next_73 : decode cX11_next 73 = .ok (.putfield 200, 3) ∧ 76 = 73 + 3 := by decide +kernel
theorem d_X11_next_76 : decode cX11_next 76 = .ok (.return_, 1) := by decide +kernel
theorem d_X11_next_77 : decode cX11_next 77 = .ok (.aload_n 0, 1) ∧ 78 = 77 + 1 := by decide +kernel
theorem d_X11_next_78 : decode cX11_next 78 = .ok (.getfield 16, 3) ∧ 81 = 78 + 3 := by decide +kernel
theorem d_X11_next_81 : decode cX11_next 81 = .ok (.aload_n 0, 1) ∧ 82 = 81 + 1 := by decide +kernel
theorem d_X11_next_82 : decode cX11_next 82 = .ok (.getfield 191, 3) ∧ 85 = 82 + 3 := by decide +kernel
theorem d_X11_next_85 : decode cX11_next 85 = .ok (.baload, 1) ∧ 86 = 85 + 1 := by decide +kernel
theorem d_X11_next_86 : decode cX11_next 86 = .ok (.istore_n 1, 1) ∧ 87 = 86 + 1 := by decide +kernel
theorem d_X11_next_87 : decode cX11_next 87 = .ok (.iload_n 1, 1) ∧ 88 = 87 + 1 := by decide +kernel
theorem d_X11_next_88 : decode cX11_next 88 = .ok (.invokestatic 203, 3) ∧ 91 = 88 + 3 := by decide +kernel
theorem d_X11_next_91 : decode cX11_next 91 = .ok (.ifCond .eq 120, 3) ∧ 94 = 91 + 3 ∧ (91 : Int) + 120 = ((211 : Nat) : Int) := by decide +kernel
theorem d_X11_next_94 : decode cX11_next 94 = .ok (.lconst 0, 1) ∧ 95 = 94 + 1 := by decide +kernel
theorem d_X11_next_95 : decode cX11_next 95 = .ok (.lstore_n 2, 1) ∧ 96 = 95 + 1 := by decide +kernel
theorem d_X11_next_96 : decode cX11_next 96 = .ok (.iconst 0, 1) ∧ 97 = 96 + 1 := by decide +kernel
theorem d_X11_next_97 : decode cX11_next 97 = .ok (.istore 4, 2) ∧ 99 = 97 + 2 := by decide +kernel
theorem d_X11_next_99 : decode cX11_next 99 = .ok (.aload_n 0, 1) ∧ 100 = 99 + 1 := by decide +kernel
theorem d_X11_next_100 : decode cX11_next 100 = .ok (.getfield 191, 3) ∧ 103 = 100 + 3 := by decide +kernel
theorem d_X11_next_103 : decode cX11_next 103 = .ok (.aload_n 0, 1) ∧ 104 = 103 + 1 := by decide +kernel
theorem d_X11_next_104 : decode cX11_next 104 = .ok (.getfield 194, 3) ∧ 107 = 104 + 3 := by decide +kernel
theorem d_X11_next_107 : decode cX11_next 107 = .ok (.if_icmp .ge 66, 3) ∧ 110 = 107 + 3 ∧ (107 : Int) + 66 = ((173 : Nat) : Int) := by decide +kernel
theorem d_X11_next_110 : decode cX11_next 110 = .ok (.aload_n 0, 1) ∧ 111 = 110 + 1 := by decide +kernel
theorem d_X11_next_111 : decode cX11_next 111 = .ok (.getfield 16, 3) ∧ 114 = 111 + 3 := by decide +kernel
theorem d_X11_next_114 : decode cX11_next 114 = .ok (.aload_n 0, 1) ∧ 115 = 114 + 1 := by decide +kernel
theorem d_X11_next_115 : decode cX11_next 115 = .ok (.getfield 191, 3) ∧ 118 = 115 + 3 := by decide +kernel
theorem d_X11_next_118 : decode cX11_next 118 = .ok (.baload, 1) ∧ 119 = 118 + 1 := by decide +kernel
theorem d_X11_next_119 : decode cX11_next 119 = .ok (.invokestatic 203, 3) ∧ 122 = 119 + 3 := by decide +kernel
theorem d_X11_next_122 : decode cX11_next 122 = .ok (.ifCond .eq 51, 3) ∧ 125 = 122 + 3 ∧ (122 : Int) + 51 = ((173 : Nat) : Int) := by decide +kernel
theorem d_X11_next_125 : decode cX11_next 125 = .ok (.iload 4, 2) ∧ 127 = 125 + 2 := by decide +kernel
theorem d_X11_next_127 : decode cX11_next 127 = .ok (.bipush 9, 2) ∧ 129 = 127 + 2 := by decide +kernel
theorem d_X11_next_129 : decode cX11_next 129 = .ok (.if_icmp .ge 26, 3) ∧ 132 = 129 + 3 ∧ (129 : Int) + 26 = ((155 : Nat) : Int) := by decide +kernel
theorem d_X11_next_132 : decode cX11_next 132 = .ok (.ldc2_w 206, 3) ∧ 135 = 132 + 3 := by decide +kernel
theorem d_X11_next_135 : decode cX11_next 135 = .ok (.lload_n 2, 1) ∧ 136 = 135 + 1 := by decide +kernel
theorem d_X11_next_136 : decode cX11_next 136 = .ok (.lmul, 1) ∧ 137 = 136 + 1 := by decide +kernel
theorem d_X11_next_137 : decode cX11_next 137 = .ok (.aload_n 0, 1) ∧ 138 = 137 + 1 := by decide +kernel
theorem d_X11_next_138 : decode cX11_next 138 = .ok (.getfield 16, 3) ∧ 141 = 138 + 3 := by decide +kernel
theorem d_X11_next_141 : decode cX11_next 141 = .ok (.aload_n 0, 1) ∧ 142 = 141 + 1 := by decide +kernel
theorem d_X11_next_142 : decode cX11_next 142 = .ok (.getfield 191, 3) ∧ 145 = 142 + 3 := by decide +kernel
theorem d_X11_next_145 : decode cX11_next 145 = .ok (.baload, 1) ∧ 146 = 145 + 1 := by decide +kernel
theorem d_X11_next_146 : decode cX11_next 146 = .ok (.i2l, 1) ∧ 147 = 146 + 1 := by decide +kernel
theorem d_X11_next_147 : decode cX11_next 147 = .ok (.ladd, 1) ∧ 148 = 147 + 1 := by decide +kernel
theorem d_X11_next_148 : decode cX11_next 148 = .ok (.ldc2_w 206, 3) ∧ 151 = 148 + 3 := by decide +kernel
theorem d_X11_next_151 : decode cX11_next 151 = .ok (.lsub, 1) ∧ 152 = 151 + 1 := by decide +kernel
theorem d_X11_next_152 : decode cX11_next 152 = .ok (.goto 4, 3) ∧ (152 : Int) + (4) = ((156 : Nat) : Int) := by decide +kernel
theorem d_X11_next_155 : decode cX11_next 155 = .ok (.lload_n 2, 1) ∧ 156 = 155 + 1 := by decide +kernel
theorem d_X11_next_156 : decode cX11_next 156 = .ok (.lstore_n 2, 1) ∧ 157 = 156 + 1 := by decide +kernel
theorem d_X11_next_157 : decode cX11_next 157 = .ok (.iinc 4 1, 3) ∧ 160 = 157 + 3 := by decide +kernel
theorem d_X11_next_160 : decode cX11_next 160 = .ok (.aload_n 0, 1) ∧ 161 = 160 + 1 := by decide +kernel
theorem d_X11_next_161 : decode cX11_next 161 = .ok (.dup, 1) ∧ 162 = 161 + 1 := by decide +kernel
theorem d_X11_next_162 : decode cX11_next 162 = .ok (.getfield 191, 3) ∧ 165 = 162 + 3 := by decide +kernel
theorem d_X11_next_165 : decode cX11_next 165 = .ok (.iconst 1, 1) ∧ 166 = 165 + 1 := by decide +kernel
theorem d_X11_next_166 : decode cX11_next 166 = .ok (.iadd, 1) ∧ 167 = 166 + 1 := by decide +kernel
theorem d_X11_next_167 : decode cX11_next 167 = .ok (.putfield 191, 3) ∧ 170 = 167 + 3 := by decide +kernel
theorem d_X11_next_170 : decode cX11_next 170 = .ok (.goto (-71), 3) ∧ (170 : Int) + ((-71)) = ((99 : Nat) : Int) := by decide +kernel
theorem d_X11_next_173 : decode cX11_next 173 = .ok (.aload_n 0, 1) ∧ 174 = 173 + 1 := by decide +kernel
theorem d_X11_next_174 : decode cX11_next 174 = .ok (.iload 4, 2) ∧ 176 = 174 + 2 := by decide +kernel
theorem d_X11_next_176 : decode cX11_next 176 = .ok (.bipush 8, 2) ∧ 178 = 176 + 2 := by decide +kernel
theorem d_X11_next_178 : decode cX11_next 178 = .ok (.if_icmp .le 7, 3) ∧ 181 = 178 + 3 ∧ (178 : Int) + 7 = ((185 : Nat) : Int) := by decide +kernel
theorem d_X11_next_181 : decode cX11_next 181 = .ok (.iconst (-1), 1) ∧ 182 = 181 + 1 := by decide +kernel
theorem d_X11_next_182 : decode cX11_next 182 = .ok (.goto 7, 3) ∧ (182 : Int) + (7) = ((189 : Nat) : Int) := by decide +kernel
theorem d_X11_next_185 : decode cX11_next 185 = .ok (.lload_n 2, 1) ∧ 186 = 185 + 1 := by decide +kernel
theorem d_X11_next_186 : decode cX11_next 186 = .ok (.invokestatic 208, 3) ∧ 189 = 186 + 3 := by decide +kernel
theorem d_X11_next_189 : decode cX11_next 189 = .ok (.putfield 212, 3) ∧ 192 = 189 + 3 := by decide +kernel
theorem d_X11_next_192 : decode cX11_next 192 = .ok (.aload_n 0, 1) ∧ 193 = 192 + 1 := by decide +kernel
theorem d_X11_next_193 : decode cX11_next 193 = .ok (.aload_n 0, 1) ∧ 194 = 193 + 1 := by decide +kernel
theorem d_X11_next_194 : decode cX11_next 194 = .ok (.getfield 212, 3) ∧ 197 = 194 + 3 := by decide +kernel
theorem d_X11_next_197 : decode cX11_next 197 = .ok (.ifCond .ge 7, 3) ∧ 200 = 197 + 3 ∧ (197 : Int) + 7 = ((204 : Nat) : Int) := by decide +kernel
theorem d_X11_next_200 : decode cX11_next 200 = .ok (.iconst 4, 1) ∧ 201 = 200 + 1 := by decide +kernel
theorem d_X11_next_201 : decode cX11_next 201 = .ok (.goto 4, 3) ∧ (201 : Int) + (4) = ((205 : Nat) : Int) := by decide +kernel
theorem d_X11_next_204 : decode cX11_next 204 = .ok (.iconst 1, 1) ∧ 205 = 204 + 1 := by decide +kernel
theorem d_X11_next_205 : decode cX11_next 205 = .ok (.putfield 200, 3) ∧ 208 = 205 + 3 := by decide +kernel
theorem d_X11_next_208 : decode cX11_next 208 = .ok (.goto 231, 3) ∧ (208 : Int) + (231) = ((439 : Nat) : Int) := by decide +kernel
theorem d_X11_next_211 : decode cX11_next 211 = .ok (.iload_n 1, 1) ∧ 212 = 211 + 1 := by decide +kernel
theorem d_X11_next_212 : decode cX11_next 212 = .ok (.bipush 48, 2) ∧ 214 = 212 + 2 := by decide +kernel
theorem d_X11_next_214 : decode cX11_next 214 = .ok (.bipush 57, 2) ∧ 216 = 214 + 2 := by decide +kernel
theorem d_X11_next_216 : decode cX11_next 216 = .ok (.invokestatic 101, 3) ∧ 219 = 216 + 3 := by decide +kernel
theorem d_X11_next_219 : decode cX11_next 219 = .ok (.ifCond .eq 96, 3) ∧ 222 = 219 + 3 ∧ (219 : Int) + 96 = ((315 : Nat) : Int) := by decide +kernel
theorem d_X11_next_222 : decode cX11_next 222 = .ok (.aload_n 0, 1) ∧ 223 = 222 + 1 := by decide +kernel
theorem d_X11_next_223 : decode cX11_next 223 = .ok (.iconst 2, 1) ∧ 224 = 223 + 1 := by decide +kernel
theorem d_X11_next_224 : decode cX11_next 224 = .ok (.putfield 200, 3) ∧ 227 = 224 + 3 := by decide +kernel
theorem d_X11_next_227 : decode cX11_next 227 = .ok (.aload_n 0, 1) ∧ 228 = 227 + 1 := by decide +kernel
theorem d_X11_next_228 : decode cX11_next 228 = .ok (.iconst 0, 1) ∧ 229 = 228 + 1 := by decide +kernel
theorem d_X11_next_229 : decode cX11_next 229 = .ok (.putfield 212, 3) ∧ 232 = 229 + 3 := by decide +kernel
theorem d_X11_next_232 : decode cX11_next 232 = .ok (.aload_n 0, 1) ∧ 233 = 232 + 1 := by decide +kernel
theorem d_X11_next_233 : decode cX11_next 233 = .ok (.getfield 191, 3) ∧ 236 = 233 + 3 := by decide +kernel
theorem d_X11_next_236 : decode cX11_next 236 = .ok (.aload_n 0, 1) ∧ 237 = 236 + 1 := by decide +kernel
theorem d_X11_next_237 : decode cX11_next 237 = .ok (.getfield 194, 3) ∧ 240 = 237 + 3 := by decide +kernel
theorem d_X11_next_240 : decode cX11_next 240 = .ok (.if_icmp .ge 199, 3) ∧ 243 = 240 + 3 ∧ (240 : Int) + 199 = ((439 : Nat) : Int) := by decide +kernel
theorem d_X11_next_243 : decode cX11_next 243 = .ok (.aload_n 0, 1) ∧ 244 = 243 + 1 := by decide +kernel
theorem d_X11_next_244 : decode cX11_next 244 = .ok (.getfield 16, 3) ∧ 247 = 244 + 3 := by decide +kernel
theorem d_X11_next_247 : decode cX11_next 247 = .ok (.aload_n 0, 1) ∧ 248 = 247 + 1 := by decide +kernel
theorem d_X11_next_248 : decode cX11_next 248 = .ok (.getfield 191, 3) ∧ 251 = 248 + 3 := by decide +kernel
theorem d_X11_next_251 : decode cX11_next 251 = .ok (.baload, 1) ∧ 252 = 251 + 1 := by decide +kernel
theorem d_X11_next_252 : decode cX11_next 252 = .ok (.bipush 48, 2) ∧ 254 = 252 + 2 := by decide +kernel
theorem d_X11_next_254 : decode cX11_next 254 = .ok (.bipush 57, 2) ∧ 256 = 254 + 2 := by decide +kernel
theorem d_X11_next_256 : decode cX11_next 256 = .ok (.invokestatic 101, 3) ∧ 259 = 256 + 3 := by decide +kernel
theorem d_X11_next_259 : decode cX11_next 259 = .ok (.ifCond .eq 180, 3) ∧ 262 = 259 + 3 ∧ (259 : Int) + 180 = ((439 : Nat) : Int) := by decide +kernel
theorem d_X11_next_262 : decode cX11_next 262 = .ok (.aload_n 0, 1) ∧ 263 = 262 + 1 := by decide +kernel
theorem d_X11_next_263 : decode cX11_next 263 = .ok (.aload_n 0, 1) ∧ 264 = 263 + 1 := by decide +kernel
theorem d_X11_next_264 : decode cX11_next 264 = .ok (.getfield 212, 3) ∧ 267 = 264 + 3 := by decide +kernel
theorem d_X11_next_267 : decode cX11_next 267 = .ok (.ldc 215, 2) ∧ 269 = 267 + 2 := by decide +kernel
theorem d_X11_next_269 : decode cX11_next 269 = .ok (.if_icmp .le 10, 3) ∧ 272 = 269 + 3 ∧ (269 : Int) + 10 = ((279 : Nat) : Int) := by decide +kernel
theorem d_X11_next_272 : decode cX11_next 272 = .ok (.aload_n 0, 1) ∧ 273 = 272 + 1 := by decide +kernel
theorem d_X11_next_273 : decode cX11_next 273 = .ok (.getfield 212, 3) ∧ 276 = 273 + 3 := by decide +kernel
theorem d_X11_next_276 : decode cX11_next 276 = .ok (.goto 23, 3) ∧ (276 : Int) + (23) = ((299 : Nat) : Int) := by decide +kernel
theorem d_X11_next_279 : decode cX11_next 279 = .ok (.bipush 10, 2) ∧ 281 = 279 + 2 := by decide +kernel
theorem d_X11_next_281 : decode cX11_next 281 = .ok (.aload_n 0, 1) ∧ 282 = 281 + 1 := by decide +kernel
theorem d_X11_next_282 : decode cX11_next 282 = .ok (.getfield 212, 3) ∧ 285 = 282 + 3 := by decide +kernel
theorem d_X11_next_285 : decode cX11_next 285 = .ok (.imul, 1) ∧ 286 = 285 + 1 := by decide +kernel
theorem d_X11_next_286 : decode cX11_next 286 = .ok (.aload_n 0, 1) ∧ 287 = 286 + 1 := by decide +kernel
theorem d_X11_next_287 : decode cX11_next 287 = .ok (.getfield 16, 3) ∧ 290 = 287 + 3 := by decide +kernel
theorem d_X11_next_290 : decode cX11_next 290 = .ok (.aload_n 0, 1) ∧ 291 = 290 + 1 := by decide +kernel
theorem d_X11_next_291 : decode cX11_next 291 = .ok (.getfield 191, 3) ∧ 294 = 291 + 3 := by decide +kernel
theorem d_X11_next_294 : decode cX11_next 294 = .ok (.baload, 1) ∧ 295 = 294 + 1 := by decide +kernel
theorem d_X11_next_295 : decode cX11_next 295 = .ok (.iadd, 1) ∧ 296 = 295 + 1 := by decide +kernel
theorem d_X11_next_296 : decode cX11_next 296 = .ok (.bipush 48, 2) ∧ 298 = 296 + 2 := by decide +kernel
theorem d_X11_next_298 : decode cX11_next 298 = .ok (.isub, 1) ∧ 299 = 298 + 1 := by decide +kernel
theorem d_X11_next_299 : decode cX11_next 299 = .ok (.putfield 212, 3) ∧ 302 = 299 + 3 := by decide +kernel
theorem d_X11_next_302 : decode cX11_next 302 = .ok (.aload_n 0, 1) ∧ 303 = 302 + 1 := by decide +kernel
theorem d_X11_next_303 : decode cX11_next 303 = .ok (.dup, 1) ∧ 304 = 303 + 1 := by decide +kernel
theorem d_X11_next_304 : decode cX11_next 304 = .ok (.getfield 191, 3) ∧ 307 = 304 + 3 := by decide +kernel
theorem d_X11_next_307 : decode cX11_next 307 = .ok (.iconst 1, 1) ∧ 308 = 307 + 1 := by decide +kernel
theorem d_X11_next_308 : decode cX11_next 308 = .ok (.iadd, 1) ∧ 309 = 308 + 1 := by decide +kernel
theorem d_X11_next_309 : decode cX11_next 309 = .ok (.putfield 191, 3) ∧ 312 = 309 + 3 := by decide +kernel
theorem d_X11_next_312 : decode cX11_next 312 = .ok (.goto (-80), 3) ∧ (312 : Int) + ((-80)) = ((232 : Nat) : Int) := by decide +kernel
theorem d_X11_next_315 : decode cX11_next 315 = .ok (.aload_n 0, 1) ∧ 316 = 315 + 1 := by decide +kernel
theorem d_X11_next_316 : decode cX11_next 316 = .ok (.dup, 1) ∧ 317 = 316 + 1 := by decide +kernel
theorem d_X11_next_317 : decode cX11_next 317 = .ok (.getfield 191, 3) ∧ 320 = 317 + 3 := by decide +kernel
theorem d_X11_next_320 : decode cX11_next 320 = .ok (.iconst 1, 1) ∧ 321 = 320 + 1 := by decide +kernel
theorem d_X11_next_321 : decode cX11_next 321 = .ok (.iadd, 1) ∧ 322 = 321 + 1 := by decide +kernel
theorem d_X11_next_322 : decode cX11_next 322 = .ok (.putfield 191, 3) ∧ 325 = 322 + 3 := by decide +kernel
theorem d_X11_next_325 : decode cX11_next 325 = .ok (.aload_n 0, 1) ∧ 326 = 325 + 1 := by decide +kernel
theorem d_X11_next_326 : decode cX11_next 326 = .ok (.iload_n 1, 1) ∧ 327 = 326 + 1 := by decide +kernel
theorem d_X11_next_327 : decode cX11_next 327 = .ok (.putfield 212, 3) ∧ 330 = 327 + 3 := by decide +kernel
theorem d_X11_next_330 : decode cX11_next 330 = .ok (.aload_n 0, 1) ∧ 331 = 330 + 1 := by decide +kernel
theorem d_X11_next_331 : decode cX11_next 331 = .ok (.iload_n 1, 1) ∧ 332 = 331 + 1 := by decide +kernel
theorem d_X11_next_332 : decode cX11_next 332 = .ok (.bipush 59, 2) ∧ 334 = 332 + 2 := by decide +kernel
theorem d_X11_next_334 : decode cX11_next 334 = .ok (.bipush 62, 2) ∧ 336 = 334 + 2 := by decide +kernel
theorem d_X11_next_336 : decode cX11_next 336 = .ok (.invokestatic 101, 3) ∧ 339 = 336 + 3 := by decide +kernel
theorem d_X11_next_339 : decode cX11_next 339 = .ok (.ifCond .ne 26, 3) ∧ 342 = 339 + 3 ∧ (339 : Int) + 26 = ((365 : Nat) : Int) := by decide +kernel
theorem d_X11_next_342 : decode cX11_next 342 = .ok (.iload_n 1, 1) ∧ 343 = 342 + 1 := by decide +kernel
theorem d_X11_next_343 : decode cX11_next 343 = .ok (.bipush 40, 2) ∧ 345 = 343 + 2 := by decide +kernel
theorem d_X11_next_345 : decode cX11_next 345 = .ok (.bipush 45, 2) ∧ 347 = 345 + 2 := by decide +kernel
theorem d_X11_next_347 : decode cX11_next 347 = .ok (.invokestatic 101, 3) ∧ 350 = 347 + 3 := by decide +kernel
theorem d_X11_next_350 : decode cX11_next 350 = .ok (.ifCond .ne 15, 3) ∧ 353 = 350 + 3 ∧ (350 : Int) + 15 = ((365 : Nat) : Int) := by decide +kernel
theorem d_X11_next_353 : decode cX11_next 353 = .ok (.iload_n 1, 1) ∧ 354 = 353 + 1 := by decide +kernel
theorem d_X11_next_354 : decode cX11_next 354 = .ok (.bipush 47, 2) ∧ 356 = 354 + 2 := by decide +kernel
theorem d_X11_next_356 : decode cX11_next 356 = .ok (.if_icmp .eq 9, 3) ∧ 359 = 356 + 3 ∧ (356 : Int) + 9 = ((365 : Nat) : Int) := by decide +kernel
theorem d_X11_next_359 : decode cX11_next 359 = .ok (.iload_n 1, 1) ∧ 360 = 359 + 1 := by decide +kernel
theorem d_X11_next_360 : decode cX11_next 360 = .ok (.bipush 35, 2) ∧ 362 = 360 + 2 := by decide +kernel
theorem d_X11_next_362 : decode cX11_next 362 = .ok (.if_icmp .ne 7, 3) ∧ 365 = 362 + 3 ∧ (362 : Int) + 7 = ((369 : Nat) : Int) := by decide +kernel
theorem d_X11_next_365 : decode cX11_next 365 = .ok (.iconst 3, 1) ∧ 366 = 365 + 1 := by decide +kernel
theorem d_X11_next_366 : decode cX11_next 366 = .ok (.goto 4, 3) ∧ (366 : Int) + (4) = ((370 : Nat) : Int) := by decide +kernel
theorem d_X11_next_369 : decode cX11_next 369 = .ok (.iconst 4, 1) ∧ 370 = 369 + 1 := by decide +kernel
theorem d_X11_next_370 : decode cX11_next 370 = .ok (.putfield 200, 3) ∧ 373 = 370 + 3 := by decide +kernel
theorem d_X11_next_373 : decode cX11_next 373 = .ok (.iload_n 1, 1) ∧ 374 = 373 + 1 := by decide +kernel
theorem d_X11_next_374 : decode cX11_next 374 = .ok (.bipush 60, 2) ∧ 376 = 374 + 2 := by decide +kernel
theorem d_X11_next_376 : decode cX11_next 376 = .ok (.if_icmp .eq 9, 3) ∧ 379 = 376 + 3 ∧ (376 : Int) + 9 = ((385 : Nat) : Int) := by decide +kernel
theorem d_X11_next_379 : decode cX11_next 379 = .ok (.iload_n 1, 1) ∧ 380 = 379 + 1 := by decide +kernel
theorem d_X11_next_380 : decode cX11_next 380 = .ok (.bipush 62, 2) ∧ 382 = 380 + 2 := by decide +kernel
theorem d_X11_next_382 : decode cX11_next 382 = .ok (.if_icmp .ne 57, 3) ∧ 385 = 382 + 3 ∧ (382 : Int) + 57 = ((439 : Nat) : Int) := by decide +kernel
theorem d_X11_next_385 : decode cX11_next 385 = .ok (.aload_n 0, 1) ∧ 386 = 385 + 1 := by decide +kernel
theorem d_X11_next_386 : decode cX11_next 386 = .ok (.getfield 191, 3) ∧ 389 = 386 + 3 := by decide +kernel
theorem d_X11_next_389 : decode cX11_next 389 = .ok (.aload_n 0, 1) ∧ 390 = 389 + 1 := by decide +kernel
theorem d_X11_next_390 : decode cX11_next 390 = .ok (.getfield 194, 3) ∧ 393 = 390 + 3 := by decide +kernel
theorem d_X11_next_393 : decode cX11_next 393 = .ok (.if_icmp .ge 46, 3) ∧ 396 = 393 + 3 ∧ (393 : Int) + 46 = ((439 : Nat) : Int) := by decide +kernel
theorem d_X11_next_396 : decode cX11_next 396 = .ok (.aload_n 0, 1) ∧ 397 = 396 + 1 := by decide +kernel
theorem d_X11_next_397 : decode cX11_next 397 = .ok (.getfield 16, 3) ∧ 400 = 397 + 3 := by decide +kernel
theorem d_X11_next_400 : decode cX11_next 400 = .ok (.aload_n 0, 1) ∧ 401 = 400 + 1 := by decide +kernel
theorem d_X11_next_401 : decode cX11_next 401 = .ok (.getfield 191, 3) ∧ 404 = 401 + 3 := by decide +kernel
theorem d_X11_next_404 : decode cX11_next 404 = .ok (.baload, 1) ∧ 405 = 404 + 1 := by decide +kernel
theorem d_X11_next_405 : decode cX11_next 405 = .ok (.bipush 61, 2) ∧ 407 = 405 + 2 := by decide +kernel
theorem d_X11_next_407 : decode cX11_next 407 = .ok (.if_icmp .ne 32, 3) ∧ 410 = 407 + 3 ∧ (407 : Int) + 32 = ((439 : Nat) : Int) := by decide +kernel
theorem d_X11_next_410 : decode cX11_next 410 = .ok (.aload_n 0, 1) ∧ 411 = 410 + 1 := by decide +kernel
theorem d_X11_next_411 : decode cX11_next 411 = .ok (.iload_n 1, 1) ∧ 412 = 411 + 1 := by decide +kernel
theorem d_X11_next_412 : decode cX11_next 412 = .ok (.bipush 60, 2) ∧ 414 = 412 + 2 := by decide +kernel
theorem d_X11_next_414 : decode cX11_next 414 = .ok (.if_icmp .ne 9, 3) ∧ 417 = 414 + 3 ∧ (414 : Int) + 9 = ((423 : Nat) : Int) := by decide +kernel
theorem d_X11_next_417 : decode cX11_next 417 = .ok (.sipush 300, 3) ∧ 420 = 417 + 3 := by decide +kernel
theorem d_X11_next_420 : decode cX11_next 420 = .ok (.goto 6, 3) ∧ (420 : Int) + (6) = ((426 : Nat) : Int) := by decide +kernel
theorem d_X11_next_423 : decode cX11_next 423 = .ok (.sipush 301, 3) ∧ 426 = 423 + 3 := by decide +kernel
theorem d_X11_next_426 : decode cX11_next 426 = .ok (.putfield 212, 3) ∧ 429 = 426 + 3 := by decide +kernel
theorem d_X11_next_429 : decode cX11_next 429 = .ok (.aload_n 0, 1) ∧ 430 = 429 + 1 := by decide +kernel
theorem d_X11_next_430 : decode cX11_next 430 = .ok (.dup, 1) ∧ 431 = 430 + 1 := by decide +kernel
theorem d_X11_next_431 : decode cX11_next 431 = .ok (.getfield 191, 3) ∧ 434 = 431 + 3 := by decide +kernel
theorem d_X11_next_434 : decode cX11_next 434 = .ok (.iconst 1, 1) ∧ 435 = 434 + 1 := by decide +kernel
theorem d_X11_next_435 : decode cX11_next 435 = .ok (.iadd, 1) ∧ 436 = 435 + 1 := by decide +kernel
theorem d_X11_next_436 : decode cX11_next 436 = .ok (.putfield 191, 3) ∧ 439 = 436 + 3 := by decide +kernel
theorem d_X11_next_439 : decode cX11_next 439 = .ok (.return_, 1) := by decide +kernel
theorem d_X11_isSign_0 : decode cX11_isSign 0 = .ok (.aload_n 0, 1) ∧ 1 = 0 + 1 := by decide +kernel
theorem d_X11_isSign_1 : decode cX11_isSign 1 = .ok (.getfield 200, 3) ∧ 4 = 1 + 3 := by decide +kernel
theorem d_X11_isSign_4 : decode cX11_isSign 4 = .ok (.iconst 3, 1) ∧ 5 = 4 + 1 := by decide +kernel
theorem d_X11_isSign_5 : decode cX11_isSign 5 = .ok (.if_icmp .ne 15, 3) ∧ 8 = 5 + 3 ∧ (5 : Int) + 15 = ((20 : Nat) : Int) := by decide +kernel
theorem d_X11_isSign_8 : decode cX11_isSign 8 = .ok (.aload_n 0, 1) ∧ 9 = 8 + 1 := by decide +kernel
theorem d_X11_isSign_9 : decode cX11_isSign 9 = .ok (.getfield 212, 3) ∧ 12 = 9 + 3 := by decide +kernel
theorem d_X11_isSign_12 : decode cX11_isSign 12 = .ok (.iload_n 1, 1) ∧ 13 = 12 + 1 := by decide +kernel
theorem d_X11_isSign_13 : decode cX11_isSign 13 = .ok (.if_icmp .ne 7, 3) ∧ 16 = 13 + 3 ∧ (13 : Int) + 7 = ((20 : Nat) : Int) := by decide +kernel
theorem d_X11_isSign_16 : decode cX11_isSign 16 = .ok (.iconst 1, 1) ∧ 17 = 16 + 1 := by decide +kernel
theorem d_X11_isSign_17 : decode cX11_isSign 17 = .ok (.goto 4, 3) ∧ (17 : Int) + (4) = ((21 : Nat) : Int) := by decide +kernel
theorem d_X11_isSign_20 : decode cX11_isSign 20 = .ok (.iconst 0, 1) ∧ 21 = 20 + 1 := by decide +kernel
theorem d_X11_isSign_21 : decode cX11_isSign 21 = .ok (.ireturn, 1) := by decide +kernel
theorem d_X11_isWord_0 : decode cX11_isWord 0 = .ok (.aload_n 0, 1) ∧ 1 = 0 + 1 := by decide +kernel
theorem d_X11_isWord_1 : decode cX11_isWord 1 = .ok (.getfield 200, 3) ∧ 4 = 1 + 3 := by decide +kernel
theorem d_X11_isWord_4 : decode cX11_isWord 4 = .ok (.iconst 1, 1) ∧ 5 = 4 + 1 := by decide +kernel
theorem d_X11_isWord_5 : decode cX11_isWord 5 = .ok (.if_icmp .ne 15, 3) ∧ 8 = 5 + 3 ∧ (5 : Int) + 15 = ((20 : Nat) : Int) := by decide +kernel
theorem d_X11_isWord_8 : decode cX11_isWord 8 = .ok (.aload_n 0, 1) ∧ 9 = 8 + 1 := by decide +kernel
theorem d_X11_isWord_9 : decode cX11_isWord 9 = .ok (.getfield 212, 3) ∧ 12 = 9 + 3 := by decide +kernel
theorem d_X11_isWord_12 : decode cX11_isWord 12 = .ok (.iload_n 1, 1) ∧ 13 = 12 + 1 := by decide +kernel
theorem d_X11_isWord_13 : decode cX11_isWord 13 = .ok (.if_icmp .ne 7, 3) ∧ 16 = 13 + 3 ∧ (13 : Int) + 7 = ((20 : Nat) : Int) := by decide +kernel
theorem d_X11_isWord_16 : decode cX11_isWord 16 = .ok (.iconst 1, 1) ∧ 17 = 16 + 1 := by decide +kernel
theorem d_X11_isWord_17 : decode cX11_isWord 17 = .ok (.goto 4, 3) ∧ (17 : Int) + (4) = ((21 : Nat) : Int) := by decide +kernel
theorem d_X11_isWord_20 : decode cX11_isWord 20 = .ok (.iconst 0, 1) ∧ 21 = 20 + 1 := by decide +kernel
theorem d_X11_isWord_21 : decode cX11_isWord 21 = .ok (.ireturn, 1) := by decide +kernel
theorem d_X11_errs_0 : decode cX11_errs 0 = .ok (.aload_n 0, 1) ∧ 1 = 0 + 1 := by decide +kernel
theorem d_X11_errs_1 : decode cX11_errs 1 = .ok (.getfield 216, 3) ∧ 4 = 1 + 3 := by decide +kernel
theorem d_X11_errs_4 : decode cX11_errs 4 = .ok (.ifCond .ne 16, 3) ∧ 7 = 4 + 3 ∧ (4 : Int) + 16 = ((20 : Nat) : Int) := by decide +kernel
theorem d_X11_errs_7 : decode cX11_errs 7 = .ok (.aload_n 0, 1) ∧ 8 = 7 + 1 := by decide +kernel
theorem d_X11_errs_8 : decode cX11_errs 8 = .ok (.iload_n 1, 1) ∧ 9 = 8 + 1 := by decide +kernel
theorem d_X11_errs_9 : decode cX11_errs 9 = .ok (.putfield 216, 3) ∧ 12 = 9 + 3 := by decide +kernel
theorem d_X11_errs_12 : decode cX11_errs 12 = .ok (.aload_n 0, 1) ∧ 13 = 12 + 1 := by decide +kernel
theorem d_X11_errs_13 : decode cX11_errs 13 = .ok (.aload_n 0, 1) ∧ 14 = 13 + 1 := by decide +kernel
theorem d_X11_errs_14 : decode cX11_errs 14 = .ok (.getfield 197, 3) ∧ 17 = 14 + 3 := by decide +kernel
theorem d_X11_errs_17 : decode cX11_errs 17 = .ok (.putfield 219, 3) ∧ 20 = 17 + 3 := by decide +kernel
theorem d_X11_errs_20 : decode cX11_errs 20 = .ok (.return_, 1) := by decide +kernel
theorem d_X11_emits_0 : decode cX11_emits 0 = .ok (.aload_n 0, 1) ∧ 1 = 0 + 1 := by decide +kernel
theorem d_X11_emits_1 : decode cX11_emits 1 = .ok (.getfield 66, 3) ∧ 4 = 1 + 3 := by decide +kernel
theorem d_X11_emits_4 : decode cX11_emits 4 = .ok (.aload_n 0, 1) ∧ 5 = 4 + 1 := by decide +kernel
theorem d_X11_emits_5 : decode cX11_emits 5 = .ok (.getfield 222, 3) ∧ 8 = 5 + 3 := by decide +kernel
theorem d_X11_emits_8 : decode cX11_emits 8 = .ok (.iload_n 1, 1) ∧ 9 = 8 + 1 := by decide +kernel
theorem d_X11_emits_9 : decode cX11_emits 9 = .ok (.iastore, 1) ∧ 10 = 9 + 1 := by decide +kernel
theorem d_X11_emits_10 : decode cX11_emits 10 = .ok (.aload_n 0, 1) ∧ 11 = 10 + 1 := by decide +kernel
theorem d_X11_emits_11 : decode cX11_emits 11 = .ok (.getfield 69, 3) ∧ 14 = 11 + 3 := by decide +kernel
theorem d_X11_emits_14 : decode cX11_emits 14 = .ok (.aload_n 0, 1) ∧ 15 = 14 + 1 := by decide +kernel
theorem d_X11_emits_15 : decode cX11_emits 15 = .ok (.getfield 222, 3) ∧ 18 = 15 + 3 := by decide +kernel
theorem d_X11_emits_18 : decode cX11_emits 18 = .ok (.iload_n 2, 1) ∧ 19 = 18 + 1 := by decide +kernel
theorem d_X11_emits_19 : decode cX11_emits 19 = .ok (.iastore, 1) ∧ 20 = 19 + 1 := by decide +kernel
theorem d_X11_emits_20 : decode cX11_emits 20 = .ok (.aload_n 0, 1) ∧ 21 = 20 + 1 := by decide +kernel
theorem d_X11_emits_21 : decode cX11_emits 21 = .ok (.dup, 1) ∧ 22 = 21 + 1 := by decide +kernel
theorem d_X11_emits_22 : decode cX11_emits 22 = .ok (.getfield 222, 3) ∧ 25 = 22 + 3 := by decide +kernel
theorem d_X11_emits_25 : decode cX11_emits 25 = .ok (.iconst 1, 1) ∧ 26 = 25 + 1 := by decide +kernel
theorem d_X11_emits_26 : decode cX11_emits 26 = .ok (.iadd, 1) ∧ 27 = 26 + 1 := by decide +kernel
theorem d_X11_emits_27 : decode cX11_emits 27 = .ok (.putfield 222, 3) ∧ 30 = 27 + 3 := by decide +kernel
theorem d_X11_emits_30 : decode cX11_emits 30 = .ok (.return_, 1) := by decide +kernel
theorem d_X11_opensFrame_0 : decode cX11_opensFrame 0 = .ok (.aload_n 0, 1) ∧ 1 = 0 + 1 := by decide +kernel
theorem d_X11_opensFrame_1 : decode cX11_opensFrame 1 = .ok (.getfield 45, 3) ∧ 4 = 1 + 3 := by decide +kernel
theorem d_X11_opensFrame_4 : decode cX11_opensFrame 4 = .ok (.aload_n 0, 1) ∧ 5 = 4 + 1 := by decide +kernel
theorem d_X11_opensFrame_5 : decode cX11_opensFrame 5 = .ok (.getfield 225, 3) ∧ 8 = 5 + 3 := by decide +kernel
theorem d_X11_opensFrame_8 : decode cX11_opensFrame 8 = .ok (.iload_n 1, 1) ∧ 9 = 8 + 1 := by decide +kernel
theorem d_X11_opensFrame_9 : decode cX11_opensFrame 9 = .ok (.iastore, 1) ∧ 10 = 9 + 1 := by decide +kernel
theorem d_X11_opensFrame_10 : decode cX11_opensFrame 10 = .ok (.aload_n 0, 1) ∧ 11 = 10 + 1 := by decide +kernel
theorem d_X11_opensFrame_11 : decode cX11_opensFrame 11 = .ok (.dup, 1) ∧ 12 = 11 + 1 := by decide +kernel
theorem d_X11_opensFrame_12 : decode cX11_opensFrame 12 = .ok (.getfield 225, 3) ∧ 15 = 12 + 3 := by decide +kernel
theorem d_X11_opensFrame_15 : decode cX11_opensFrame 15 = .ok (.iconst 1, 1) ∧ 16 = 15 + 1 := by decide +kernel
theorem d_X11_opensFrame_16 : decode cX11_opensFrame 16 = .ok (.iadd, 1) ∧ 17 = 16 + 1 := by decide +kernel
theorem d_X11_opensFrame_17 : decode cX11_opensFrame 17 = .ok (.putfield 225, 3) ∧ 20 = 17 + 3 := by decide +kernel
theorem d_X11_opensFrame_20 : decode cX11_opensFrame 20 = .ok (.return_, 1) := by decide +kernel
theorem d_X11_top_0 : decode cX11_top 0 = .ok (.aload_n 0, 1) ∧ 1 = 0 + 1 := by decide +kernel
theorem d_X11_top_1 : decode cX11_top 1 = .ok (.getfield 45, 3) ∧ 4 = 1 + 3 := by decide +kernel
theorem d_X11_top_4 : decode cX11_top 4 = .ok (.aload_n 0, 1) ∧ 5 = 4 + 1 := by decide +kernel
theorem d_X11_top_5 : decode cX11_top 5 = .ok (.getfield 225, 3) ∧ 8 = 5 + 3 := by decide +kernel
theorem d_X11_top_8 : decode cX11_top 8 = .ok (.iconst 1, 1) ∧ 9 = 8 + 1 := by decide +kernel
theorem d_X11_top_9 : decode cX11_top 9 = .ok (.isub, 1) ∧ 10 = 9 + 1 := by decide +kernel
theorem d_X11_top_10 : decode cX11_top 10 = .ok (.iaload, 1) ∧ 11 = 10 + 1 := by decide +kernel
theorem d_X11_top_11 : decode cX11_top 11 = .ok (.ireturn, 1) := by decide +kernel
theorem d_X11_opensSign_0 : decode cX11_opensSign 0 = .ok (.aload_n 0, 1) ∧ 1 = 0 + 1 := by decide +kernel
theorem d_X11_opensSign_1 : decode cX11_opensSign 1 = .ok (.getfield 228, 3) ∧ 4 = 1 + 3 := by decide +kernel
theorem d_X11_opensSign_4 : decode cX11_opensSign 4 = .ok (.bipush 8, 2) ∧ 6 = 4 + 2 := by decide +kernel
theorem d_X11_opensSign_6 : decode cX11_opensSign 6 = .ok (.if_icmp .ne 10, 3) ∧ 9 = 6 + 3 ∧ (6 : Int) + 10 = ((16 : Nat) : Int) := by decide +kernel
theorem d_X11_opensSign_9 : decode cX11_opensSign 9 = .ok (.aload_n 0, 1) ∧ 10 = 9 + 1 := by decide +kernel
theorem d_X11_opensSign_10 : decode cX11_opensSign 10 = .ok (.iconst 3, 1) ∧ 11 = 10 + 1 := by decide +kernel
theorem d_X11_opensSign_11 : decode cX11_opensSign 11 = .ok (.invokevirtual 231, 3) ∧ 14 = 11 + 3 := by decide +kernel
theorem d_X11_opensSign_14 : decode cX11_opensSign 14 = .ok (.iconst 0, 1) ∧ 15 = 14 + 1 := by decide +kernel
theorem d_X11_opensSign_15 : decode cX11_opensSign 15 = .ok (.ireturn, 1) := by decide +kernel
theorem d_X11_opensSign_16 : decode cX11_opensSign 16 = .ok (.aload_n 0, 1) ∧ 17 = 16 + 1 := by decide +kernel
theorem d_X11_opensSign_17 : decode cX11_opensSign 17 = .ok (.dup, 1) ∧ 18 = 17 + 1 := by decide +kernel
theorem d_X11_opensSign_18 : decode cX11_opensSign 18 = .ok (.getfield 228, 3) ∧ 21 = 18 + 3 := by decide +kernel
theorem d_X11_opensSign_21 : decode cX11_opensSign 21 = .ok (.iconst 1, 1) ∧ 22 = 21 + 1 := by decide +kernel
theorem d_X11_opensSign_22 : decode cX11_opensSign 22 = .ok (.iadd, 1) ∧ 23 = 22 + 1 := by decide +kernel
theorem d_X11_opensSign_23 : decode cX11_opensSign 23 = .ok (.putfield 228, 3) ∧ 26 = 23 + 3 := by decide +kernel
theorem d_X11_opensSign_26 : decode cX11_opensSign 26 = .ok (.aload_n 0, 1) ∧ 27 = 26 + 1 := by decide +kernel
theorem d_X11_opensSign_27 : decode cX11_opensSign 27 = .ok (.iload_n 1, 1) ∧ 28 = 27 + 1 := by decide +kernel
theorem d_X11_opensSign_28 : decode cX11_opensSign 28 = .ok (.invokevirtual 234, 3) ∧ 31 = 28 + 3 := by decide +kernel
theorem d_X11_opensSign_31 : decode cX11_opensSign 31 = .ok (.aload_n 0, 1) ∧ 32 = 31 + 1 := by decide +kernel
theorem d_X11_opensSign_32 : decode cX11_opensSign 32 = .ok (.invokevirtual 237, 3) ∧ 35 = 32 + 3 := by decide +kernel
theorem d_X11_opensSign_35 : decode cX11_opensSign 35 = .ok (.iconst 1, 1) ∧ 36 = 35 + 1 := by decide +kernel
theorem d_X11_opensSign_36 : decode cX11_opensSign 36 = .ok (.ireturn, 1) := by decide +kernel
theorem d_X11_rank_0 : decode cX11_rank 0 = .ok (.iload_n 0, 1) ∧ 1 = 0 + 1 := by decide +kernel
theorem d_X11_rank_1 : decode cX11_rank 1 = .ok (.sipush 407, 3) ∧ 4 = 1 + 3 := by decide +kernel
theorem d_X11_rank_4 : decode cX11_rank 4 = .ok (.if_icmp .ne 7, 3) ∧ 7 = 4 + 3 ∧ (4 : Int) + 7 = ((11 : Nat) : Int) := by decide +kernel
theorem d_X11_rank_7 : decode cX11_rank 7 = .ok (.iconst 1, 1) ∧ 8 = 7 + 1 := by decide +kernel
theorem d_X11_rank_8 : decode cX11_rank 8 = .ok (.goto 31, 3) ∧ (8 : Int) + (31) = ((39 : Nat) : Int) := by decide +kernel
theorem d_X11_rank_11 : decode cX11_rank 11 = .ok (.iload_n 0, 1) ∧ 12 = 11 + 1 := by decide +kernel
theorem d_X11_rank_12 : decode cX11_rank 12 = .ok (.sipush 406, 3) ∧ 15 = 12 + 3 := by decide +kernel
theorem d_X11_rank_15 : decode cX11_rank 15 = .ok (.if_icmp .ne 7, 3) ∧ 18 = 15 + 3 ∧ (15 : Int) + 7 = ((22 : Nat) : Int) := by decide +kernel
theorem d_X11_rank_18 : decode cX11_rank 18 = .ok (.iconst 2, 1) ∧ 19 = 18 + 1 := by decide +kernel
theorem d_X11_rank_19 : decode cX11_rank 19 = .ok (.goto 20, 3) ∧ (19 : Int) + (20) = ((39 : Nat) : Int) := by decide +kernel
theorem d_X11_rank_22 : decode cX11_rank 22 = .ok (.iload_n 0, 1) ∧ 23 = 22 + 1 := by decide +kernel
theorem d_X11_rank_23 : decode cX11_rank 23 = .ok (.bipush 43, 2) ∧ 25 = 23 + 2 := by decide +kernel
theorem d_X11_rank_25 : decode cX11_rank 25 = .ok (.if_icmp .eq 9, 3) ∧ 28 = 25 + 3 ∧ (25 : Int) + 9 = ((34 : Nat) : Int) := by decide +kernel
theorem d_X11_rank_28 : decode cX11_rank 28 = .ok (.iload_n 0, 1) ∧ 29 = 28 + 1 := by decide +kernel
theorem d_X11_rank_29 : decode cX11_rank 29 = .ok (.bipush 45, 2) ∧ 31 = 29 + 2 := by decide +kernel
theorem d_X11_rank_31 : decode cX11_rank 31 = .ok (.if_icmp .ne 7, 3) ∧ 34 = 31 + 3 ∧ (31 : Int) + 7 = ((38 : Nat) : Int) := by decide +kernel
theorem d_X11_rank_34 : decode cX11_rank 34 = .ok (.iconst 3, 1) ∧ 35 = 34 + 1 := by decide +kernel
theorem d_X11_rank_35 : decode cX11_rank 35 = .ok (.goto 4, 3) ∧ (35 : Int) + (4) = ((39 : Nat) : Int) := by decide +kernel
theorem d_X11_rank_38 : decode cX11_rank 38 = .ok (.iconst 4, 1) ∧ 39 = 38 + 1 := by decide +kernel
theorem d_X11_rank_39 : decode cX11_rank 39 = .ok (.ireturn, 1) := by decide +kernel
theorem d_X11_works_0 : decode cX11_works 0 = .ok (.aload_n 0, 1) ∧ 1 = 0 + 1 := by decide +kernel
theorem d_X11_works_1 : decode cX11_works 1 = .ok (.getfield 240, 3) ∧ 4 = 1 + 3 := by decide +kernel
theorem d_X11_works_4 : decode cX11_works 4 = .ok (.ifCond .le 66, 3) ∧ 7 = 4 + 3 ∧ (4 : Int) + 66 = ((70 : Nat) : Int) := by decide +kernel
theorem d_X11_works_7 : decode cX11_works 7 = .ok (.aload_n 0, 1) ∧ 8 = 7 + 1 := by decide +kernel
theorem d_X11_works_8 : decode cX11_works 8 = .ok (.getfield 54, 3) ∧ 11 = 8 + 3 := by decide +kernel
theorem d_X11_works_11 : decode cX11_works 11 = .ok (.aload_n 0, 1) ∧ 12 = 11 + 1 := by decide +kernel
theorem d_X11_works_12 : decode cX11_works 12 = .ok (.getfield 240, 3) ∧ 15 = 12 + 3 := by decide +kernel
theorem d_X11_works_15 : decode cX11_works 15 = .ok (.iconst 1, 1) ∧ 16 = 15 + 1 := by decide +kernel
theorem d_X11_works_16 : decode cX11_works 16 = .ok (.isub, 1) ∧ 17 = 16 + 1 := by decide +kernel
theorem d_X11_works_17 : decode cX11_works 17 = .ok (.iaload, 1) ∧ 18 = 17 + 1 := by decide +kernel
theorem d_X11_works_18 : decode cX11_works 18 = .ok (.aload_n 0, 1) ∧ 19 = 18 + 1 := by decide +kernel
theorem d_X11_works_19 : decode cX11_works 19 = .ok (.getfield 225, 3) ∧ 22 = 19 + 3 := by decide +kernel
theorem d_X11_works_22 : decode cX11_works 22 = .ok (.if_icmp .ne 48, 3) ∧ 25 = 22 + 3 ∧ (22 : Int) + 48 = ((70 : Nat) : Int) := by decide +kernel
theorem d_X11_works_25 : decode cX11_works 25 = .ok (.aload_n 0, 1) ∧ 26 = 25 + 1 := by decide +kernel
theorem d_X11_works_26 : decode cX11_works 26 = .ok (.getfield 51, 3) ∧ 29 = 26 + 3 := by decide +kernel
theorem d_X11_works_29 : decode cX11_works 29 = .ok (.aload_n 0, 1) ∧ 30 = 29 + 1 := by decide +kernel
theorem d_X11_works_30 : decode cX11_works 30 = .ok (.getfield 240, 3) ∧ 33 = 30 + 3 := by decide +kernel
theorem d_X11_works_33 : decode cX11_works 33 = .ok (.iconst 1, 1) ∧ 34 = 33 + 1 := by decide +kernel
theorem d_X11_works_34 : decode cX11_works 34 = .ok (.isub, 1) ∧ 35 = 34 + 1 := by decide +kernel
theorem d_X11_works_35 : decode cX11_works 35 = .ok (.iaload, 1) ∧ 36 = 35 + 1 := by decide +kernel
theorem d_X11_works_36 : decode cX11_works 36 = .ok (.invokestatic 243, 3) ∧ 39 = 36 + 3 := by decide +kernel
theorem d_X11_works_39 : decode cX11_works 39 = .ok (.iload_n 1, 1) ∧ 40 = 39 + 1 := by decide +kernel
theorem d_X11_works_40 : decode cX11_works 40 = .ok (.if_icmp .lt 30, 3) ∧ 43 = 40 + 3 ∧ (40 : Int) + 30 = ((70 : Nat) : Int) := by decide +kernel
theorem d_X11_works_43 : decode cX11_works 43 = .ok (.aload_n 0, 1) ∧ 44 = 43 + 1 := by decide +kernel
theorem d_X11_works_44 : decode cX11_works 44 = .ok (.dup, 1) ∧ 45 = 44 + 1 := by decide +kernel
theorem d_X11_works_45 : decode cX11_works 45 = .ok (.getfield 240, 3) ∧ 48 = 45 + 3 := by decide +kernel
theorem d_X11_works_48 : decode cX11_works 48 = .ok (.iconst 1, 1) ∧ 49 = 48 + 1 := by decide +kernel
theorem d_X11_works_49 : decode cX11_works 49 = .ok (.isub, 1) ∧ 50 = 49 + 1 := by decide +kernel
theorem d_X11_works_50 : decode cX11_works 50 = .ok (.putfield 240, 3) ∧ 53 = 50 + 3 := by decide +kernel
theorem d_X11_works_53 : decode cX11_works 53 = .ok (.aload_n 0, 1) ∧ 54 = 53 + 1 := by decide +kernel
theorem d_X11_works_54 : decode cX11_works 54 = .ok (.aload_n 0, 1) ∧ 55 = 54 + 1 := by decide +kernel
theorem d_X11_works_55 : decode cX11_works 55 = .ok (.getfield 51, 3) ∧ 58 = 55 + 3 := by decide +kernel
theorem d_X11_works_58 : decode cX11_works 58 = .ok (.aload_n 0, 1) ∧ 59 = 58 + 1 := by decide +kernel
theorem d_X11_works_59 : decode cX11_works 59 = .ok (.getfield 240, 3) ∧ 62 = 59 + 3 := by decide +kernel
theorem d_X11_works_62 : decode cX11_works 62 = .ok (.iaload, 1) ∧ 63 = 62 + 1 := by decide +kernel
theorem d_X11_works_63 : decode cX11_works 63 = .ok (.iconst 0, 1) ∧ 64 = 63 + 1 := by decide +kernel
theorem d_X11_works_64 : decode cX11_works 64 = .ok (.invokevirtual 247, 3) ∧ 67 = 64 + 3 := by decide +kernel
theorem d_X11_works_67 : decode cX11_works 67 = .ok (.goto (-67), 3) ∧ (67 : Int) + ((-67)) = ((0 : Nat) : Int) := by decide +kernel
theorem d_X11_works_70 : decode cX11_works 70 = .ok (.return_, 1) := by decide +kernel
theorem d_X11_waitsFor_0 : decode cX11_waitsFor 0 = .ok (.aload_n 0, 1) ∧ 1 = 0 + 1 := by decide +kernel
theorem d_X11_waitsFor_1 : decode cX11_waitsFor 1 = .ok (.iload_n 1, 1) ∧ 2 = 1 + 1 := by decide +kernel
theorem d_X11_waitsFor_2 : decode cX11_waitsFor 2 = .ok (.invokestatic 243, 3) ∧ 5 = 2 + 3 := by decide +kernel
theorem d_X11_waitsFor_5 : decode cX11_waitsFor 5 = .ok (.invokevirtual 251, 3) ∧ 8 = 5 + 3 := by decide +kernel
theorem d_X11_waitsFor_8 : decode cX11_waitsFor 8 = .ok (.aload_n 0, 1) ∧ 9 = 8 + 1 := by decide +kernel
theorem d_X11_waitsFor_9 : decode cX11_waitsFor 9 = .ok (.getfield 51, 3) ∧ 12 = 9 + 3 := by decide +kernel
theorem d_X11_waitsFor_12 : decode cX11_waitsFor 12 = .ok (.aload_n 0, 1) ∧ 13 = 12 + 1 := by decide +kernel
theorem d_X11_waitsFor_13 : decode cX11_waitsFor 13 = .ok (.getfield 240, 3) ∧ 16 = 13 + 3 := by decide +kernel
theorem d_X11_waitsFor_16 : decode cX11_waitsFor 16 = .ok (.iload_n 1, 1) ∧ 17 = 16 + 1 := by decide +kernel
theorem d_X11_waitsFor_17 : decode cX11_waitsFor 17 = .ok (.iastore, 1) ∧ 18 = 17 + 1 := by decide +kernel
theorem d_X11_waitsFor_18 : decode cX11_waitsFor 18 = .ok (.aload_n 0, 1) ∧ 19 = 18 + 1 := by decide +kernel
theorem d_X11_waitsFor_19 : decode cX11_waitsFor 19 = .ok (.getfield 54, 3) ∧ 22 = 19 + 3 := by decide +kernel
theorem d_X11_waitsFor_22 : decode cX11_waitsFor 22 = .ok (.aload_n 0, 1) ∧ 23 = 22 + 1 := by decide +kernel
theorem d_X11_waitsFor_23 : decode cX11_waitsFor 23 = .ok (.getfield 240, 3) ∧ 26 = 23 + 3 := by decide +kernel
theorem d_X11_waitsFor_26 : decode cX11_waitsFor 26 = .ok (.aload_n 0, 1) ∧ 27 = 26 + 1 := by decide +kernel
theorem d_X11_waitsFor_27 : decode cX11_waitsFor 27 = .ok (.getfield 225, 3) ∧ 30 = 27 + 3 := by decide +kernel
theorem d_X11_waitsFor_30 : decode cX11_waitsFor 30 = .ok (.iastore, 1) ∧ 31 = 30 + 1 := by decide +kernel
theorem d_X11_waitsFor_31 : decode cX11_waitsFor 31 = .ok (.aload_n 0, 1) ∧ 32 = 31 + 1 := by decide +kernel
theorem d_X11_waitsFor_32 : decode cX11_waitsFor 32 = .ok (.dup, 1) ∧ 33 = 32 + 1 := by decide +kernel
theorem d_X11_waitsFor_33 : decode cX11_waitsFor 33 = .ok (.getfield 240, 3) ∧ 36 = 33 + 3 := by decide +kernel
theorem d_X11_waitsFor_36 : decode cX11_waitsFor 36 = .ok (.iconst 1, 1) ∧ 37 = 36 + 1 := by decide +kernel
theorem d_X11_waitsFor_37 : decode cX11_waitsFor 37 = .ok (.iadd, 1) ∧ 38 = 37 + 1 := by decide +kernel
theorem d_X11_waitsFor_38 : decode cX11_waitsFor 38 = .ok (.putfield 240, 3) ∧ 41 = 38 + 3 := by decide +kernel
theorem d_X11_waitsFor_41 : decode cX11_waitsFor 41 = .ok (.aload_n 0, 1) ∧ 42 = 41 + 1 := by decide +kernel
theorem d_X11_waitsFor_42 : decode cX11_waitsFor 42 = .ok (.invokevirtual 237, 3) ∧ 45 = 42 + 3 := by decide +kernel
theorem d_X11_waitsFor_45 : decode cX11_waitsFor 45 = .ok (.return_, 1) := by decide +kernel
theorem d_X11_asks_0 : decode cX11_asks 0 = .ok (.aload_n 0, 1) ∧ 1 = 0 + 1 := by decide +kernel
theorem d_X11_asks_1 : decode cX11_asks 1 = .ok (.bipush 9, 2) ∧ 3 = 1 + 2 := by decide +kernel
theorem d_X11_asks_3 : decode cX11_asks 3 = .ok (.invokevirtual 254, 3) ∧ 6 = 3 + 3 := by decide +kernel
theorem d_X11_asks_6 : decode cX11_asks 6 = .ok (.ifCond .eq 12, 3) ∧ 9 = 6 + 3 ∧ (6 : Int) + 12 = ((18 : Nat) : Int) := by decide +kernel
theorem d_X11_asks_9 : decode cX11_asks 9 = .ok (.aload_n 0, 1) ∧ 10 = 9 + 1 := by decide +kernel
theorem d_X11_asks_10 : decode cX11_asks 10 = .ok (.iconst 3, 1) ∧ 11 = 10 + 1 := by decide +kernel
theorem d_X11_asks_11 : decode cX11_asks 11 = .ok (.invokevirtual 257, 3) ∧ 14 = 11 + 3 := by decide +kernel
theorem d_X11_asks_14 : decode cX11_asks 14 = .ok (.istore_n 1, 1) ∧ 15 = 14 + 1 := by decide +kernel
theorem d_X11_asks_15 : decode cX11_asks 15 = .ok (.goto 13, 3) ∧ (15 : Int) + (13) = ((28 : Nat) : Int) := by decide +kernel
theorem d_X11_asks_18 : decode cX11_asks 18 = .ok (.aload_n 0, 1) ∧ 19 = 18 + 1 := by decide +kernel
theorem d_X11_asks_19 : decode cX11_asks 19 = .ok (.iconst 4, 1) ∧ 20 = 19 + 1 := by decide +kernel
theorem d_X11_asks_20 : decode cX11_asks 20 = .ok (.invokevirtual 234, 3) ∧ 23 = 20 + 3 := by decide +kernel
theorem d_X11_asks_23 : decode cX11_asks 23 = .ok (.aload_n 0, 1) ∧ 24 = 23 + 1 := by decide +kernel
theorem d_X11_asks_24 : decode cX11_asks 24 = .ok (.iconst 1, 1) ∧ 25 = 24 + 1 := by decide +kernel
theorem d_X11_asks_25 : decode cX11_asks 25 = .ok (.putfield 260, 3) ∧ 28 = 25 + 3 := by decide +kernel
theorem d_X11_asks_28 : decode cX11_asks 28 = .ok (.return_, 1) := by decide +kernel
theorem d_X11_mayName_0 : decode cX11_mayName 0 = .ok (.aload_n 0, 1) ∧ 1 = 0 + 1 := by decide +kernel
theorem d_X11_mayName_1 : decode cX11_mayName 1 = .ok (.getfield 263, 3) ∧ 4 = 1 + 3 := by decide +kernel
theorem d_X11_mayName_4 : decode cX11_mayName 4 = .ok (.iconst 3, 1) ∧ 5 = 4 + 1 := by decide +kernel
theorem d_X11_mayName_5 : decode cX11_mayName 5 = .ok (.if_icmp .eq 11, 3) ∧ 8 = 5 + 3 ∧ (5 : Int) + 11 = ((16 : Nat) : Int) := by decide +kernel
theorem d_X11_mayName_8 : decode cX11_mayName 8 = .ok (.aload_n 0, 1) ∧ 9 = 8 + 1 := by decide +kernel
theorem d_X11_mayName_9 : decode cX11_mayName 9 = .ok (.getfield 263, 3) ∧ 12 = 9 + 3 := by decide +kernel
theorem d_X11_mayName_12 : decode cX11_mayName 12 = .ok (.iconst 4, 1) ∧ 13 = 12 + 1 := by decide +kernel
theorem d_X11_mayName_13 : decode cX11_mayName 13 = .ok (.if_icmp .ne 7, 3) ∧ 16 = 13 + 3 ∧ (13 : Int) + 7 = ((20 : Nat) : Int) := by decide +kernel
theorem d_X11_mayName_16 : decode cX11_mayName 16 = .ok (.iconst 1, 1) ∧ 17 = 16 + 1 := by decide +kernel
theorem d_X11_mayName_17 : decode cX11_mayName 17 = .ok (.goto 4, 3) ∧ (17 : Int) + (4) = ((21 : Nat) : Int) := by decide +kernel
theorem d_X11_mayName_20 : decode cX11_mayName 20 = .ok (.iconst 0, 1) ∧ 21 = 20 + 1 := by decide +kernel
theorem d_X11_mayName_21 : decode cX11_mayName 21 = .ok (.istore_n 2, 1) ∧ 22 = 21 + 1 := by decide +kernel
theorem d_X11_mayName_22 : decode cX11_mayName 22 = .ok (.aload_n 0, 1) ∧ 23 = 22 + 1 := by decide +kernel
theorem d_X11_mayName_23 : decode cX11_mayName 23 = .ok (.getfield 263, 3) ∧ 26 = 23 + 3 := by decide +kernel
theorem d_X11_mayName_26 : decode cX11_mayName 26 = .ok (.iconst 2, 1) ∧ 27 = 26 + 1 := by decide +kernel
theorem d_X11_mayName_27 : decode cX11_mayName 27 = .ok (.if_icmp .eq 12, 3) ∧ 30 = 27 + 3 ∧ (27 : Int) + 12 = ((39 : Nat) : Int) := by decide +kernel
theorem d_X11_mayName_30 : decode cX11_mayName 30 = .ok (.aload_n 0, 1) ∧ 31 = 30 + 1 := by decide +kernel
theorem d_X11_mayName_31 : decode cX11_mayName 31 = .ok (.getfield 263, 3) ∧ 34 = 31 + 3 := by decide +kernel
theorem d_X11_mayName_34 : decode cX11_mayName 34 = .ok (.bipush 6, 2) ∧ 36 = 34 + 2 := by decide +kernel
theorem d_X11_mayName_36 : decode cX11_mayName 36 = .ok (.if_icmp .ne 7, 3) ∧ 39 = 36 + 3 ∧ (36 : Int) + 7 = ((43 : Nat) : Int) := by decide +kernel
theorem d_X11_mayName_39 : decode cX11_mayName 39 = .ok (.iconst 1, 1) ∧ 40 = 39 + 1 := by decide +kernel
theorem d_X11_mayName_40 : decode cX11_mayName 40 = .ok (.goto 4, 3) ∧ (40 : Int) + (4) = ((44 : Nat) : Int) := by decide +kernel
theorem d_X11_mayName_43 : decode cX11_mayName 43 = .ok (.iconst 0, 1) ∧ 44 = 43 + 1 := by decide +kernel
theorem d_X11_mayName_44 : decode cX11_mayName 44 = .ok (.istore_n 3, 1) ∧ 45 = 44 + 1 := by decide +kernel
theorem d_X11_mayName_45 : decode cX11_mayName 45 = .ok (.iload_n 1, 1) ∧ 46 = 45 + 1 := by decide +kernel
theorem d_X11_mayName_46 : decode cX11_mayName 46 = .ok (.bipush 14, 2) ∧ 48 = 46 + 2 := by decide +kernel
theorem d_X11_mayName_48 : decode cX11_mayName 48 = .ok (.if_icmp .lt 20, 3) ∧ 51 = 48 + 3 ∧ (48 : Int) + 20 = ((68 : Nat) : Int) := by decide +kernel
theorem d_X11_mayName_51 : decode cX11_mayName 51 = .ok (.iload_n 1, 1) ∧ 52 = 51 + 1 := by decide +kernel
theorem d_X11_mayName_52 : decode cX11_mayName 52 = .ok (.bipush 18, 2) ∧ 54 = 52 + 2 := by decide +kernel
theorem d_X11_mayName_54 : decode cX11_mayName 54 = .ok (.if_icmp .ge 10, 3) ∧ 57 = 54 + 3 ∧ (54 : Int) + 10 = ((64 : Nat) : Int) := by decide +kernel
theorem d_X11_mayName_57 : decode cX11_mayName 57 = .ok (.iload_n 2, 1) ∧ 58 = 57 + 1 := by decide +kernel
theorem d_X11_mayName_58 : decode cX11_mayName 58 = .ok (.ifCond .eq 14, 3) ∧ 61 = 58 + 3 ∧ (58 : Int) + 14 = ((72 : Nat) : Int) := by decide +kernel
theorem d_X11_mayName_61 : decode cX11_mayName 61 = .ok (.goto 7, 3) ∧ (61 : Int) + (7) = ((68 : Nat) : Int) := by decide +kernel
theorem d_X11_mayName_64 : decode cX11_mayName 64 = .ok (.iload_n 3, 1) ∧ 65 = 64 + 1 := by decide +kernel
theorem d_X11_mayName_65 : decode cX11_mayName 65 = .ok (.ifCond .eq 7, 3) ∧ 68 = 65 + 3 ∧ (65 : Int) + 7 = ((72 : Nat) : Int) := by decide +kernel
theorem d_X11_mayName_68 : decode cX11_mayName 68 = .ok (.iconst 1, 1) ∧ 69 = 68 + 1 := by decide +kernel
theorem d_X11_mayName_69 : decode cX11_mayName 69 = .ok (.goto 4, 3) ∧ (69 : Int) + (4) = ((73 : Nat) : Int) := by decide +kernel
theorem d_X11_mayName_72 : decode cX11_mayName 72 = .ok (.iconst 0, 1) ∧ 73 = 72 + 1 := by decide +kernel
theorem d_X11_mayName_73 : decode cX11_mayName 73 = .ok (.ireturn, 1) := by decide +kernel
theorem d_X11_begins_0 : decode cX11_begins 0 = .ok (.aload_n 0, 1) ∧ 1 = 0 + 1 := by decide +kernel
theorem d_X11_begins_1 : decode cX11_begins 1 = .ok (.getfield 200, 3) ∧ 4 = 1 + 3 := by decide +kernel
theorem d_X11_begins_4 : decode cX11_begins 4 = .ok (.iconst 2, 1) ∧ 5 = 4 + 1 := by decide +kernel
theorem d_X11_begins_5 : decode cX11_begins 5 = .ok (.if_icmp .ne 41, 3) ∧ 8 = 5 + 3 ∧ (5 : Int) + 41 = ((46 : Nat) : Int) := by decide +kernel
theorem d_X11_begins_8 : decode cX11_begins 8 = .ok (.aload_n 0, 1) ∧ 9 = 8 + 1 := by decide +kernel
theorem d_X11_begins_9 : decode cX11_begins 9 = .ok (.getfield 212, 3) ∧ 12 = 9 + 3 := by decide +kernel
theorem d_X11_begins_12 : decode cX11_begins 12 = .ok (.sipush 9999, 3) ∧ 15 = 12 + 3 := by decide +kernel
theorem d_X11_begins_15 : decode cX11_begins 15 = .ok (.if_icmp .le 9, 3) ∧ 18 = 15 + 3 ∧ (15 : Int) + 9 = ((24 : Nat) : Int) := by decide +kernel
theorem d_X11_begins_18 : decode cX11_begins 18 = .ok (.aload_n 0, 1) ∧ 19 = 18 + 1 := by decide +kernel
theorem d_X11_begins_19 : decode cX11_begins 19 = .ok (.iconst 2, 1) ∧ 20 = 19 + 1 := by decide +kernel
theorem d_X11_begins_20 : decode cX11_begins 20 = .ok (.invokevirtual 231, 3) ∧ 23 = 20 + 3 := by decide +kernel
theorem d_X11_begins_23 : decode cX11_begins 23 = .ok (.return_, 1) := by decide +kernel
theorem d_X11_begins_24 : decode cX11_begins 24 = .ok (.aload_n 0, 1) ∧ 25 = 24 + 1 := by decide +kernel
theorem d_X11_begins_25 : decode cX11_begins 25 = .ok (.sipush 400, 3) ∧ 28 = 25 + 3 := by decide +kernel
theorem d_X11_begins_28 : decode cX11_begins 28 = .ok (.aload_n 0, 1) ∧ 29 = 28 + 1 := by decide +kernel
theorem d_X11_begins_29 : decode cX11_begins 29 = .ok (.getfield 212, 3) ∧ 32 = 29 + 3 := by decide +kernel
theorem d_X11_begins_32 : decode cX11_begins 32 = .ok (.invokevirtual 247, 3) ∧ 35 = 32 + 3 := by decide +kernel
theorem d_X11_begins_35 : decode cX11_begins 35 = .ok (.aload_n 0, 1) ∧ 36 = 35 + 1 := by decide +kernel
theorem d_X11_begins_36 : decode cX11_begins 36 = .ok (.invokevirtual 237, 3) ∧ 39 = 36 + 3 := by decide +kernel
theorem d_X11_begins_39 : decode cX11_begins 39 = .ok (.aload_n 0, 1) ∧ 40 = 39 + 1 := by decide +kernel
theorem d_X11_begins_40 : decode cX11_begins 40 = .ok (.invokevirtual 266, 3) ∧ 43 = 40 + 3 := by decide +kernel
theorem d_X11_begins_43 : decode cX11_begins 43 = .ok (.goto 107, 3) ∧ (43 : Int) + (107) = ((150 : Nat) : Int) := by decide +kernel
theorem d_X11_begins_46 : decode cX11_begins 46 = .ok (.aload_n 0, 1) ∧ 47 = 46 + 1 := by decide +kernel
theorem d_X11_begins_47 : decode cX11_begins 47 = .ok (.getfield 200, 3) ∧ 50 = 47 + 3 := by decide +kernel
theorem d_X11_begins_50 : decode cX11_begins 50 = .ok (.iconst 1, 1) ∧ 51 = 50 + 1 := by decide +kernel
theorem d_X11_begins_51 : decode cX11_begins 51 = .ok (.if_icmp .ne 56, 3) ∧ 54 = 51 + 3 ∧ (51 : Int) + 56 = ((107 : Nat) : Int) := by decide +kernel
theorem d_X11_begins_54 : decode cX11_begins 54 = .ok (.aload_n 0, 1) ∧ 55 = 54 + 1 := by decide +kernel
theorem d_X11_begins_55 : decode cX11_begins 55 = .ok (.getfield 212, 3) ∧ 58 = 55 + 3 := by decide +kernel
theorem d_X11_begins_58 : decode cX11_begins 58 = .ok (.bipush 9, 2) ∧ 60 = 58 + 2 := by decide +kernel
theorem d_X11_begins_60 : decode cX11_begins 60 = .ok (.if_icmp .le 47, 3) ∧ 63 = 60 + 3 ∧ (60 : Int) + 47 = ((107 : Nat) : Int) := by decide +kernel
theorem d_X11_begins_63 : decode cX11_begins 63 = .ok (.aload_n 0, 1) ∧ 64 = 63 + 1 := by decide +kernel
theorem d_X11_begins_64 : decode cX11_begins 64 = .ok (.aload_n 0, 1) ∧ 65 = 64 + 1 := by decide +kernel
theorem d_X11_begins_65 : decode cX11_begins 65 = .ok (.getfield 212, 3) ∧ 68 = 65 + 3 := by decide +kernel
theorem d_X11_begins_68 : decode cX11_begins 68 = .ok (.invokevirtual 269, 3) ∧ 71 = 68 + 3 := by decide +kernel
theorem d_X11_begins_71 : decode cX11_begins 71 = .ok (.ifCond .ne 9, 3) ∧ 74 = 71 + 3 ∧ (71 : Int) + 9 = ((80 : Nat) : Int) := by decide +kernel
theorem d_X11_begins_74 : decode cX11_begins 74 = .ok (.aload_n 0, 1) ∧ 75 = 74 + 1 := by decide +kernel
theorem d_X11_begins_75 : decode cX11_begins 75 = .ok (.iconst 5, 1) ∧ 76 = 75 + 1 := by decide +kernel
theorem d_X11_begins_76 : decode cX11_begins 76 = .ok (.invokevirtual 231, 3) ∧ 79 = 76 + 3 := by decide +kernel
theorem d_X11_begins_79 : decode cX11_begins 79 = .ok (.return_, 1) := by decide +kernel
theorem d_X11_begins_80 : decode cX11_begins 80 = .ok (.aload_n 0, 1) ∧ 81 = 80 + 1 := by decide +kernel
theorem d_X11_begins_81 : decode cX11_begins 81 = .ok (.sipush 401, 3) ∧ 84 = 81 + 3 := by decide +kernel
theorem d_X11_begins_84 : decode cX11_begins 84 = .ok (.aload_n 0, 1) ∧ 85 = 84 + 1 := by decide +kernel
theorem d_X11_begins_85 : decode cX11_begins 85 = .ok (.getfield 212, 3) ∧ 88 = 85 + 3 := by decide +kernel
theorem d_X11_begins_88 : decode cX11_begins 88 = .ok (.bipush 9, 2) ∧ 90 = 88 + 2 := by decide +kernel
theorem d_X11_begins_90 : decode cX11_begins 90 = .ok (.isub, 1) ∧ 91 = 90 + 1 := by decide +kernel
theorem d_X11_begins_91 : decode cX11_begins 91 = .ok (.iconst 1, 1) ∧ 92 = 91 + 1 := by decide +kernel
theorem d_X11_begins_92 : decode cX11_begins 92 = .ok (.isub, 1) ∧ 93 = 92 + 1 := by decide +kernel
theorem d_X11_begins_93 : decode cX11_begins 93 = .ok (.invokevirtual 247, 3) ∧ 96 = 93 + 3 := by decide +kernel
theorem d_X11_begins_96 : decode cX11_begins 96 = .ok (.aload_n 0, 1) ∧ 97 = 96 + 1 := by decide +kernel
theorem d_X11_begins_97 : decode cX11_begins 97 = .ok (.invokevirtual 237, 3) ∧ 100 = 97 + 3 := by decide +kernel
theorem d_X11_begins_100 : decode cX11_begins 100 = .ok (.aload_n 0, 1) ∧ 101 = 100 + 1 := by decide +kernel
theorem d_X11_begins_101 : decode cX11_begins 101 = .ok (.invokevirtual 266, 3) ∧ 104 = 101 + 3 := by decide +kernel
theorem d_X11_begins_104 : decode cX11_begins 104 = .ok (.goto 46, 3) ∧ (104 : Int) + (46) = ((150 : Nat) : Int) := by decide +kernel
theorem d_X11_begins_107 : decode cX11_begins 107 = .ok (.aload_n 0, 1) ∧ 108 = 107 + 1 := by decide +kernel
theorem d_X11_begins_108 : decode cX11_begins 108 = .ok (.bipush 40, 2) ∧ 110 = 108 + 2 := by decide +kernel
theorem d_X11_begins_110 : decode cX11_begins 110 = .ok (.invokevirtual 272, 3) ∧ 113 = 110 + 3 := by decide +kernel
theorem d_X11_begins_113 : decode cX11_begins 113 = .ok (.ifCond .eq 13, 3) ∧ 116 = 113 + 3 ∧ (113 : Int) + 13 = ((126 : Nat) : Int) := by decide +kernel
theorem d_X11_begins_116 : decode cX11_begins 116 = .ok (.aload_n 0, 1) ∧ 117 = 116 + 1 := by decide +kernel
theorem d_X11_begins_117 : decode cX11_begins 117 = .ok (.bipush 6, 2) ∧ 119 = 117 + 2 := by decide +kernel
theorem d_X11_begins_119 : decode cX11_begins 119 = .ok (.invokevirtual 257, 3) ∧ 122 = 119 + 3 := by decide +kernel
theorem d_X11_begins_122 : decode cX11_begins 122 = .ok (.istore_n 1, 1) ∧ 123 = 122 + 1 := by decide +kernel
theorem d_X11_begins_123 : decode cX11_begins 123 = .ok (.goto 27, 3) ∧ (123 : Int) + (27) = ((150 : Nat) : Int) := by decide +kernel
theorem d_X11_begins_126 : decode cX11_begins 126 = .ok (.aload_n 0, 1) ∧ 127 = 126 + 1 := by decide +kernel
theorem d_X11_begins_127 : decode cX11_begins 127 = .ok (.bipush 45, 2) ∧ 129 = 127 + 2 := by decide +kernel
theorem d_X11_begins_129 : decode cX11_begins 129 = .ok (.invokevirtual 272, 3) ∧ 132 = 129 + 3 := by decide +kernel
theorem d_X11_begins_132 : decode cX11_begins 132 = .ok (.ifCond .eq 13, 3) ∧ 135 = 132 + 3 ∧ (132 : Int) + 13 = ((145 : Nat) : Int) := by decide +kernel
theorem d_X11_begins_135 : decode cX11_begins 135 = .ok (.aload_n 0, 1) ∧ 136 = 135 + 1 := by decide +kernel
theorem d_X11_begins_136 : decode cX11_begins 136 = .ok (.bipush 7, 2) ∧ 138 = 136 + 2 := by decide +kernel
theorem d_X11_begins_138 : decode cX11_begins 138 = .ok (.invokevirtual 257, 3) ∧ 141 = 138 + 3 := by decide +kernel
theorem d_X11_begins_141 : decode cX11_begins 141 = .ok (.istore_n 1, 1) ∧ 142 = 141 + 1 := by decide +kernel
theorem d_X11_begins_142 : decode cX11_begins 142 = .ok (.goto 8, 3) ∧ (142 : Int) + (8) = ((150 : Nat) : Int) := by decide +kernel
theorem d_X11_begins_145 : decode cX11_begins 145 = .ok (.aload_n 0, 1) ∧ 146 = 145 + 1 := by decide +kernel
theorem d_X11_begins_146 : decode cX11_begins 146 = .ok (.iconst 1, 1) ∧ 147 = 146 + 1 := by decide +kernel
theorem d_X11_begins_147 : decode cX11_begins 147 = .ok (.invokevirtual 231, 3) ∧ 150 = 147 + 3 := by decide +kernel
theorem d_X11_begins_150 : decode cX11_begins 150 = .ok (.return_, 1) := by decide +kernel
theorem d_X11_oneIsOver_0 : decode cX11_oneIsOver 0 = .ok (.aload_n 0, 1) ∧ 1 = 0 + 1 := by decide +kernel
theorem d_X11_oneIsOver_1 : decode cX11_oneIsOver 1 = .ok (.invokevirtual 275, 3) ∧ 4 = 1 + 3 := by decide +kernel
theorem d_X11_oneIsOver_4 : decode cX11_oneIsOver 4 = .ok (.bipush 7, 2) ∧ 6 = 4 + 2 := by decide +kernel
theorem d_X11_oneIsOver_6 : decode cX11_oneIsOver 6 = .ok (.if_icmp .ne 34, 3) ∧ 9 = 6 + 3 ∧ (6 : Int) + 34 = ((40 : Nat) : Int) := by decide +kernel
theorem d_X11_oneIsOver_9 : decode cX11_oneIsOver 9 = .ok (.aload_n 0, 1) ∧ 10 = 9 + 1 := by decide +kernel
theorem d_X11_oneIsOver_10 : decode cX11_oneIsOver 10 = .ok (.dup, 1) ∧ 11 = 10 + 1 := by decide +kernel
theorem d_X11_oneIsOver_11 : decode cX11_oneIsOver 11 = .ok (.getfield 225, 3) ∧ 14 = 11 + 3 := by decide +kernel
theorem d_X11_oneIsOver_14 : decode cX11_oneIsOver 14 = .ok (.iconst 1, 1) ∧ 15 = 14 + 1 := by decide +kernel
theorem d_X11_oneIsOver_15 : decode cX11_oneIsOver 15 = .ok (.isub, 1) ∧ 16 = 15 + 1 := by decide +kernel
theorem d_X11_oneIsOver_16 : decode cX11_oneIsOver 16 = .ok (.putfield 225, 3) ∧ 19 = 16 + 3 := by decide +kernel
theorem d_X11_oneIsOver_19 : decode cX11_oneIsOver 19 = .ok (.aload_n 0, 1) ∧ 20 = 19 + 1 := by decide +kernel
theorem d_X11_oneIsOver_20 : decode cX11_oneIsOver 20 = .ok (.dup, 1) ∧ 21 = 20 + 1 := by decide +kernel
theorem d_X11_oneIsOver_21 : decode cX11_oneIsOver 21 = .ok (.getfield 228, 3) ∧ 24 = 21 + 3 := by decide +kernel
theorem d_X11_oneIsOver_24 : decode cX11_oneIsOver 24 = .ok (.iconst 1, 1) ∧ 25 = 24 + 1 := by decide +kernel
theorem d_X11_oneIsOver_25 : decode cX11_oneIsOver 25 = .ok (.isub, 1) ∧ 26 = 25 + 1 := by decide +kernel
theorem d_X11_oneIsOver_26 : decode cX11_oneIsOver 26 = .ok (.putfield 228, 3) ∧ 29 = 26 + 3 := by decide +kernel
theorem d_X11_oneIsOver_29 : decode cX11_oneIsOver 29 = .ok (.aload_n 0, 1) ∧ 30 = 29 + 1 := by decide +kernel
theorem d_X11_oneIsOver_30 : decode cX11_oneIsOver 30 = .ok (.sipush 402, 3) ∧ 33 = 30 + 3 := by decide +kernel
theorem d_X11_oneIsOver_33 : decode cX11_oneIsOver 33 = .ok (.iconst 0, 1) ∧ 34 = 33 + 1 := by decide +kernel
theorem d_X11_oneIsOver_34 : decode cX11_oneIsOver 34 = .ok (.invokevirtual 247, 3) ∧ 37 = 34 + 3 := by decide +kernel
theorem d_X11_oneIsOver_37 : decode cX11_oneIsOver 37 = .ok (.goto (-37), 3) ∧ (37 : Int) + ((-37)) = ((0 : Nat) : Int) := by decide +kernel
theorem d_X11_oneIsOver_40 : decode cX11_oneIsOver 40 = .ok (.aload_n 0, 1) ∧ 41 = 40 + 1 := by decide +kernel
theorem d_X11_oneIsOver_41 : decode cX11_oneIsOver 41 = .ok (.iconst 2, 1) ∧ 42 = 41 + 1 := by decide +kernel
theorem d_X11_oneIsOver_42 : decode cX11_oneIsOver 42 = .ok (.putfield 260, 3) ∧ 45 = 42 + 3 := by decide +kernel
theorem d_X11_oneIsOver_45 : decode cX11_oneIsOver 45 = .ok (.return_, 1) := by decide +kernel
theorem d_X11_askIsOver_0 : decode cX11_askIsOver 0 = .ok (.aload_n 0, 1) ∧ 1 = 0 + 1 := by decide +kernel
theorem d_X11_askIsOver_1 : decode cX11_askIsOver 1 = .ok (.invokevirtual 275, 3) ∧ 4 = 1 + 3 := by decide +kernel
theorem d_X11_askIsOver_4 : decode cX11_askIsOver 4 = .ok (.iconst 3, 1) ∧ 5 = 4 + 1 := by decide +kernel
theorem d_X11_askIsOver_5 : decode cX11_askIsOver 5 = .ok (.if_icmp .ne 34, 3) ∧ 8 = 5 + 3 ∧ (5 : Int) + 34 = ((39 : Nat) : Int) := by decide +kernel
theorem d_X11_askIsOver_8 : decode cX11_askIsOver 8 = .ok (.aload_n 0, 1) ∧ 9 = 8 + 1 := by decide +kernel
theorem d_X11_askIsOver_9 : decode cX11_askIsOver 9 = .ok (.dup, 1) ∧ 10 = 9 + 1 := by decide +kernel
theorem d_X11_askIsOver_10 : decode cX11_askIsOver 10 = .ok (.getfield 225, 3) ∧ 13 = 10 + 3 := by decide +kernel
theorem d_X11_askIsOver_13 : decode cX11_askIsOver 13 = .ok (.iconst 1, 1) ∧ 14 = 13 + 1 := by decide +kernel
theorem d_X11_askIsOver_14 : decode cX11_askIsOver 14 = .ok (.isub, 1) ∧ 15 = 14 + 1 := by decide +kernel
theorem d_X11_askIsOver_15 : decode cX11_askIsOver 15 = .ok (.putfield 225, 3) ∧ 18 = 15 + 3 := by decide +kernel
theorem d_X11_askIsOver_18 : decode cX11_askIsOver 18 = .ok (.aload_n 0, 1) ∧ 19 = 18 + 1 := by decide +kernel
theorem d_X11_askIsOver_19 : decode cX11_askIsOver 19 = .ok (.dup, 1) ∧ 20 = 19 + 1 := by decide +kernel
theorem d_X11_askIsOver_20 : decode cX11_askIsOver 20 = .ok (.getfield 228, 3) ∧ 23 = 20 + 3 := by decide +kernel
theorem d_X11_askIsOver_23 : decode cX11_askIsOver 23 = .ok (.iconst 1, 1) ∧ 24 = 23 + 1 := by decide +kernel
theorem d_X11_askIsOver_24 : decode cX11_askIsOver 24 = .ok (.isub, 1) ∧ 25 = 24 + 1 := by decide +kernel
theorem d_X11_askIsOver_25 : decode cX11_askIsOver 25 = .ok (.putfield 228, 3) ∧ 28 = 25 + 3 := by decide +kernel
theorem d_X11_askIsOver_28 : decode cX11_askIsOver 28 = .ok (.aload_n 0, 1) ∧ 29 = 28 + 1 := by decide +kernel
theorem d_X11_askIsOver_29 : decode cX11_askIsOver 29 = .ok (.sipush 405, 3) ∧ 32 = 29 + 3 := by decide +kernel
theorem d_X11_askIsOver_32 : decode cX11_askIsOver 32 = .ok (.iconst 0, 1) ∧ 33 = 32 + 1 := by decide +kernel
theorem d_X11_askIsOver_33 : decode cX11_askIsOver 33 = .ok (.invokevirtual 247, 3) ∧ 36 = 33 + 3 := by decide +kernel
theorem d_X11_askIsOver_36 : decode cX11_askIsOver 36 = .ok (.goto (-36), 3) ∧ (36 : Int) + ((-36)) = ((0 : Nat) : Int) := by decide +kernel
theorem d_X11_askIsOver_39 : decode cX11_askIsOver 39 = .ok (.aload_n 0, 1) ∧ 40 = 39 + 1 := by decide +kernel
theorem d_X11_askIsOver_40 : decode cX11_askIsOver 40 = .ok (.iconst 3, 1) ∧ 41 = 40 + 1 := by decide +kernel
theorem d_X11_askIsOver_41 : decode cX11_askIsOver 41 = .ok (.putfield 260, 3) ∧ 44 = 41 + 3 := by decide +kernel
theorem d_X11_askIsOver_44 : decode cX11_askIsOver 44 = .ok (.return_, 1) := by decide +kernel
theorem d_X11_isAsking_0 : decode cX11_isAsking 0 = .ok (.iload_n 0, 1) ∧ 1 = 0 + 1 := by decide +kernel
theorem d_X11_isAsking_1 : decode cX11_isAsking 1 = .ok (.bipush 60, 2) ∧ 3 = 1 + 2 := by decide +kernel
theorem d_X11_isAsking_3 : decode cX11_isAsking 3 = .ok (.if_icmp .eq 35, 3) ∧ 6 = 3 + 3 ∧ (3 : Int) + 35 = ((38 : Nat) : Int) := by decide +kernel
theorem d_X11_isAsking_6 : decode cX11_isAsking 6 = .ok (.iload_n 0, 1) ∧ 7 = 6 + 1 := by decide +kernel
theorem d_X11_isAsking_7 : decode cX11_isAsking 7 = .ok (.bipush 62, 2) ∧ 9 = 7 + 2 := by decide +kernel
theorem d_X11_isAsking_9 : decode cX11_isAsking 9 = .ok (.if_icmp .eq 29, 3) ∧ 12 = 9 + 3 ∧ (9 : Int) + 29 = ((38 : Nat) : Int) := by decide +kernel
theorem d_X11_isAsking_12 : decode cX11_isAsking 12 = .ok (.iload_n 0, 1) ∧ 13 = 12 + 1 := by decide +kernel
theorem d_X11_isAsking_13 : decode cX11_isAsking 13 = .ok (.bipush 61, 2) ∧ 15 = 13 + 2 := by decide +kernel
theorem d_X11_isAsking_15 : decode cX11_isAsking 15 = .ok (.if_icmp .eq 23, 3) ∧ 18 = 15 + 3 ∧ (15 : Int) + 23 = ((38 : Nat) : Int) := by decide +kernel
theorem d_X11_isAsking_18 : decode cX11_isAsking 18 = .ok (.iload_n 0, 1) ∧ 19 = 18 + 1 := by decide +kernel
theorem d_X11_isAsking_19 : decode cX11_isAsking 19 = .ok (.bipush 35, 2) ∧ 21 = 19 + 2 := by decide +kernel
theorem d_X11_isAsking_21 : decode cX11_isAsking 21 = .ok (.if_icmp .eq 17, 3) ∧ 24 = 21 + 3 ∧ (21 : Int) + 17 = ((38 : Nat) : Int) := by decide +kernel
theorem d_X11_isAsking_24 : decode cX11_isAsking 24 = .ok (.iload_n 0, 1) ∧ 25 = 24 + 1 := by decide +kernel
theorem d_X11_isAsking_25 : decode cX11_isAsking 25 = .ok (.sipush 300, 3) ∧ 28 = 25 + 3 := by decide +kernel
theorem d_X11_isAsking_28 : decode cX11_isAsking 28 = .ok (.if_icmp .eq 10, 3) ∧ 31 = 28 + 3 ∧ (28 : Int) + 10 = ((38 : Nat) : Int) := by decide +kernel
theorem d_X11_isAsking_31 : decode cX11_isAsking 31 = .ok (.iload_n 0, 1) ∧ 32 = 31 + 1 := by decide +kernel
theorem d_X11_isAsking_32 : decode cX11_isAsking 32 = .ok (.sipush 301, 3) ∧ 35 = 32 + 3 := by decide +kernel
theorem d_X11_isAsking_35 : decode cX11_isAsking 35 = .ok (.if_icmp .ne 7, 3) ∧ 38 = 35 + 3 ∧ (35 : Int) + 7 = ((42 : Nat) : Int) := by decide +kernel
theorem d_X11_isAsking_38 : decode cX11_isAsking 38 = .ok (.iconst 1, 1) ∧ 39 = 38 + 1 := by decide +kernel
theorem d_X11_isAsking_39 : decode cX11_isAsking 39 = .ok (.goto 4, 3) ∧ (39 : Int) + (4) = ((43 : Nat) : Int) := by decide +kernel
theorem d_X11_isAsking_42 : decode cX11_isAsking 42 = .ok (.iconst 0, 1) ∧ 43 = 42 + 1 := by decide +kernel
theorem d_X11_isAsking_43 : decode cX11_isAsking 43 = .ok (.ireturn, 1) := by decide +kernel
theorem d_X11_goesOn_0 : decode cX11_goesOn 0 = .ok (.aload_n 0, 1) ∧ 1 = 0 + 1 := by decide +kernel
theorem d_X11_goesOn_1 : decode cX11_goesOn 1 = .ok (.invokevirtual 275, 3) ∧ 4 = 1 + 3 := by decide +kernel
theorem d_X11_goesOn_4 : decode cX11_goesOn 4 = .ok (.istore_n 1, 1) ∧ 5 = 4 + 1 := by decide +kernel
theorem d_X11_goesOn_5 : decode cX11_goesOn 5 = .ok (.aload_n 0, 1) ∧ 6 = 5 + 1 := by decide +kernel
theorem d_X11_goesOn_6 : decode cX11_goesOn 6 = .ok (.getfield 200, 3) ∧ 9 = 6 + 3 := by decide +kernel
theorem d_X11_goesOn_9 : decode cX11_goesOn 9 = .ok (.iconst 3, 1) ∧ 10 = 9 + 1 := by decide +kernel
theorem d_X11_goesOn_10 : decode cX11_goesOn 10 = .ok (.if_icmp .ne 55, 3) ∧ 13 = 10 + 3 ∧ (10 : Int) + 55 = ((65 : Nat) : Int) := by decide +kernel
theorem d_X11_goesOn_13 : decode cX11_goesOn 13 = .ok (.aload_n 0, 1) ∧ 14 = 13 + 1 := by decide +kernel
theorem d_X11_goesOn_14 : decode cX11_goesOn 14 = .ok (.getfield 212, 3) ∧ 17 = 14 + 3 := by decide +kernel
theorem d_X11_goesOn_17 : decode cX11_goesOn 17 = .ok (.bipush 43, 2) ∧ 19 = 17 + 2 := by decide +kernel
theorem d_X11_goesOn_19 : decode cX11_goesOn 19 = .ok (.if_icmp .eq 30, 3) ∧ 22 = 19 + 3 ∧ (19 : Int) + 30 = ((49 : Nat) : Int) := by decide +kernel
theorem d_X11_goesOn_22 : decode cX11_goesOn 22 = .ok (.aload_n 0, 1) ∧ 23 = 22 + 1 := by decide +kernel
theorem d_X11_goesOn_23 : decode cX11_goesOn 23 = .ok (.getfield 212, 3) ∧ 26 = 23 + 3 := by decide +kernel
theorem d_X11_goesOn_26 : decode cX11_goesOn 26 = .ok (.bipush 45, 2) ∧ 28 = 26 + 2 := by decide +kernel
theorem d_X11_goesOn_28 : decode cX11_goesOn 28 = .ok (.if_icmp .eq 21, 3) ∧ 31 = 28 + 3 ∧ (28 : Int) + 21 = ((49 : Nat) : Int) := by decide +kernel
theorem d_X11_goesOn_31 : decode cX11_goesOn 31 = .ok (.aload_n 0, 1) ∧ 32 = 31 + 1 := by decide +kernel
theorem d_X11_goesOn_32 : decode cX11_goesOn 32 = .ok (.getfield 212, 3) ∧ 35 = 32 + 3 := by decide +kernel
theorem d_X11_goesOn_35 : decode cX11_goesOn 35 = .ok (.bipush 42, 2) ∧ 37 = 35 + 2 := by decide +kernel
theorem d_X11_goesOn_37 : decode cX11_goesOn 37 = .ok (.if_icmp .eq 12, 3) ∧ 40 = 37 + 3 ∧ (37 : Int) + 12 = ((49 : Nat) : Int) := by decide +kernel
theorem d_X11_goesOn_40 : decode cX11_goesOn 40 = .ok (.aload_n 0, 1) ∧ 41 = 40 + 1 := by decide +kernel
theorem d_X11_goesOn_41 : decode cX11_goesOn 41 = .ok (.getfield 212, 3) ∧ 44 = 41 + 3 := by decide +kernel
theorem d_X11_goesOn_44 : decode cX11_goesOn 44 = .ok (.bipush 47, 2) ∧ 46 = 44 + 2 := by decide +kernel
theorem d_X11_goesOn_46 : decode cX11_goesOn 46 = .ok (.if_icmp .ne 19, 3) ∧ 49 = 46 + 3 ∧ (46 : Int) + 19 = ((65 : Nat) : Int) := by decide +kernel
theorem d_X11_goesOn_49 : decode cX11_goesOn 49 = .ok (.aload_n 0, 1) ∧ 50 = 49 + 1 := by decide +kernel
theorem d_X11_goesOn_50 : decode cX11_goesOn 50 = .ok (.aload_n 0, 1) ∧ 51 = 50 + 1 := by decide +kernel
theorem d_X11_goesOn_51 : decode cX11_goesOn 51 = .ok (.getfield 212, 3) ∧ 54 = 51 + 3 := by decide +kernel
theorem d_X11_goesOn_54 : decode cX11_goesOn 54 = .ok (.invokevirtual 278, 3) ∧ 57 = 54 + 3 := by decide +kernel
theorem d_X11_goesOn_57 : decode cX11_goesOn 57 = .ok (.aload_n 0, 1) ∧ 58 = 57 + 1 := by decide +kernel
theorem d_X11_goesOn_58 : decode cX11_goesOn 58 = .ok (.iconst 1, 1) ∧ 59 = 58 + 1 := by decide +kernel
theorem d_X11_goesOn_59 : decode cX11_goesOn 59 = .ok (.putfield 260, 3) ∧ 62 = 59 + 3 := by decide +kernel
theorem d_X11_goesOn_62 : decode cX11_goesOn 62 = .ok (.goto 188, 3) ∧ (62 : Int) + (188) = ((250 : Nat) : Int) := by decide +kernel
theorem d_X11_goesOn_65 : decode cX11_goesOn 65 = .ok (.iload_n 1, 1) ∧ 66 = 65 + 1 := by decide +kernel
theorem d_X11_goesOn_66 : decode cX11_goesOn 66 = .ok (.bipush 6, 2) ∧ 68 = 66 + 2 := by decide +kernel
theorem d_X11_goesOn_68 : decode cX11_goesOn 68 = .ok (.if_icmp .ne 48, 3) ∧ 71 = 68 + 3 ∧ (68 : Int) + 48 = ((116 : Nat) : Int) := by decide +kernel
theorem d_X11_goesOn_71 : decode cX11_goesOn 71 = .ok (.aload_n 0, 1) ∧ 72 = 71 + 1 := by decide +kernel
theorem d_X11_goesOn_72 : decode cX11_goesOn 72 = .ok (.bipush 41, 2) ∧ 74 = 72 + 2 := by decide +kernel
theorem d_X11_goesOn_74 : decode cX11_goesOn 74 = .ok (.invokevirtual 272, 3) ∧ 77 = 74 + 3 := by decide +kernel
theorem d_X11_goesOn_77 : decode cX11_goesOn 77 = .ok (.ifCond .eq 39, 3) ∧ 80 = 77 + 3 ∧ (77 : Int) + 39 = ((116 : Nat) : Int) := by decide +kernel
theorem d_X11_goesOn_80 : decode cX11_goesOn 80 = .ok (.aload_n 0, 1) ∧ 81 = 80 + 1 := by decide +kernel
theorem d_X11_goesOn_81 : decode cX11_goesOn 81 = .ok (.iconst 3, 1) ∧ 82 = 81 + 1 := by decide +kernel
theorem d_X11_goesOn_82 : decode cX11_goesOn 82 = .ok (.invokevirtual 251, 3) ∧ 85 = 82 + 3 := by decide +kernel
theorem d_X11_goesOn_85 : decode cX11_goesOn 85 = .ok (.aload_n 0, 1) ∧ 86 = 85 + 1 := by decide +kernel
theorem d_X11_goesOn_86 : decode cX11_goesOn 86 = .ok (.dup, 1) ∧ 87 = 86 + 1 := by decide +kernel
theorem d_X11_goesOn_87 : decode cX11_goesOn 87 = .ok (.getfield 225, 3) ∧ 90 = 87 + 3 := by decide +kernel
theorem d_X11_goesOn_90 : decode cX11_goesOn 90 = .ok (.iconst 1, 1) ∧ 91 = 90 + 1 := by decide +kernel
theorem d_X11_goesOn_91 : decode cX11_goesOn 91 = .ok (.isub, 1) ∧ 92 = 91 + 1 := by decide +kernel
theorem d_X11_goesOn_92 : decode cX11_goesOn 92 = .ok (.putfield 225, 3) ∧ 95 = 92 + 3 := by decide +kernel
theorem d_X11_goesOn_95 : decode cX11_goesOn 95 = .ok (.aload_n 0, 1) ∧ 96 = 95 + 1 := by decide +kernel
theorem d_X11_goesOn_96 : decode cX11_goesOn 96 = .ok (.dup, 1) ∧ 97 = 96 + 1 := by decide +kernel
theorem d_X11_goesOn_97 : decode cX11_goesOn 97 = .ok (.getfield 228, 3) ∧ 100 = 97 + 3 := by decide +kernel
theorem d_X11_goesOn_100 : decode cX11_goesOn 100 = .ok (.iconst 1, 1) ∧ 101 = 100 + 1 := by decide +kernel
theorem d_X11_goesOn_101 : decode cX11_goesOn 101 = .ok (.isub, 1) ∧ 102 = 101 + 1 := by decide +kernel
theorem d_X11_goesOn_102 : decode cX11_goesOn 102 = .ok (.putfield 228, 3) ∧ 105 = 102 + 3 := by decide +kernel
theorem d_X11_goesOn_105 : decode cX11_goesOn 105 = .ok (.aload_n 0, 1) ∧ 106 = 105 + 1 := by decide +kernel
theorem d_X11_goesOn_106 : decode cX11_goesOn 106 = .ok (.invokevirtual 237, 3) ∧ 109 = 106 + 3 := by decide +kernel
theorem d_X11_goesOn_109 : decode cX11_goesOn 109 = .ok (.aload_n 0, 1) ∧ 110 = 109 + 1 := by decide +kernel
theorem d_X11_goesOn_110 : decode cX11_goesOn 110 = .ok (.invokevirtual 266, 3) ∧ 113 = 110 + 3 := by decide +kernel
theorem d_X11_goesOn_113 : decode cX11_goesOn 113 = .ok (.goto 137, 3) ∧ (113 : Int) + (137) = ((250 : Nat) : Int) := by decide +kernel
theorem d_X11_goesOn_116 : decode cX11_goesOn 116 = .ok (.iload_n 1, 1) ∧ 117 = 116 + 1 := by decide +kernel
theorem d_X11_goesOn_117 : decode cX11_goesOn 117 = .ok (.iconst 4, 1) ∧ 118 = 117 + 1 := by decide +kernel
theorem d_X11_goesOn_118 : decode cX11_goesOn 118 = .ok (.if_icmp .ne 63, 3) ∧ 121 = 118 + 3 ∧ (118 : Int) + 63 = ((181 : Nat) : Int) := by decide +kernel
theorem d_X11_goesOn_121 : decode cX11_goesOn 121 = .ok (.aload_n 0, 1) ∧ 122 = 121 + 1 := by decide +kernel
theorem d_X11_goesOn_122 : decode cX11_goesOn 122 = .ok (.getfield 200, 3) ∧ 125 = 122 + 3 := by decide +kernel
theorem d_X11_goesOn_125 : decode cX11_goesOn 125 = .ok (.iconst 3, 1) ∧ 126 = 125 + 1 := by decide +kernel
theorem d_X11_goesOn_126 : decode cX11_goesOn 126 = .ok (.if_icmp .ne 55, 3) ∧ 129 = 126 + 3 ∧ (126 : Int) + 55 = ((181 : Nat) : Int) := by decide +kernel
theorem d_X11_goesOn_129 : decode cX11_goesOn 129 = .ok (.aload_n 0, 1) ∧ 130 = 129 + 1 := by decide +kernel
theorem d_X11_goesOn_130 : decode cX11_goesOn 130 = .ok (.getfield 212, 3) ∧ 133 = 130 + 3 := by decide +kernel
theorem d_X11_goesOn_133 : decode cX11_goesOn 133 = .ok (.invokestatic 281, 3) ∧ 136 = 133 + 3 := by decide +kernel
theorem d_X11_goesOn_136 : decode cX11_goesOn 136 = .ok (.ifCond .eq 45, 3) ∧ 139 = 136 + 3 ∧ (136 : Int) + 45 = ((181 : Nat) : Int) := by decide +kernel
theorem d_X11_goesOn_139 : decode cX11_goesOn 139 = .ok (.aload_n 0, 1) ∧ 140 = 139 + 1 := by decide +kernel
theorem d_X11_goesOn_140 : decode cX11_goesOn 140 = .ok (.iconst 3, 1) ∧ 141 = 140 + 1 := by decide +kernel
theorem d_X11_goesOn_141 : decode cX11_goesOn 141 = .ok (.invokevirtual 251, 3) ∧ 144 = 141 + 3 := by decide +kernel
theorem d_X11_goesOn_144 : decode cX11_goesOn 144 = .ok (.aload_n 0, 1) ∧ 145 = 144 + 1 := by decide +kernel
theorem d_X11_goesOn_145 : decode cX11_goesOn 145 = .ok (.getfield 48, 3) ∧ 148 = 145 + 3 := by decide +kernel
theorem d_X11_goesOn_148 : decode cX11_goesOn 148 = .ok (.aload_n 0, 1) ∧ 149 = 148 + 1 := by decide +kernel
theorem d_X11_goesOn_149 : decode cX11_goesOn 149 = .ok (.getfield 225, 3) ∧ 152 = 149 + 3 := by decide +kernel
theorem d_X11_goesOn_152 : decode cX11_goesOn 152 = .ok (.aload_n 0, 1) ∧ 153 = 152 + 1 := by decide +kernel
theorem d_X11_goesOn_153 : decode cX11_goesOn 153 = .ok (.getfield 212, 3) ∧ 156 = 153 + 3 := by decide +kernel
theorem d_X11_goesOn_156 : decode cX11_goesOn 156 = .ok (.iastore, 1) ∧ 157 = 156 + 1 := by decide +kernel
theorem d_X11_goesOn_157 : decode cX11_goesOn 157 = .ok (.aload_n 0, 1) ∧ 158 = 157 + 1 := by decide +kernel
theorem d_X11_goesOn_158 : decode cX11_goesOn 158 = .ok (.getfield 45, 3) ∧ 161 = 158 + 3 := by decide +kernel
theorem d_X11_goesOn_161 : decode cX11_goesOn 161 = .ok (.aload_n 0, 1) ∧ 162 = 161 + 1 := by decide +kernel
theorem d_X11_goesOn_162 : decode cX11_goesOn 162 = .ok (.getfield 225, 3) ∧ 165 = 162 + 3 := by decide +kernel
theorem d_X11_goesOn_165 : decode cX11_goesOn 165 = .ok (.iconst 1, 1) ∧ 166 = 165 + 1 := by decide +kernel
theorem d_X11_goesOn_166 : decode cX11_goesOn 166 = .ok (.isub, 1) ∧ 167 = 166 + 1 := by decide +kernel
theorem d_X11_goesOn_167 : decode cX11_goesOn 167 = .ok (.iconst 5, 1) ∧ 168 = 167 + 1 := by decide +kernel
theorem d_X11_goesOn_168 : decode cX11_goesOn 168 = .ok (.iastore, 1) ∧ 169 = 168 + 1 := by decide +kernel
theorem d_X11_goesOn_169 : decode cX11_goesOn 169 = .ok (.aload_n 0, 1) ∧ 170 = 169 + 1 := by decide +kernel
theorem d_X11_goesOn_170 : decode cX11_goesOn 170 = .ok (.invokevirtual 237, 3) ∧ 173 = 170 + 3 := by decide +kernel
theorem d_X11_goesOn_173 : decode cX11_goesOn 173 = .ok (.aload_n 0, 1) ∧ 174 = 173 + 1 := by decide +kernel
theorem d_X11_goesOn_174 : decode cX11_goesOn 174 = .ok (.iconst 1, 1) ∧ 175 = 174 + 1 := by decide +kernel
theorem d_X11_goesOn_175 : decode cX11_goesOn 175 = .ok (.putfield 260, 3) ∧ 178 = 175 + 3 := by decide +kernel
theorem d_X11_goesOn_178 : decode cX11_goesOn 178 = .ok (.goto 72, 3) ∧ (178 : Int) + (72) = ((250 : Nat) : Int) := by decide +kernel
theorem d_X11_goesOn_181 : decode cX11_goesOn 181 = .ok (.iload_n 1, 1) ∧ 182 = 181 + 1 := by decide +kernel
theorem d_X11_goesOn_182 : decode cX11_goesOn 182 = .ok (.iconst 5, 1) ∧ 183 = 182 + 1 := by decide +kernel
theorem d_X11_goesOn_183 : decode cX11_goesOn 183 = .ok (.if_icmp .ne 41, 3) ∧ 186 = 183 + 3 ∧ (183 : Int) + 41 = ((224 : Nat) : Int) := by decide +kernel
theorem d_X11_goesOn_186 : decode cX11_goesOn 186 = .ok (.aload_n 0, 1) ∧ 187 = 186 + 1 := by decide +kernel
theorem d_X11_goesOn_187 : decode cX11_goesOn 187 = .ok (.iconst 3, 1) ∧ 188 = 187 + 1 := by decide +kernel
theorem d_X11_goesOn_188 : decode cX11_goesOn 188 = .ok (.invokevirtual 251, 3) ∧ 191 = 188 + 3 := by decide +kernel
theorem d_X11_goesOn_191 : decode cX11_goesOn 191 = .ok (.aload_n 0, 1) ∧ 192 = 191 + 1 := by decide +kernel
theorem d_X11_goesOn_192 : decode cX11_goesOn 192 = .ok (.getfield 48, 3) ∧ 195 = 192 + 3 := by decide +kernel
theorem d_X11_goesOn_195 : decode cX11_goesOn 195 = .ok (.aload_n 0, 1) ∧ 196 = 195 + 1 := by decide +kernel
theorem d_X11_goesOn_196 : decode cX11_goesOn 196 = .ok (.getfield 225, 3) ∧ 199 = 196 + 3 := by decide +kernel
theorem d_X11_goesOn_199 : decode cX11_goesOn 199 = .ok (.iaload, 1) ∧ 200 = 199 + 1 := by decide +kernel
theorem d_X11_goesOn_200 : decode cX11_goesOn 200 = .ok (.istore_n 2, 1) ∧ 201 = 200 + 1 := by decide +kernel
theorem d_X11_goesOn_201 : decode cX11_goesOn 201 = .ok (.aload_n 0, 1) ∧ 202 = 201 + 1 := by decide +kernel
theorem d_X11_goesOn_202 : decode cX11_goesOn 202 = .ok (.dup, 1) ∧ 203 = 202 + 1 := by decide +kernel
theorem d_X11_goesOn_203 : decode cX11_goesOn 203 = .ok (.getfield 225, 3) ∧ 206 = 203 + 3 := by decide +kernel
theorem d_X11_goesOn_206 : decode cX11_goesOn 206 = .ok (.iconst 1, 1) ∧ 207 = 206 + 1 := by decide +kernel
theorem d_X11_goesOn_207 : decode cX11_goesOn 207 = .ok (.isub, 1) ∧ 208 = 207 + 1 := by decide +kernel
theorem d_X11_goesOn_208 : decode cX11_goesOn 208 = .ok (.putfield 225, 3) ∧ 211 = 208 + 3 := by decide +kernel
theorem d_X11_goesOn_211 : decode cX11_goesOn 211 = .ok (.aload_n 0, 1) ∧ 212 = 211 + 1 := by decide +kernel
theorem d_X11_goesOn_212 : decode cX11_goesOn 212 = .ok (.iload_n 2, 1) ∧ 213 = 212 + 1 := by decide +kernel
theorem d_X11_goesOn_213 : decode cX11_goesOn 213 = .ok (.iconst 0, 1) ∧ 214 = 213 + 1 := by decide +kernel
theorem d_X11_goesOn_214 : decode cX11_goesOn 214 = .ok (.invokevirtual 247, 3) ∧ 217 = 214 + 3 := by decide +kernel
theorem d_X11_goesOn_217 : decode cX11_goesOn 217 = .ok (.aload_n 0, 1) ∧ 218 = 217 + 1 := by decide +kernel
theorem d_X11_goesOn_218 : decode cX11_goesOn 218 = .ok (.invokevirtual 284, 3) ∧ 221 = 218 + 3 := by decide +kernel
theorem d_X11_goesOn_221 : decode cX11_goesOn 221 = .ok (.goto 29, 3) ∧ (221 : Int) + (29) = ((250 : Nat) : Int) := by decide +kernel
theorem d_X11_goesOn_224 : decode cX11_goesOn 224 = .ok (.iload_n 1, 1) ∧ 225 = 224 + 1 := by decide +kernel
theorem d_X11_goesOn_225 : decode cX11_goesOn 225 = .ok (.iconst 1, 1) ∧ 226 = 225 + 1 := by decide +kernel
theorem d_X11_goesOn_226 : decode cX11_goesOn 226 = .ok (.if_icmp .ne 19, 3) ∧ 229 = 226 + 3 ∧ (226 : Int) + 19 = ((245 : Nat) : Int) := by decide +kernel
theorem d_X11_goesOn_229 : decode cX11_goesOn 229 = .ok (.aload_n 0, 1) ∧ 230 = 229 + 1 := by decide +kernel
theorem d_X11_goesOn_230 : decode cX11_goesOn 230 = .ok (.bipush 59, 2) ∧ 232 = 230 + 2 := by decide +kernel
theorem d_X11_goesOn_232 : decode cX11_goesOn 232 = .ok (.invokevirtual 272, 3) ∧ 235 = 232 + 3 := by decide +kernel
theorem d_X11_goesOn_235 : decode cX11_goesOn 235 = .ok (.ifCond .eq 10, 3) ∧ 238 = 235 + 3 ∧ (235 : Int) + 10 = ((245 : Nat) : Int) := by decide +kernel
theorem d_X11_goesOn_238 : decode cX11_goesOn 238 = .ok (.aload_n 0, 1) ∧ 239 = 238 + 1 := by decide +kernel
theorem d_X11_goesOn_239 : decode cX11_goesOn 239 = .ok (.invokevirtual 287, 3) ∧ 242 = 239 + 3 := by decide +kernel
theorem d_X11_goesOn_242 : decode cX11_goesOn 242 = .ok (.goto 8, 3) ∧ (242 : Int) + (8) = ((250 : Nat) : Int) := by decide +kernel
theorem d_X11_goesOn_245 : decode cX11_goesOn 245 = .ok (.aload_n 0, 1) ∧ 246 = 245 + 1 := by decide +kernel
theorem d_X11_goesOn_246 : decode cX11_goesOn 246 = .ok (.iconst 1, 1) ∧ 247 = 246 + 1 := by decide +kernel
theorem d_X11_goesOn_247 : decode cX11_goesOn 247 = .ok (.invokevirtual 231, 3) ∧ 250 = 247 + 3 := by decide +kernel
theorem d_X11_goesOn_250 : decode cX11_goesOn 250 = .ok (.return_, 1) := by decide +kernel
theorem d_X11_asksOn_0 : decode cX11_asksOn 0 = .ok (.aload_n 0, 1) ∧ 1 = 0 + 1 := by decide +kernel
theorem d_X11_asksOn_1 : decode cX11_asksOn 1 = .ok (.bipush 7, 2) ∧ 3 = 1 + 2 := by decide +kernel
theorem d_X11_asksOn_3 : decode cX11_asksOn 3 = .ok (.invokevirtual 254, 3) ∧ 6 = 3 + 3 := by decide +kernel
theorem d_X11_asksOn_6 : decode cX11_asksOn 6 = .ok (.ifCond .ne 12, 3) ∧ 9 = 6 + 3 ∧ (6 : Int) + 12 = ((18 : Nat) : Int) := by decide +kernel
theorem d_X11_asksOn_9 : decode cX11_asksOn 9 = .ok (.aload_n 0, 1) ∧ 10 = 9 + 1 := by decide +kernel
theorem d_X11_asksOn_10 : decode cX11_asksOn 10 = .ok (.bipush 8, 2) ∧ 12 = 10 + 2 := by decide +kernel
theorem d_X11_asksOn_12 : decode cX11_asksOn 12 = .ok (.invokevirtual 254, 3) ∧ 15 = 12 + 3 := by decide +kernel
theorem d_X11_asksOn_15 : decode cX11_asksOn 15 = .ok (.ifCond .eq 33, 3) ∧ 18 = 15 + 3 ∧ (15 : Int) + 33 = ((48 : Nat) : Int) := by decide +kernel
theorem d_X11_asksOn_18 : decode cX11_asksOn 18 = .ok (.aload_n 0, 1) ∧ 19 = 18 + 1 := by decide +kernel
theorem d_X11_asksOn_19 : decode cX11_asksOn 19 = .ok (.aload_n 0, 1) ∧ 20 = 19 + 1 := by decide +kernel
theorem d_X11_asksOn_20 : decode cX11_asksOn 20 = .ok (.bipush 7, 2) ∧ 22 = 20 + 2 := by decide +kernel
theorem d_X11_asksOn_22 : decode cX11_asksOn 22 = .ok (.invokevirtual 254, 3) ∧ 25 = 22 + 3 := by decide +kernel
theorem d_X11_asksOn_25 : decode cX11_asksOn 25 = .ok (.ifCond .eq 9, 3) ∧ 28 = 25 + 3 ∧ (25 : Int) + 9 = ((34 : Nat) : Int) := by decide +kernel
theorem d_X11_asksOn_28 : decode cX11_asksOn 28 = .ok (.sipush 407, 3) ∧ 31 = 28 + 3 := by decide +kernel
theorem d_X11_asksOn_31 : decode cX11_asksOn 31 = .ok (.goto 6, 3) ∧ (31 : Int) + (6) = ((37 : Nat) : Int) := by decide +kernel
theorem d_X11_asksOn_34 : decode cX11_asksOn 34 = .ok (.sipush 406, 3) ∧ 37 = 34 + 3 := by decide +kernel
theorem d_X11_asksOn_37 : decode cX11_asksOn 37 = .ok (.invokevirtual 278, 3) ∧ 40 = 37 + 3 := by decide +kernel
theorem d_X11_asksOn_40 : decode cX11_asksOn 40 = .ok (.aload_n 0, 1) ∧ 41 = 40 + 1 := by decide +kernel
theorem d_X11_asksOn_41 : decode cX11_asksOn 41 = .ok (.iconst 0, 1) ∧ 42 = 41 + 1 := by decide +kernel
theorem d_X11_asksOn_42 : decode cX11_asksOn 42 = .ok (.putfield 260, 3) ∧ 45 = 42 + 3 := by decide +kernel
theorem d_X11_asksOn_45 : decode cX11_asksOn 45 = .ok (.goto 32, 3) ∧ (45 : Int) + (32) = ((77 : Nat) : Int) := by decide +kernel
theorem d_X11_asksOn_48 : decode cX11_asksOn 48 = .ok (.aload_n 0, 1) ∧ 49 = 48 + 1 := by decide +kernel
theorem d_X11_asksOn_49 : decode cX11_asksOn 49 = .ok (.invokevirtual 275, 3) ∧ 52 = 49 + 3 := by decide +kernel
theorem d_X11_asksOn_52 : decode cX11_asksOn 52 = .ok (.iconst 2, 1) ∧ 53 = 52 + 1 := by decide +kernel
theorem d_X11_asksOn_53 : decode cX11_asksOn 53 = .ok (.if_icmp .ne 19, 3) ∧ 56 = 53 + 3 ∧ (53 : Int) + 19 = ((72 : Nat) : Int) := by decide +kernel
theorem d_X11_asksOn_56 : decode cX11_asksOn 56 = .ok (.aload_n 0, 1) ∧ 57 = 56 + 1 := by decide +kernel
theorem d_X11_asksOn_57 : decode cX11_asksOn 57 = .ok (.bipush 59, 2) ∧ 59 = 57 + 2 := by decide +kernel
theorem d_X11_asksOn_59 : decode cX11_asksOn 59 = .ok (.invokevirtual 272, 3) ∧ 62 = 59 + 3 := by decide +kernel
theorem d_X11_asksOn_62 : decode cX11_asksOn 62 = .ok (.ifCond .eq 10, 3) ∧ 65 = 62 + 3 ∧ (62 : Int) + 10 = ((72 : Nat) : Int) := by decide +kernel
theorem d_X11_asksOn_65 : decode cX11_asksOn 65 = .ok (.aload_n 0, 1) ∧ 66 = 65 + 1 := by decide +kernel
theorem d_X11_asksOn_66 : decode cX11_asksOn 66 = .ok (.invokevirtual 287, 3) ∧ 69 = 66 + 3 := by decide +kernel
theorem d_X11_asksOn_69 : decode cX11_asksOn 69 = .ok (.goto 8, 3) ∧ (69 : Int) + (8) = ((77 : Nat) : Int) := by decide +kernel
theorem d_X11_asksOn_72 : decode cX11_asksOn 72 = .ok (.aload_n 0, 1) ∧ 73 = 72 + 1 := by decide +kernel
theorem d_X11_asksOn_73 : decode cX11_asksOn 73 = .ok (.iconst 1, 1) ∧ 74 = 73 + 1 := by decide +kernel
theorem d_X11_asksOn_74 : decode cX11_asksOn 74 = .ok (.invokevirtual 231, 3) ∧ 77 = 74 + 3 := by decide +kernel
theorem d_X11_asksOn_77 : decode cX11_asksOn 77 = .ok (.return_, 1) := by decide +kernel
theorem d_X11_clauseIsOver_0 : decode cX11_clauseIsOver 0 = .ok (.aload_n 0, 1) ∧ 1 = 0 + 1 := by decide +kernel
theorem d_X11_clauseIsOver_1 : decode cX11_clauseIsOver 1 = .ok (.iconst 1, 1) ∧ 2 = 1 + 1 := by decide +kernel
theorem d_X11_clauseIsOver_2 : decode cX11_clauseIsOver 2 = .ok (.invokevirtual 251, 3) ∧ 5 = 2 + 3 := by decide +kernel
theorem d_X11_clauseIsOver_5 : decode cX11_clauseIsOver 5 = .ok (.aload_n 0, 1) ∧ 6 = 5 + 1 := by decide +kernel
theorem d_X11_clauseIsOver_6 : decode cX11_clauseIsOver 6 = .ok (.iconst 0, 1) ∧ 7 = 6 + 1 := by decide +kernel
theorem d_X11_clauseIsOver_7 : decode cX11_clauseIsOver 7 = .ok (.putfield 225, 3) ∧ 10 = 7 + 3 := by decide +kernel
theorem d_X11_clauseIsOver_10 : decode cX11_clauseIsOver 10 = .ok (.aload_n 0, 1) ∧ 11 = 10 + 1 := by decide +kernel
theorem d_X11_clauseIsOver_11 : decode cX11_clauseIsOver 11 = .ok (.sipush 408, 3) ∧ 14 = 11 + 3 := by decide +kernel
theorem d_X11_clauseIsOver_14 : decode cX11_clauseIsOver 14 = .ok (.iconst 0, 1) ∧ 15 = 14 + 1 := by decide +kernel
theorem d_X11_clauseIsOver_15 : decode cX11_clauseIsOver 15 = .ok (.invokevirtual 247, 3) ∧ 18 = 15 + 3 := by decide +kernel
theorem d_X11_clauseIsOver_18 : decode cX11_clauseIsOver 18 = .ok (.aload_n 0, 1) ∧ 19 = 18 + 1 := by decide +kernel
theorem d_X11_clauseIsOver_19 : decode cX11_clauseIsOver 19 = .ok (.dup, 1) ∧ 20 = 19 + 1 := by decide +kernel
theorem d_X11_clauseIsOver_20 : decode cX11_clauseIsOver 20 = .ok (.getfield 290, 3) ∧ 23 = 20 + 3 := by decide +kernel
theorem d_X11_clauseIsOver_23 : decode cX11_clauseIsOver 23 = .ok (.iconst 1, 1) ∧ 24 = 23 + 1 := by decide +kernel
theorem d_X11_clauseIsOver_24 : decode cX11_clauseIsOver 24 = .ok (.iadd, 1) ∧ 25 = 24 + 1 := by decide +kernel
theorem d_X11_clauseIsOver_25 : decode cX11_clauseIsOver 25 = .ok (.putfield 290, 3) ∧ 28 = 25 + 3 := by decide +kernel
theorem d_X11_clauseIsOver_28 : decode cX11_clauseIsOver 28 = .ok (.aload_n 0, 1) ∧ 29 = 28 + 1 := by decide +kernel
theorem d_X11_clauseIsOver_29 : decode cX11_clauseIsOver 29 = .ok (.invokevirtual 237, 3) ∧ 32 = 29 + 3 := by decide +kernel
theorem d_X11_clauseIsOver_32 : decode cX11_clauseIsOver 32 = .ok (.aload_n 0, 1) ∧ 33 = 32 + 1 := by decide +kernel
theorem d_X11_clauseIsOver_33 : decode cX11_clauseIsOver 33 = .ok (.iconst 4, 1) ∧ 34 = 33 + 1 := by decide +kernel
theorem d_X11_clauseIsOver_34 : decode cX11_clauseIsOver 34 = .ok (.putfield 260, 3) ∧ 37 = 34 + 3 := by decide +kernel
theorem d_X11_clauseIsOver_37 : decode cX11_clauseIsOver 37 = .ok (.return_, 1) := by decide +kernel
theorem d_X11_number_0 : decode cX11_number 0 = .ok (.aload_n 0, 1) ∧ 1 = 0 + 1 := by decide +kernel
theorem d_X11_number_1 : decode cX11_number 1 = .ok (.getfield 216, 3) ∧ 4 = 1 + 3 := by decide +kernel
theorem d_X11_number_4 : decode cX11_number 4 = .ok (.ifCond .gt 11, 3) ∧ 7 = 4 + 3 ∧ (4 : Int) + 11 = ((15 : Nat) : Int) := by decide +kernel
theorem d_X11_number_7 : decode cX11_number 7 = .ok (.aload_n 0, 1) ∧ 8 = 7 + 1 := by decide +kernel
theorem d_X11_number_8 : decode cX11_number 8 = .ok (.getfield 200, 3) ∧ 11 = 8 + 3 := by decide +kernel
theorem d_X11_number_11 : decode cX11_number 11 = .ok (.iconst 2, 1) ∧ 12 = 11 + 1 := by decide +kernel
theorem d_X11_number_12 : decode cX11_number 12 = .ok (.if_icmp .eq 10, 3) ∧ 15 = 12 + 3 ∧ (12 : Int) + 10 = ((22 : Nat) : Int) := by decide +kernel
theorem d_X11_number_15 : decode cX11_number 15 = .ok (.aload_n 0, 1) ∧ 16 = 15 + 1 := by decide +kernel
theorem d_X11_number_16 : decode cX11_number 16 = .ok (.iconst 1, 1) ∧ 17 = 16 + 1 := by decide +kernel
theorem d_X11_number_17 : decode cX11_number 17 = .ok (.invokevirtual 231, 3) ∧ 20 = 17 + 3 := by decide +kernel
theorem d_X11_number_20 : decode cX11_number 20 = .ok (.iload_n 1, 1) ∧ 21 = 20 + 1 := by decide +kernel
theorem d_X11_number_21 : decode cX11_number 21 = .ok (.ireturn, 1) := by decide +kernel
theorem d_X11_number_22 : decode cX11_number 22 = .ok (.aload_n 0, 1) ∧ 23 = 22 + 1 := by decide +kernel
theorem d_X11_number_23 : decode cX11_number 23 = .ok (.getfield 212, 3) ∧ 26 = 23 + 3 := by decide +kernel
theorem d_X11_number_26 : decode cX11_number 26 = .ok (.iload_n 1, 1) ∧ 27 = 26 + 1 := by decide +kernel
theorem d_X11_number_27 : decode cX11_number 27 = .ok (.iload_n 2, 1) ∧ 28 = 27 + 1 := by decide +kernel
theorem d_X11_number_28 : decode cX11_number 28 = .ok (.invokestatic 101, 3) ∧ 31 = 28 + 3 := by decide +kernel
theorem d_X11_number_31 : decode cX11_number 31 = .ok (.ifCond .ne 10, 3) ∧ 34 = 31 + 3 ∧ (31 : Int) + 10 = ((41 : Nat) : Int) := by decide +kernel
theorem d_X11_number_34 : decode cX11_number 34 = .ok (.aload_n 0, 1) ∧ 35 = 34 + 1 := by decide +kernel
theorem d_X11_number_35 : decode cX11_number 35 = .ok (.iconst 2, 1) ∧ 36 = 35 + 1 := by decide +kernel
theorem d_X11_number_36 : decode cX11_number 36 = .ok (.invokevirtual 231, 3) ∧ 39 = 36 + 3 := by decide +kernel
theorem d_X11_number_39 : decode cX11_number 39 = .ok (.iload_n 1, 1) ∧ 40 = 39 + 1 := by decide +kernel
theorem d_X11_number_40 : decode cX11_number 40 = .ok (.ireturn, 1) := by decide +kernel
theorem d_X11_number_41 : decode cX11_number 41 = .ok (.aload_n 0, 1) ∧ 42 = 41 + 1 := by decide +kernel
theorem d_X11_number_42 : decode cX11_number 42 = .ok (.getfield 212, 3) ∧ 45 = 42 + 3 := by decide +kernel
theorem d_X11_number_45 : decode cX11_number 45 = .ok (.istore_n 3, 1) ∧ 46 = 45 + 1 := by decide +kernel
theorem d_X11_number_46 : decode cX11_number 46 = .ok (.aload_n 0, 1) ∧ 47 = 46 + 1 := by decide +kernel
theorem d_X11_number_47 : decode cX11_number 47 = .ok (.invokevirtual 237, 3) ∧ 50 = 47 + 3 := by decide +kernel
theorem d_X11_number_50 : decode cX11_number 50 = .ok (.iload_n 3, 1) ∧ 51 = 50 + 1 := by decide +kernel
theorem d_X11_number_51 : decode cX11_number 51 = .ok (.ireturn, 1) := by decide +kernel
theorem d_X11_wasTold_0 : decode cX11_wasTold 0 = .ok (.iconst 0, 1) ∧ 1 = 0 + 1 := by decide +kernel
theorem d_X11_wasTold_1 : decode cX11_wasTold 1 = .ok (.istore_n 2, 1) ∧ 2 = 1 + 1 := by decide +kernel
theorem d_X11_wasTold_2 : decode cX11_wasTold 2 = .ok (.iconst 0, 1) ∧ 3 = 2 + 1 := by decide +kernel
theorem d_X11_wasTold_3 : decode cX11_wasTold 3 = .ok (.istore_n 3, 1) ∧ 4 = 3 + 1 := by decide +kernel
theorem d_X11_wasTold_4 : decode cX11_wasTold 4 = .ok (.iload_n 3, 1) ∧ 5 = 4 + 1 := by decide +kernel
theorem d_X11_wasTold_5 : decode cX11_wasTold 5 = .ok (.aload_n 0, 1) ∧ 6 = 5 + 1 := by decide +kernel
theorem d_X11_wasTold_6 : decode cX11_wasTold 6 = .ok (.getfield 290, 3) ∧ 9 = 6 + 3 := by decide +kernel
theorem d_X11_wasTold_9 : decode cX11_wasTold 9 = .ok (.if_icmp .ge 29, 3) ∧ 12 = 9 + 3 ∧ (9 : Int) + 29 = ((38 : Nat) : Int) := by decide +kernel
theorem d_X11_wasTold_12 : decode cX11_wasTold 12 = .ok (.iload_n 2, 1) ∧ 13 = 12 + 1 := by decide +kernel
theorem d_X11_wasTold_13 : decode cX11_wasTold 13 = .ok (.ifCond .ne 13, 3) ∧ 16 = 13 + 3 ∧ (13 : Int) + 13 = ((26 : Nat) : Int) := by decide +kernel
theorem d_X11_wasTold_16 : decode cX11_wasTold 16 = .ok (.aload_n 0, 1) ∧ 17 = 16 + 1 := by decide +kernel
theorem d_X11_wasTold_17 : decode cX11_wasTold 17 = .ok (.getfield 57, 3) ∧ 20 = 17 + 3 := by decide +kernel
theorem d_X11_wasTold_20 : decode cX11_wasTold 20 = .ok (.iload_n 3, 1) ∧ 21 = 20 + 1 := by decide +kernel
theorem d_X11_wasTold_21 : decode cX11_wasTold 21 = .ok (.iaload, 1) ∧ 22 = 21 + 1 := by decide +kernel
theorem d_X11_wasTold_22 : decode cX11_wasTold 22 = .ok (.iload_n 1, 1) ∧ 23 = 22 + 1 := by decide +kernel
theorem d_X11_wasTold_23 : decode cX11_wasTold 23 = .ok (.if_icmp .ne 7, 3) ∧ 26 = 23 + 3 ∧ (23 : Int) + 7 = ((30 : Nat) : Int) := by decide +kernel
theorem d_X11_wasTold_26 : decode cX11_wasTold 26 = .ok (.iconst 1, 1) ∧ 27 = 26 + 1 := by decide +kernel
theorem d_X11_wasTold_27 : decode cX11_wasTold 27 = .ok (.goto 4, 3) ∧ (27 : Int) + (4) = ((31 : Nat) : Int) := by decide +kernel
theorem d_X11_wasTold_30 : decode cX11_wasTold 30 = .ok (.iconst 0, 1) ∧ 31 = 30 + 1 := by decide +kernel
theorem d_X11_wasTold_31 : decode cX11_wasTold 31 = .ok (.istore_n 2, 1) ∧ 32 = 31 + 1 := by decide +kernel
theorem d_X11_wasTold_32 : decode cX11_wasTold 32 = .ok (.iinc 3 1, 3) ∧ 35 = 32 + 3 := by decide +kernel
theorem d_X11_wasTold_35 : decode cX11_wasTold 35 = .ok (.goto (-31), 3) ∧ (35 : Int) + ((-31)) = ((4 : Nat) : Int) := by decide +kernel
theorem d_X11_wasTold_38 : decode cX11_wasTold 38 = .ok (.iload_n 2, 1) ∧ 39 = 38 + 1 := by decide +kernel
theorem d_X11_wasTold_39 : decode cX11_wasTold 39 = .ok (.ireturn, 1) := by decide +kernel
theorem d_X11_clause_0 : decode cX11_clause 0 = .ok (.aload_n 0, 1) ∧ 1 = 0 + 1 := by decide +kernel
theorem d_X11_clause_1 : decode cX11_clause 1 = .ok (.getfield 200, 3) ∧ 4 = 1 + 3 := by decide +kernel
theorem d_X11_clause_4 : decode cX11_clause 4 = .ok (.iconst 1, 1) ∧ 5 = 4 + 1 := by decide +kernel
theorem d_X11_clause_5 : decode cX11_clause 5 = .ok (.if_icmp .ne 12, 3) ∧ 8 = 5 + 3 ∧ (5 : Int) + 12 = ((17 : Nat) : Int) := by decide +kernel
theorem d_X11_clause_8 : decode cX11_clause 8 = .ok (.aload_n 0, 1) ∧ 9 = 8 + 1 := by decide +kernel
theorem d_X11_clause_9 : decode cX11_clause 9 = .ok (.getfield 212, 3) ∧ 12 = 9 + 3 := by decide +kernel
theorem d_X11_clause_12 : decode cX11_clause 12 = .ok (.bipush 6, 2) ∧ 14 = 12 + 2 := by decide +kernel
theorem d_X11_clause_14 : decode cX11_clause 14 = .ok (.if_icmp .le 9, 3) ∧ 17 = 14 + 3 ∧ (14 : Int) + 9 = ((23 : Nat) : Int) := by decide +kernel
theorem d_X11_clause_17 : decode cX11_clause 17 = .ok (.aload_n 0, 1) ∧ 18 = 17 + 1 := by decide +kernel
theorem d_X11_clause_18 : decode cX11_clause 18 = .ok (.iconst 1, 1) ∧ 19 = 18 + 1 := by decide +kernel
theorem d_X11_clause_19 : decode cX11_clause 19 = .ok (.invokevirtual 231, 3) ∧ 22 = 19 + 3 := by decide +kernel
theorem d_X11_clause_22 : decode cX11_clause 22 = .ok (.return_, 1) := by decide +kernel
theorem d_X11_clause_23 : decode cX11_clause 23 = .ok (.aload_n 0, 1) ∧ 24 = 23 + 1 := by decide +kernel
theorem d_X11_clause_24 : decode cX11_clause 24 = .ok (.aload_n 0, 1) ∧ 25 = 24 + 1 := by decide +kernel
theorem d_X11_clause_25 : decode cX11_clause 25 = .ok (.getfield 212, 3) ∧ 28 = 25 + 3 := by decide +kernel
theorem d_X11_clause_28 : decode cX11_clause 28 = .ok (.putfield 263, 3) ∧ 31 = 28 + 3 := by decide +kernel
theorem d_X11_clause_31 : decode cX11_clause 31 = .ok (.aload_n 0, 1) ∧ 32 = 31 + 1 := by decide +kernel
theorem d_X11_clause_32 : decode cX11_clause 32 = .ok (.getfield 263, 3) ∧ 35 = 32 + 3 := by decide +kernel
theorem d_X11_clause_35 : decode cX11_clause 35 = .ok (.iconst 2, 1) ∧ 36 = 35 + 1 := by decide +kernel
theorem d_X11_clause_36 : decode cX11_clause 36 = .ok (.if_icmp .gt 22, 3) ∧ 39 = 36 + 3 ∧ (36 : Int) + 22 = ((58 : Nat) : Int) := by decide +kernel
theorem d_X11_clause_39 : decode cX11_clause 39 = .ok (.aload_n 0, 1) ∧ 40 = 39 + 1 := by decide +kernel
theorem d_X11_clause_40 : decode cX11_clause 40 = .ok (.aload_n 0, 1) ∧ 41 = 40 + 1 := by decide +kernel
theorem d_X11_clause_41 : decode cX11_clause 41 = .ok (.getfield 263, 3) ∧ 44 = 41 + 3 := by decide +kernel
theorem d_X11_clause_44 : decode cX11_clause 44 = .ok (.invokevirtual 293, 3) ∧ 47 = 44 + 3 := by decide +kernel
theorem d_X11_clause_47 : decode cX11_clause 47 = .ok (.ifCond .eq 11, 3) ∧ 50 = 47 + 3 ∧ (47 : Int) + 11 = ((58 : Nat) : Int) := by decide +kernel
theorem d_X11_clause_50 : decode cX11_clause 50 = .ok (.aload_n 0, 1) ∧ 51 = 50 + 1 := by decide +kernel
theorem d_X11_clause_51 : decode cX11_clause 51 = .ok (.iconst 4, 1) ∧ 52 = 51 + 1 := by decide +kernel
theorem d_X11_clause_52 : decode cX11_clause 52 = .ok (.invokevirtual 231, 3) ∧ 55 = 52 + 3 := by decide +kernel
theorem d_X11_clause_55 : decode cX11_clause 55 = .ok (.goto 18, 3) ∧ (55 : Int) + (18) = ((73 : Nat) : Int) := by decide +kernel
theorem d_X11_clause_58 : decode cX11_clause 58 = .ok (.aload_n 0, 1) ∧ 59 = 58 + 1 := by decide +kernel
theorem d_X11_clause_59 : decode cX11_clause 59 = .ok (.getfield 290, 3) ∧ 62 = 59 + 3 := by decide +kernel
theorem d_X11_clause_62 : decode cX11_clause 62 = .ok (.bipush 10, 2) ∧ 64 = 62 + 2 := by decide +kernel
theorem d_X11_clause_64 : decode cX11_clause 64 = .ok (.if_icmp .ne 9, 3) ∧ 67 = 64 + 3 ∧ (64 : Int) + 9 = ((73 : Nat) : Int) := by decide +kernel
theorem d_X11_clause_67 : decode cX11_clause 67 = .ok (.aload_n 0, 1) ∧ 68 = 67 + 1 := by decide +kernel
theorem d_X11_clause_68 : decode cX11_clause 68 = .ok (.bipush 6, 2) ∧ 70 = 68 + 2 := by decide +kernel
theorem d_X11_clause_70 : decode cX11_clause 70 = .ok (.invokevirtual 231, 3) ∧ 73 = 70 + 3 := by decide +kernel
theorem d_X11_clause_73 : decode cX11_clause 73 = .ok (.aload_n 0, 1) ∧ 74 = 73 + 1 := by decide +kernel
theorem d_X11_clause_74 : decode cX11_clause 74 = .ok (.getfield 216, 3) ∧ 77 = 74 + 3 := by decide +kernel
theorem d_X11_clause_77 : decode cX11_clause 77 = .ok (.ifCond .le 4, 3) ∧ 80 = 77 + 3 ∧ (77 : Int) + 4 = ((81 : Nat) : Int) := by decide +kernel
theorem d_X11_clause_80 : decode cX11_clause 80 = .ok (.return_, 1) := by decide +kernel
theorem d_X11_clause_81 : decode cX11_clause 81 = .ok (.aload_n 0, 1) ∧ 82 = 81 + 1 := by decide +kernel
theorem d_X11_clause_82 : decode cX11_clause 82 = .ok (.getfield 57, 3) ∧ 85 = 82 + 3 := by decide +kernel
theorem d_X11_clause_85 : decode cX11_clause 85 = .ok (.aload_n 0, 1) ∧ 86 = 85 + 1 := by decide +kernel
theorem d_X11_clause_86 : decode cX11_clause 86 = .ok (.getfield 290, 3) ∧ 89 = 86 + 3 := by decide +kernel
theorem d_X11_clause_89 : decode cX11_clause 89 = .ok (.aload_n 0, 1) ∧ 90 = 89 + 1 := by decide +kernel
theorem d_X11_clause_90 : decode cX11_clause 90 = .ok (.getfield 263, 3) ∧ 93 = 90 + 3 := by decide +kernel
theorem d_X11_clause_93 : decode cX11_clause 93 = .ok (.iastore, 1) ∧ 94 = 93 + 1 := by decide +kernel
theorem d_X11_clause_94 : decode cX11_clause 94 = .ok (.aload_n 0, 1) ∧ 95 = 94 + 1 := by decide +kernel
theorem d_X11_clause_95 : decode cX11_clause 95 = .ok (.getfield 60, 3) ∧ 98 = 95 + 3 := by decide +kernel
theorem d_X11_clause_98 : decode cX11_clause 98 = .ok (.aload_n 0, 1) ∧ 99 = 98 + 1 := by decide +kernel
theorem d_X11_clause_99 : decode cX11_clause 99 = .ok (.getfield 290, 3) ∧ 102 = 99 + 3 := by decide +kernel
theorem d_X11_clause_102 : decode cX11_clause 102 = .ok (.iconst 0, 1) ∧ 103 = 102 + 1 := by decide +kernel
theorem d_X11_clause_103 : decode cX11_clause 103 = .ok (.iastore, 1) ∧ 104 = 103 + 1 := by decide +kernel
theorem d_X11_clause_104 : decode cX11_clause 104 = .ok (.aload_n 0, 1) ∧ 105 = 104 + 1 := by decide +kernel
theorem d_X11_clause_105 : decode cX11_clause 105 = .ok (.getfield 63, 3) ∧ 108 = 105 + 3 := by decide +kernel
theorem d_X11_clause_108 : decode cX11_clause 108 = .ok (.aload_n 0, 1) ∧ 109 = 108 + 1 := by decide +kernel
theorem d_X11_clause_109 : decode cX11_clause 109 = .ok (.getfield 290, 3) ∧ 112 = 109 + 3 := by decide +kernel
theorem d_X11_clause_112 : decode cX11_clause 112 = .ok (.aload_n 0, 1) ∧ 113 = 112 + 1 := by decide +kernel
theorem d_X11_clause_113 : decode cX11_clause 113 = .ok (.getfield 222, 3) ∧ 116 = 113 + 3 := by decide +kernel
theorem d_X11_clause_116 : decode cX11_clause 116 = .ok (.iastore, 1) ∧ 117 = 116 + 1 := by decide +kernel
theorem d_X11_clause_117 : decode cX11_clause 117 = .ok (.aload_n 0, 1) ∧ 118 = 117 + 1 := by decide +kernel
theorem d_X11_clause_118 : decode cX11_clause 118 = .ok (.invokevirtual 237, 3) ∧ 121 = 118 + 3 := by decide +kernel
theorem d_X11_clause_121 : decode cX11_clause 121 = .ok (.aload_n 0, 1) ∧ 122 = 121 + 1 := by decide +kernel
theorem d_X11_clause_122 : decode cX11_clause 122 = .ok (.getfield 263, 3) ∧ 125 = 122 + 3 := by decide +kernel
theorem d_X11_clause_125 : decode cX11_clause 125 = .ok (.iconst 1, 1) ∧ 126 = 125 + 1 := by decide +kernel
theorem d_X11_clause_126 : decode cX11_clause 126 = .ok (.if_icmp .le 38, 3) ∧ 129 = 126 + 3 ∧ (126 : Int) + 38 = ((164 : Nat) : Int) := by decide +kernel
theorem d_X11_clause_129 : decode cX11_clause 129 = .ok (.aload_n 0, 1) ∧ 130 = 129 + 1 := by decide +kernel
theorem d_X11_clause_130 : decode cX11_clause 130 = .ok (.aload_n 0, 1) ∧ 131 = 130 + 1 := by decide +kernel
theorem d_X11_clause_131 : decode cX11_clause 131 = .ok (.getfield 263, 3) ∧ 134 = 131 + 3 := by decide +kernel
theorem d_X11_clause_134 : decode cX11_clause 134 = .ok (.iconst 2, 1) ∧ 135 = 134 + 1 := by decide +kernel
theorem d_X11_clause_135 : decode cX11_clause 135 = .ok (.if_icmp .ne 7, 3) ∧ 138 = 135 + 3 ∧ (135 : Int) + 7 = ((142 : Nat) : Int) := by decide +kernel
theorem d_X11_clause_138 : decode cX11_clause 138 = .ok (.iconst 1, 1) ∧ 139 = 138 + 1 := by decide +kernel
theorem d_X11_clause_139 : decode cX11_clause 139 = .ok (.goto 4, 3) ∧ (139 : Int) + (4) = ((143 : Nat) : Int) := by decide +kernel
theorem d_X11_clause_142 : decode cX11_clause 142 = .ok (.iconst 2, 1) ∧ 143 = 142 + 1 := by decide +kernel
theorem d_X11_clause_143 : decode cX11_clause 143 = .ok (.invokevirtual 234, 3) ∧ 146 = 143 + 3 := by decide +kernel
theorem d_X11_clause_146 : decode cX11_clause 146 = .ok (.aload_n 0, 1) ∧ 147 = 146 + 1 := by decide +kernel
theorem d_X11_clause_147 : decode cX11_clause 147 = .ok (.aload_n 0, 1) ∧ 148 = 147 + 1 := by decide +kernel
theorem d_X11_clause_148 : decode cX11_clause 148 = .ok (.getfield 263, 3) ∧ 151 = 148 + 3 := by decide +kernel
theorem d_X11_clause_151 : decode cX11_clause 151 = .ok (.iconst 2, 1) ∧ 152 = 151 + 1 := by decide +kernel
theorem d_X11_clause_152 : decode cX11_clause 152 = .ok (.if_icmp .ne 7, 3) ∧ 155 = 152 + 3 ∧ (152 : Int) + 7 = ((159 : Nat) : Int) := by decide +kernel
theorem d_X11_clause_155 : decode cX11_clause 155 = .ok (.iconst 1, 1) ∧ 156 = 155 + 1 := by decide +kernel
theorem d_X11_clause_156 : decode cX11_clause 156 = .ok (.goto 4, 3) ∧ (156 : Int) + (4) = ((160 : Nat) : Int) := by decide +kernel
theorem d_X11_clause_159 : decode cX11_clause 159 = .ok (.iconst 0, 1) ∧ 160 = 159 + 1 := by decide +kernel
theorem d_X11_clause_160 : decode cX11_clause 160 = .ok (.putfield 260, 3) ∧ 163 = 160 + 3 := by decide +kernel
theorem d_X11_clause_163 : decode cX11_clause 163 = .ok (.return_, 1) := by decide +kernel
theorem d_X11_clause_164 : decode cX11_clause 164 = .ok (.aload_n 0, 1) ∧ 165 = 164 + 1 := by decide +kernel
theorem d_X11_clause_165 : decode cX11_clause 165 = .ok (.getfield 60, 3) ∧ 168 = 165 + 3 := by decide +kernel
theorem d_X11_clause_168 : decode cX11_clause 168 = .ok (.aload_n 0, 1) ∧ 169 = 168 + 1 := by decide +kernel
theorem d_X11_clause_169 : decode cX11_clause 169 = .ok (.getfield 290, 3) ∧ 172 = 169 + 3 := by decide +kernel
theorem d_X11_clause_172 : decode cX11_clause 172 = .ok (.aload_n 0, 1) ∧ 173 = 172 + 1 := by decide +kernel
theorem d_X11_clause_173 : decode cX11_clause 173 = .ok (.iconst 0, 1) ∧ 174 = 173 + 1 := by decide +kernel
theorem d_X11_clause_174 : decode cX11_clause 174 = .ok (.aload_n 0, 1) ∧ 175 = 174 + 1 := by decide +kernel
theorem d_X11_clause_175 : decode cX11_clause 175 = .ok (.getfield 263, 3) ∧ 178 = 175 + 3 := by decide +kernel
theorem d_X11_clause_178 : decode cX11_clause 178 = .ok (.ifCond .ne 8, 3) ∧ 181 = 178 + 3 ∧ (178 : Int) + 8 = ((186 : Nat) : Int) := by decide +kernel
theorem d_X11_clause_181 : decode cX11_clause 181 = .ok (.bipush 14, 2) ∧ 183 = 181 + 2 := by decide +kernel
theorem d_X11_clause_183 : decode cX11_clause 183 = .ok (.goto 6, 3) ∧ (183 : Int) + (6) = ((189 : Nat) : Int) := by decide +kernel
theorem d_X11_clause_186 : decode cX11_clause 186 = .ok (.sipush 9999, 3) ∧ 189 = 186 + 3 := by decide +kernel
theorem d_X11_clause_189 : decode cX11_clause 189 = .ok (.invokevirtual 296, 3) ∧ 192 = 189 + 3 := by decide +kernel
theorem d_X11_clause_192 : decode cX11_clause 192 = .ok (.iastore, 1) ∧ 193 = 192 + 1 := by decide +kernel
theorem d_X11_clause_193 : decode cX11_clause 193 = .ok (.aload_n 0, 1) ∧ 194 = 193 + 1 := by decide +kernel
theorem d_X11_clause_194 : decode cX11_clause 194 = .ok (.getfield 216, 3) ∧ 197 = 194 + 3 := by decide +kernel
theorem d_X11_clause_197 : decode cX11_clause 197 = .ok (.ifCond .ne 17, 3) ∧ 200 = 197 + 3 ∧ (197 : Int) + 17 = ((214 : Nat) : Int) := by decide +kernel
theorem d_X11_clause_200 : decode cX11_clause 200 = .ok (.aload_n 0, 1) ∧ 201 = 200 + 1 := by decide +kernel
theorem d_X11_clause_201 : decode cX11_clause 201 = .ok (.bipush 59, 2) ∧ 203 = 201 + 2 := by decide +kernel
theorem d_X11_clause_203 : decode cX11_clause 203 = .ok (.invokevirtual 272, 3) ∧ 206 = 203 + 3 := by decide +kernel
theorem d_X11_clause_206 : decode cX11_clause 206 = .ok (.ifCond .ne 8, 3) ∧ 209 = 206 + 3 ∧ (206 : Int) + 8 = ((214 : Nat) : Int) := by decide +kernel
theorem d_X11_clause_209 : decode cX11_clause 209 = .ok (.aload_n 0, 1) ∧ 210 = 209 + 1 := by decide +kernel
theorem d_X11_clause_210 : decode cX11_clause 210 = .ok (.iconst 1, 1) ∧ 211 = 210 + 1 := by decide +kernel
theorem d_X11_clause_211 : decode cX11_clause 211 = .ok (.invokevirtual 231, 3) ∧ 214 = 211 + 3 := by decide +kernel
theorem d_X11_clause_214 : decode cX11_clause 214 = .ok (.aload_n 0, 1) ∧ 215 = 214 + 1 := by decide +kernel
theorem d_X11_clause_215 : decode cX11_clause 215 = .ok (.getfield 216, 3) ∧ 218 = 215 + 3 := by decide +kernel
theorem d_X11_clause_218 : decode cX11_clause 218 = .ok (.ifCond .ne 17, 3) ∧ 221 = 218 + 3 ∧ (218 : Int) + 17 = ((235 : Nat) : Int) := by decide +kernel
theorem d_X11_clause_221 : decode cX11_clause 221 = .ok (.aload_n 0, 1) ∧ 222 = 221 + 1 := by decide +kernel
theorem d_X11_clause_222 : decode cX11_clause 222 = .ok (.dup, 1) ∧ 223 = 222 + 1 := by decide +kernel
theorem d_X11_clause_223 : decode cX11_clause 223 = .ok (.getfield 290, 3) ∧ 226 = 223 + 3 := by decide +kernel
theorem d_X11_clause_226 : decode cX11_clause 226 = .ok (.iconst 1, 1) ∧ 227 = 226 + 1 := by decide +kernel
theorem d_X11_clause_227 : decode cX11_clause 227 = .ok (.iadd, 1) ∧ 228 = 227 + 1 := by decide +kernel
theorem d_X11_clause_228 : decode cX11_clause 228 = .ok (.putfield 290, 3) ∧ 231 = 228 + 3 := by decide +kernel
theorem d_X11_clause_231 : decode cX11_clause 231 = .ok (.aload_n 0, 1) ∧ 232 = 231 + 1 := by decide +kernel
theorem d_X11_clause_232 : decode cX11_clause 232 = .ok (.invokevirtual 237, 3) ∧ 235 = 232 + 3 := by decide +kernel
theorem d_X11_clause_235 : decode cX11_clause 235 = .ok (.return_, 1) := by decide +kernel
theorem d_X11_text_0 : decode cX11_text 0 = .ok (.aload_n 0, 1) ∧ 1 = 0 + 1 := by decide +kernel
theorem d_X11_text_1 : decode cX11_text 1 = .ok (.getfield 7, 3) ∧ 4 = 1 + 3 := by decide +kernel
theorem d_X11_text_4 : decode cX11_text 4 = .ok (.iconst 2, 1) ∧ 5 = 4 + 1 := by decide +kernel
theorem d_X11_text_5 : decode cX11_text 5 = .ok (.iaload, 1) ∧ 6 = 5 + 1 := by decide +kernel
theorem d_X11_text_6 : decode cX11_text 6 = .ok (.bipush 6, 2) ∧ 8 = 6 + 2 := by decide +kernel
theorem d_X11_text_8 : decode cX11_text 8 = .ok (.if_icmp .ne 5, 3) ∧ 11 = 8 + 3 ∧ (8 : Int) + 5 = ((13 : Nat) : Int) := by decide +kernel
theorem d_X11_text_11 : decode cX11_text 11 = .ok (.iconst (-1), 1) ∧ 12 = 11 + 1 := by decide +kernel
theorem d_X11_text_12 : decode cX11_text 12 = .ok (.ireturn, 1) := by decide +kernel
theorem d_X11_text_13 : decode cX11_text 13 = .ok (.aload_n 0, 1) ∧ 14 = 13 + 1 := by decide +kernel
theorem d_X11_text_14 : decode cX11_text 14 = .ok (.aload_n 0, 1) ∧ 15 = 14 + 1 := by decide +kernel
theorem d_X11_text_15 : decode cX11_text 15 = .ok (.getfield 142, 3) ∧ 18 = 15 + 3 := by decide +kernel
theorem d_X11_text_18 : decode cX11_text 18 = .ok (.putfield 194, 3) ∧ 21 = 18 + 3 := by decide +kernel
theorem d_X11_text_21 : decode cX11_text 21 = .ok (.aload_n 0, 1) ∧ 22 = 21 + 1 := by decide +kernel
theorem d_X11_text_22 : decode cX11_text 22 = .ok (.iconst 0, 1) ∧ 23 = 22 + 1 := by decide +kernel
theorem d_X11_text_23 : decode cX11_text 23 = .ok (.putfield 142, 3) ∧ 26 = 23 + 3 := by decide +kernel
theorem d_X11_text_26 : decode cX11_text 26 = .ok (.aload_n 0, 1) ∧ 27 = 26 + 1 := by decide +kernel
theorem d_X11_text_27 : decode cX11_text 27 = .ok (.iconst 0, 1) ∧ 28 = 27 + 1 := by decide +kernel
theorem d_X11_text_28 : decode cX11_text 28 = .ok (.putfield 191, 3) ∧ 31 = 28 + 3 := by decide +kernel
theorem d_X11_text_31 : decode cX11_text 31 = .ok (.aload_n 0, 1) ∧ 32 = 31 + 1 := by decide +kernel
theorem d_X11_text_32 : decode cX11_text 32 = .ok (.iconst 0, 1) ∧ 33 = 32 + 1 := by decide +kernel
theorem d_X11_text_33 : decode cX11_text 33 = .ok (.putfield 216, 3) ∧ 36 = 33 + 3 := by decide +kernel
theorem d_X11_text_36 : decode cX11_text 36 = .ok (.aload_n 0, 1) ∧ 37 = 36 + 1 := by decide +kernel
theorem d_X11_text_37 : decode cX11_text 37 = .ok (.iconst (-1), 1) ∧ 38 = 37 + 1 := by decide +kernel
theorem d_X11_text_38 : decode cX11_text 38 = .ok (.putfield 219, 3) ∧ 41 = 38 + 3 := by decide +kernel
theorem d_X11_text_41 : decode cX11_text 41 = .ok (.aload_n 0, 1) ∧ 42 = 41 + 1 := by decide +kernel
theorem d_X11_text_42 : decode cX11_text 42 = .ok (.iconst 0, 1) ∧ 43 = 42 + 1 := by decide +kernel
theorem d_X11_text_43 : decode cX11_text 43 = .ok (.putfield 228, 3) ∧ 46 = 43 + 3 := by decide +kernel
theorem d_X11_text_46 : decode cX11_text 46 = .ok (.aload_n 0, 1) ∧ 47 = 46 + 1 := by decide +kernel
theorem d_X11_text_47 : decode cX11_text 47 = .ok (.iconst 0, 1) ∧ 48 = 47 + 1 := by decide +kernel
theorem d_X11_text_48 : decode cX11_text 48 = .ok (.putfield 225, 3) ∧ 51 = 48 + 3 := by decide +kernel
theorem d_X11_text_51 : decode cX11_text 51 = .ok (.aload_n 0, 1) ∧ 52 = 51 + 1 := by decide +kernel
theorem d_X11_text_52 : decode cX11_text 52 = .ok (.iconst 0, 1) ∧ 53 = 52 + 1 := by decide +kernel
theorem d_X11_text_53 : decode cX11_text 53 = .ok (.putfield 240, 3) ∧ 56 = 53 + 3 := by decide +kernel
theorem d_X11_text_56 : decode cX11_text 56 = .ok (.aload_n 0, 1) ∧ 57 = 56 + 1 := by decide +kernel
theorem d_X11_text_57 : decode cX11_text 57 = .ok (.iconst 4, 1) ∧ 58 = 57 + 1 := by decide +kernel
theorem d_X11_text_58 : decode cX11_text 58 = .ok (.putfield 260, 3) ∧ 61 = 58 + 3 := by decide +kernel
theorem d_X11_text_61 : decode cX11_text 61 = .ok (.aload_n 0, 1) ∧ 62 = 61 + 1 := by decide +kernel
theorem d_X11_text_62 : decode cX11_text 62 = .ok (.iconst 0, 1) ∧ 63 = 62 + 1 := by decide +kernel
theorem d_X11_text_63 : decode cX11_text 63 = .ok (.putfield 290, 3) ∧ 66 = 63 + 3 := by decide +kernel
theorem d_X11_text_66 : decode cX11_text 66 = .ok (.aload_n 0, 1) ∧ 67 = 66 + 1 := by decide +kernel
theorem d_X11_text_67 : decode cX11_text 67 = .ok (.iconst 0, 1) ∧ 68 = 67 + 1 := by decide +kernel
theorem d_X11_text_68 : decode cX11_text 68 = .ok (.putfield 222, 3) ∧ 71 = 68 + 3 := by decide +kernel
theorem d_X11_text_71 : decode cX11_text 71 = .ok (.aload_n 0, 1) ∧ 72 = 71 + 1 := by decide +kernel
theorem d_X11_text_72 : decode cX11_text 72 = .ok (.invokevirtual 237, 3) ∧ 75 = 72 + 3 := by decide +kernel
theorem d_X11_text_75 : decode cX11_text 75 = .ok (.aload_n 0, 1) ∧ 76 = 75 + 1 := by decide +kernel
theorem d_X11_text_76 : decode cX11_text 76 = .ok (.getfield 216, 3) ∧ 79 = 76 + 3 := by decide +kernel
theorem d_X11_text_79 : decode cX11_text 79 = .ok (.ifCond .ne 88, 3) ∧ 82 = 79 + 3 ∧ (79 : Int) + 88 = ((167 : Nat) : Int) := by decide +kernel
theorem d_X11_text_82 : decode cX11_text 82 = .ok (.aload_n 0, 1) ∧ 83 = 82 + 1 := by decide +kernel
theorem d_X11_text_83 : decode cX11_text 83 = .ok (.getfield 260, 3) ∧ 86 = 83 + 3 := by decide +kernel
theorem d_X11_text_86 : decode cX11_text 86 = .ok (.iconst 4, 1) ∧ 87 = 86 + 1 := by decide +kernel
theorem d_X11_text_87 : decode cX11_text 87 = .ok (.if_icmp .ne 10, 3) ∧ 90 = 87 + 3 ∧ (87 : Int) + 10 = ((97 : Nat) : Int) := by decide +kernel
theorem d_X11_text_90 : decode cX11_text 90 = .ok (.aload_n 0, 1) ∧ 91 = 90 + 1 := by decide +kernel
theorem d_X11_text_91 : decode cX11_text 91 = .ok (.getfield 200, 3) ∧ 94 = 91 + 3 := by decide +kernel
theorem d_X11_text_94 : decode cX11_text 94 = .ok (.ifCond .eq 73, 3) ∧ 97 = 94 + 3 ∧ (94 : Int) + 73 = ((167 : Nat) : Int) := by decide +kernel
theorem d_X11_text_97 : decode cX11_text 97 = .ok (.aload_n 0, 1) ∧ 98 = 97 + 1 := by decide +kernel
theorem d_X11_text_98 : decode cX11_text 98 = .ok (.getfield 260, 3) ∧ 101 = 98 + 3 := by decide +kernel
theorem d_X11_text_101 : decode cX11_text 101 = .ok (.tableswitch 59 0 3 #[31, 38, 45, 52], 31) := by decide +kernel
theorem d_X11_text_132 : decode cX11_text 132 = .ok (.aload_n 0, 1) ∧ 133 = 132 + 1 := by decide +kernel
theorem d_X11_text_133 : decode cX11_text 133 = .ok (.invokevirtual 299, 3) ∧ 136 = 133 + 3 := by decide +kernel
theorem d_X11_text_136 : decode cX11_text 136 = .ok (.goto (-61), 3) ∧ (136 : Int) + ((-61)) = ((75 : Nat) : Int) := by decide +kernel
theorem d_X11_text_139 : decode cX11_text 139 = .ok (.aload_n 0, 1) ∧ 140 = 139 + 1 := by decide +kernel
theorem d_X11_text_140 : decode cX11_text 140 = .ok (.invokevirtual 302, 3) ∧ 143 = 140 + 3 := by decide +kernel
theorem d_X11_text_143 : decode cX11_text 143 = .ok (.goto (-68), 3) ∧ (143 : Int) + ((-68)) = ((75 : Nat) : Int) := by decide +kernel
theorem d_X11_text_146 : decode cX11_text 146 = .ok (.aload_n 0, 1) ∧ 147 = 146 + 1 := by decide +kernel
theorem d_X11_text_147 : decode cX11_text 147 = .ok (.invokevirtual 305, 3) ∧ 150 = 147 + 3 := by decide +kernel
theorem d_X11_text_150 : decode cX11_text 150 = .ok (.goto (-75), 3) ∧ (150 : Int) + ((-75)) = ((75 : Nat) : Int) := by decide +kernel
theorem d_X11_text_153 : decode cX11_text 153 = .ok (.aload_n 0, 1) ∧ 154 = 153 + 1 := by decide +kernel
theorem d_X11_text_154 : decode cX11_text 154 = .ok (.invokevirtual 308, 3) ∧ 157 = 154 + 3 := by decide +kernel
theorem d_X11_text_157 : decode cX11_text 157 = .ok (.goto (-82), 3) ∧ (157 : Int) + ((-82)) = ((75 : Nat) : Int) := by decide +kernel
theorem d_X11_text_160 : decode cX11_text 160 = .ok (.aload_n 0, 1) ∧ 161 = 160 + 1 := by decide +kernel
theorem d_X11_text_161 : decode cX11_text 161 = .ok (.invokevirtual 311, 3) ∧ 164 = 161 + 3 := by decide +kernel
theorem d_X11_text_164 : decode cX11_text 164 = .ok (.goto (-89), 3) ∧ (164 : Int) + ((-89)) = ((75 : Nat) : Int) := by decide +kernel
theorem d_X11_text_167 : decode cX11_text 167 = .ok (.aload_n 0, 1) ∧ 168 = 167 + 1 := by decide +kernel
theorem d_X11_text_168 : decode cX11_text 168 = .ok (.aload_n 0, 1) ∧ 169 = 168 + 1 := by decide +kernel
theorem d_X11_text_169 : decode cX11_text 169 = .ok (.getfield 216, 3) ∧ 172 = 169 + 3 := by decide +kernel
theorem d_X11_text_172 : decode cX11_text 172 = .ok (.putfield 20, 3) ∧ 175 = 172 + 3 := by decide +kernel
theorem d_X11_text_175 : decode cX11_text 175 = .ok (.aload_n 0, 1) ∧ 176 = 175 + 1 := by decide +kernel
theorem d_X11_text_176 : decode cX11_text 176 = .ok (.aload_n 0, 1) ∧ 177 = 176 + 1 := by decide +kernel
theorem d_X11_text_177 : decode cX11_text 177 = .ok (.getfield 219, 3) ∧ 180 = 177 + 3 := by decide +kernel
theorem d_X11_text_180 : decode cX11_text 180 = .ok (.putfield 24, 3) ∧ 183 = 180 + 3 := by decide +kernel
theorem d_X11_text_183 : decode cX11_text 183 = .ok (.aload_n 0, 1) ∧ 184 = 183 + 1 := by decide +kernel
theorem d_X11_text_184 : decode cX11_text 184 = .ok (.getfield 216, 3) ∧ 187 = 184 + 3 := by decide +kernel
theorem d_X11_text_187 : decode cX11_text 187 = .ok (.ifCond .le 5, 3) ∧ 190 = 187 + 3 ∧ (187 : Int) + 5 = ((192 : Nat) : Int) := by decide +kernel
theorem d_X11_text_190 : decode cX11_text 190 = .ok (.iconst (-1), 1) ∧ 191 = 190 + 1 := by decide +kernel
theorem d_X11_text_191 : decode cX11_text 191 = .ok (.ireturn, 1) := by decide +kernel
theorem d_X11_text_192 : decode cX11_text 192 = .ok (.aload_n 0, 1) ∧ 193 = 192 + 1 := by decide +kernel
theorem d_X11_text_193 : decode cX11_text 193 = .ok (.aload_n 0, 1) ∧ 194 = 193 + 1 := by decide +kernel
theorem d_X11_text_194 : decode cX11_text 194 = .ok (.getfield 7, 3) ∧ 197 = 194 + 3 := by decide +kernel
theorem d_X11_text_197 : decode cX11_text 197 = .ok (.iconst 2, 1) ∧ 198 = 197 + 1 := by decide +kernel
theorem d_X11_text_198 : decode cX11_text 198 = .ok (.iaload, 1) ∧ 199 = 198 + 1 := by decide +kernel
theorem d_X11_text_199 : decode cX11_text 199 = .ok (.invokevirtual 314, 3) ∧ 202 = 199 + 3 := by decide +kernel
theorem d_X11_text_202 : decode cX11_text 202 = .ok (.aload_n 0, 1) ∧ 203 = 202 + 1 := by decide +kernel
theorem d_X11_text_203 : decode cX11_text 203 = .ok (.getfield 7, 3) ∧ 206 = 203 + 3 := by decide +kernel
theorem d_X11_text_206 : decode cX11_text 206 = .ok (.iconst 2, 1) ∧ 207 = 206 + 1 := by decide +kernel
theorem d_X11_text_207 : decode cX11_text 207 = .ok (.dup2, 1) ∧ 208 = 207 + 1 := by decide +kernel
theorem d_X11_text_208 : decode cX11_text 208 = .ok (.iaload, 1) ∧ 209 = 208 + 1 := by decide +kernel
theorem d_X11_text_209 : decode cX11_text 209 = .ok (.iconst 1, 1) ∧ 210 = 209 + 1 := by decide +kernel
theorem d_X11_text_210 : decode cX11_text 210 = .ok (.iadd, 1) ∧ 211 = 210 + 1 := by decide +kernel
theorem d_X11_text_211 : decode cX11_text 211 = .ok (.iastore, 1) ∧ 212 = 211 + 1 := by decide +kernel
theorem d_X11_text_212 : decode cX11_text 212 = .ok (.aload_n 0, 1) ∧ 213 = 212 + 1 := by decide +kernel
theorem d_X11_text_213 : decode cX11_text 213 = .ok (.getfield 7, 3) ∧ 216 = 213 + 3 := by decide +kernel
theorem d_X11_text_216 : decode cX11_text 216 = .ok (.iconst 2, 1) ∧ 217 = 216 + 1 := by decide +kernel
theorem d_X11_text_217 : decode cX11_text 217 = .ok (.iaload, 1) ∧ 218 = 217 + 1 := by decide +kernel
theorem d_X11_text_218 : decode cX11_text 218 = .ok (.iconst 1, 1) ∧ 219 = 218 + 1 := by decide +kernel
theorem d_X11_text_219 : decode cX11_text 219 = .ok (.isub, 1) ∧ 220 = 219 + 1 := by decide +kernel
theorem d_X11_text_220 : decode cX11_text 220 = .ok (.ireturn, 1) := by decide +kernel
theorem d_X11_keepsText_0 : decode cX11_keepsText 0 = .ok (.aload_n 0, 1) ∧ 1 = 0 + 1 := by decide +kernel
theorem d_X11_keepsText_1 : decode cX11_keepsText 1 = .ok (.getfield 27, 3) ∧ 4 = 1 + 3 := by decide +kernel
theorem d_X11_keepsText_4 : decode cX11_keepsText 4 = .ok (.iload_n 1, 1) ∧ 5 = 4 + 1 := by decide +kernel
theorem d_X11_keepsText_5 : decode cX11_keepsText 5 = .ok (.aload_n 0, 1) ∧ 6 = 5 + 1 := by decide +kernel
theorem d_X11_keepsText_6 : decode cX11_keepsText 6 = .ok (.getfield 290, 3) ∧ 9 = 6 + 3 := by decide +kernel
theorem d_X11_keepsText_9 : decode cX11_keepsText 9 = .ok (.iastore, 1) ∧ 10 = 9 + 1 := by decide +kernel
theorem d_X11_keepsText_10 : decode cX11_keepsText 10 = .ok (.iconst 0, 1) ∧ 11 = 10 + 1 := by decide +kernel
theorem d_X11_keepsText_11 : decode cX11_keepsText 11 = .ok (.istore_n 2, 1) ∧ 12 = 11 + 1 := by decide +kernel
theorem d_X11_keepsText_12 : decode cX11_keepsText 12 = .ok (.iload_n 2, 1) ∧ 13 = 12 + 1 := by decide +kernel
theorem d_X11_keepsText_13 : decode cX11_keepsText 13 = .ok (.aload_n 0, 1) ∧ 14 = 13 + 1 := by decide +kernel
theorem d_X11_keepsText_14 : decode cX11_keepsText 14 = .ok (.getfield 290, 3) ∧ 17 = 14 + 3 := by decide +kernel
theorem d_X11_keepsText_17 : decode cX11_keepsText 17 = .ok (.if_icmp .ge 66, 3) ∧ 20 = 17 + 3 ∧ (17 : Int) + 66 = ((83 : Nat) : Int) := by decide +kernel
theorem d_X11_keepsText_20 : decode cX11_keepsText 20 = .ok (.aload_n 0, 1) ∧ 21 = 20 + 1 := by decide +kernel
theorem d_X11_keepsText_21 : decode cX11_keepsText 21 = .ok (.getfield 30, 3) ∧ 24 = 21 + 3 := by decide +kernel
theorem d_X11_keepsText_24 : decode cX11_keepsText 24 = .ok (.bipush 10, 2) ∧ 26 = 24 + 2 := by decide +kernel
theorem d_X11_keepsText_26 : decode cX11_keepsText 26 = .ok (.iload_n 1, 1) ∧ 27 = 26 + 1 := by decide +kernel
theorem d_X11_keepsText_27 : decode cX11_keepsText 27 = .ok (.imul, 1) ∧ 28 = 27 + 1 := by decide +kernel
theorem d_X11_keepsText_28 : decode cX11_keepsText 28 = .ok (.iload_n 2, 1) ∧ 29 = 28 + 1 := by decide +kernel
theorem d_X11_keepsText_29 : decode cX11_keepsText 29 = .ok (.iadd, 1) ∧ 30 = 29 + 1 := by decide +kernel
theorem d_X11_keepsText_30 : decode cX11_keepsText 30 = .ok (.aload_n 0, 1) ∧ 31 = 30 + 1 := by decide +kernel
theorem d_X11_keepsText_31 : decode cX11_keepsText 31 = .ok (.getfield 57, 3) ∧ 34 = 31 + 3 := by decide +kernel
theorem d_X11_keepsText_34 : decode cX11_keepsText 34 = .ok (.iload_n 2, 1) ∧ 35 = 34 + 1 := by decide +kernel
theorem d_X11_keepsText_35 : decode cX11_keepsText 35 = .ok (.iaload, 1) ∧ 36 = 35 + 1 := by decide +kernel
theorem d_X11_keepsText_36 : decode cX11_keepsText 36 = .ok (.iastore, 1) ∧ 37 = 36 + 1 := by decide +kernel
theorem d_X11_keepsText_37 : decode cX11_keepsText 37 = .ok (.aload_n 0, 1) ∧ 38 = 37 + 1 := by decide +kernel
theorem d_X11_keepsText_38 : decode cX11_keepsText 38 = .ok (.getfield 33, 3) ∧ 41 = 38 + 3 := by decide +kernel
theorem d_X11_keepsText_41 : decode cX11_keepsText 41 = .ok (.bipush 10, 2) ∧ 43 = 41 + 2 := by decide +kernel
theorem d_X11_keepsText_43 : decode cX11_keepsText 43 = .ok (.iload_n 1, 1) ∧ 44 = 43 + 1 := by decide +kernel
theorem d_X11_keepsText_44 : decode cX11_keepsText 44 = .ok (.imul, 1) ∧ 45 = 44 + 1 := by decide +kernel
theorem d_X11_keepsText_45 : decode cX11_keepsText 45 = .ok (.iload_n 2, 1) ∧ 46 = 45 + 1 := by decide +kernel
theorem d_X11_keepsText_46 : decode cX11_keepsText 46 = .ok (.iadd, 1) ∧ 47 = 46 + 1 := by decide +kernel
theorem d_X11_keepsText_47 : decode cX11_keepsText 47 = .ok (.aload_n 0, 1) ∧ 48 = 47 + 1 := by decide +kernel
theorem d_X11_keepsText_48 : decode cX11_keepsText 48 = .ok (.getfield 60, 3) ∧ 51 = 48 + 3 := by decide +kernel
theorem d_X11_keepsText_51 : decode cX11_keepsText 51 = .ok (.iload_n 2, 1) ∧ 52 = 51 + 1 := by decide +kernel
theorem d_X11_keepsText_52 : decode cX11_keepsText 52 = .ok (.iaload, 1) ∧ 53 = 52 + 1 := by decide +kernel
theorem d_X11_keepsText_53 : decode cX11_keepsText 53 = .ok (.iastore, 1) ∧ 54 = 53 + 1 := by decide +kernel
theorem d_X11_keepsText_54 : decode cX11_keepsText 54 = .ok (.aload_n 0, 1) ∧ 55 = 54 + 1 := by decide +kernel
theorem d_X11_keepsText_55 : decode cX11_keepsText 55 = .ok (.getfield 36, 3) ∧ 58 = 55 + 3 := by decide +kernel
theorem d_X11_keepsText_58 : decode cX11_keepsText 58 = .ok (.bipush 10, 2) ∧ 60 = 58 + 2 := by decide +kernel
theorem d_X11_keepsText_60 : decode cX11_keepsText 60 = .ok (.iload_n 1, 1) ∧ 61 = 60 + 1 := by decide +kernel
theorem d_X11_keepsText_61 : decode cX11_keepsText 61 = .ok (.imul, 1) ∧ 62 = 61 + 1 := by decide +kernel
theorem d_X11_keepsText_62 : decode cX11_keepsText 62 = .ok (.iload_n 2, 1) ∧ 63 = 62 + 1 := by decide +kernel
theorem d_X11_keepsText_63 : decode cX11_keepsText 63 = .ok (.iadd, 1) ∧ 64 = 63 + 1 := by decide +kernel
theorem d_X11_keepsText_64 : decode cX11_keepsText 64 = .ok (.sipush 400, 3) ∧ 67 = 64 + 3 := by decide +kernel
theorem d_X11_keepsText_67 : decode cX11_keepsText 67 = .ok (.iload_n 1, 1) ∧ 68 = 67 + 1 := by decide +kernel
theorem d_X11_keepsText_68 : decode cX11_keepsText 68 = .ok (.imul, 1) ∧ 69 = 68 + 1 := by decide +kernel
theorem d_X11_keepsText_69 : decode cX11_keepsText 69 = .ok (.aload_n 0, 1) ∧ 70 = 69 + 1 := by decide +kernel
theorem d_X11_keepsText_70 : decode cX11_keepsText 70 = .ok (.getfield 63, 3) ∧ 73 = 70 + 3 := by decide +kernel
theorem d_X11_keepsText_73 : decode cX11_keepsText 73 = .ok (.iload_n 2, 1) ∧ 74 = 73 + 1 := by decide +kernel
theorem d_X11_keepsText_74 : decode cX11_keepsText 74 = .ok (.iaload, 1) ∧ 75 = 74 + 1 := by decide +kernel
theorem d_X11_keepsText_75 : decode cX11_keepsText 75 = .ok (.iadd, 1) ∧ 76 = 75 + 1 := by decide +kernel
theorem d_X11_keepsText_76 : decode cX11_keepsText 76 = .ok (.iastore, 1) ∧ 77 = 76 + 1 := by decide +kernel
theorem d_X11_keepsText_77 : decode cX11_keepsText 77 = .ok (.iinc 2 1, 3) ∧ 80 = 77 + 3 := by decide +kernel
theorem d_X11_keepsText_80 : decode cX11_keepsText 80 = .ok (.goto (-68), 3) ∧ (80 : Int) + ((-68)) = ((12 : Nat) : Int) := by decide +kernel
theorem d_X11_keepsText_83 : decode cX11_keepsText 83 = .ok (.iconst 0, 1) ∧ 84 = 83 + 1 := by decide +kernel
theorem d_X11_keepsText_84 : decode cX11_keepsText 84 = .ok (.istore_n 2, 1) ∧ 85 = 84 + 1 := by decide +kernel
theorem d_X11_keepsText_85 : decode cX11_keepsText 85 = .ok (.iload_n 2, 1) ∧ 86 = 85 + 1 := by decide +kernel
theorem d_X11_keepsText_86 : decode cX11_keepsText 86 = .ok (.aload_n 0, 1) ∧ 87 = 86 + 1 := by decide +kernel
theorem d_X11_keepsText_87 : decode cX11_keepsText 87 = .ok (.getfield 222, 3) ∧ 90 = 87 + 3 := by decide +kernel
theorem d_X11_keepsText_90 : decode cX11_keepsText 90 = .ok (.if_icmp .ge 45, 3) ∧ 93 = 90 + 3 ∧ (90 : Int) + 45 = ((135 : Nat) : Int) := by decide +kernel
theorem d_X11_keepsText_93 : decode cX11_keepsText 93 = .ok (.aload_n 0, 1) ∧ 94 = 93 + 1 := by decide +kernel
theorem d_X11_keepsText_94 : decode cX11_keepsText 94 = .ok (.getfield 39, 3) ∧ 97 = 94 + 3 := by decide +kernel
theorem d_X11_keepsText_97 : decode cX11_keepsText 97 = .ok (.sipush 400, 3) ∧ 100 = 97 + 3 := by decide +kernel
theorem d_X11_keepsText_100 : decode cX11_keepsText 100 = .ok (.iload_n 1, 1) ∧ 101 = 100 + 1 := by decide +kernel
theorem d_X11_keepsText_101 : decode cX11_keepsText 101 = .ok (.imul, 1) ∧ 102 = 101 + 1 := by decide +kernel
theorem d_X11_keepsText_102 : decode cX11_keepsText 102 = .ok (.iload_n 2, 1) ∧ 103 = 102 + 1 := by decide +kernel
theorem d_X11_keepsText_103 : decode cX11_keepsText 103 = .ok (.iadd, 1) ∧ 104 = 103 + 1 := by decide +kernel
theorem d_X11_keepsText_104 : decode cX11_keepsText 104 = .ok (.aload_n 0, 1) ∧ 105 = 104 + 1 := by decide +kernel
theorem d_X11_keepsText_105 : decode cX11_keepsText 105 = .ok (.getfield 66, 3) ∧ 108 = 105 + 3 := by decide +kernel
theorem d_X11_keepsText_108 : decode cX11_keepsText 108 = .ok (.iload_n 2, 1) ∧ 109 = 108 + 1 := by decide +kernel
theorem d_X11_keepsText_109 : decode cX11_keepsText 109 = .ok (.iaload, 1) ∧ 110 = 109 + 1 := by decide +kernel
theorem d_X11_keepsText_110 : decode cX11_keepsText 110 = .ok (.iastore, 1) ∧ 111 = 110 + 1 := by decide +kernel
theorem d_X11_keepsText_111 : decode cX11_keepsText 111 = .ok (.aload_n 0, 1) ∧ 112 = 111 + 1 := by decide +kernel
theorem d_X11_keepsText_112 : decode cX11_keepsText 112 = .ok (.getfield 42, 3) ∧ 115 = 112 + 3 := by decide +kernel
theorem d_X11_keepsText_115 : decode cX11_keepsText 115 = .ok (.sipush 400, 3) ∧ 118 = 115 + 3 := by decide +kernel
theorem d_X11_keepsText_118 : decode cX11_keepsText 118 = .ok (.iload_n 1, 1) ∧ 119 = 118 + 1 := by decide +kernel
theorem d_X11_keepsText_119 : decode cX11_keepsText 119 = .ok (.imul, 1) ∧ 120 = 119 + 1 := by decide +kernel
theorem d_X11_keepsText_120 : decode cX11_keepsText 120 = .ok (.iload_n 2, 1) ∧ 121 = 120 + 1 := by decide +kernel
theorem d_X11_keepsText_121 : decode cX11_keepsText 121 = .ok (.iadd, 1) ∧ 122 = 121 + 1 := by decide +kernel
theorem d_X11_keepsText_122 : decode cX11_keepsText 122 = .ok (.aload_n 0, 1) ∧ 123 = 122 + 1 := by decide +kernel
theorem d_X11_keepsText_123 : decode cX11_keepsText 123 = .ok (.getfield 69, 3) ∧ 126 = 123 + 3 := by decide +kernel
theorem d_X11_keepsText_126 : decode cX11_keepsText 126 = .ok (.iload_n 2, 1) ∧ 127 = 126 + 1 := by decide +kernel
theorem d_X11_keepsText_127 : decode cX11_keepsText 127 = .ok (.iaload, 1) ∧ 128 = 127 + 1 := by decide +kernel
theorem d_X11_keepsText_128 : decode cX11_keepsText 128 = .ok (.iastore, 1) ∧ 129 = 128 + 1 := by decide +kernel
theorem d_X11_keepsText_129 : decode cX11_keepsText 129 = .ok (.iinc 2 1, 3) ∧ 132 = 129 + 3 := by decide +kernel
theorem d_X11_keepsText_132 : decode cX11_keepsText 132 = .ok (.goto (-47), 3) ∧ (132 : Int) + ((-47)) = ((85 : Nat) : Int) := by decide +kernel
theorem d_X11_keepsText_135 : decode cX11_keepsText 135 = .ok (.return_, 1) := by decide +kernel
theorem d_X11_fault_0 : decode cX11_fault 0 = .ok (.iload_n 1, 1) ∧ 1 = 0 + 1 := by decide +kernel
theorem d_X11_fault_1 : decode cX11_fault 1 = .ok (.ifCond .ne 10, 3) ∧ 4 = 1 + 3 ∧ (1 : Int) + 10 = ((11 : Nat) : Int) := by decide +kernel
theorem d_X11_fault_4 : decode cX11_fault 4 = .ok (.aload_n 0, 1) ∧ 5 = 4 + 1 := by decide +kernel
theorem d_X11_fault_5 : decode cX11_fault 5 = .ok (.getfield 20, 3) ∧ 8 = 5 + 3 := by decide +kernel
theorem d_X11_fault_8 : decode cX11_fault 8 = .ok (.goto 16, 3) ∧ (8 : Int) + (16) = ((24 : Nat) : Int) := by decide +kernel
theorem d_X11_fault_11 : decode cX11_fault 11 = .ok (.iload_n 1, 1) ∧ 12 = 11 + 1 := by decide +kernel
theorem d_X11_fault_12 : decode cX11_fault 12 = .ok (.iconst 1, 1) ∧ 13 = 12 + 1 := by decide +kernel
theorem d_X11_fault_13 : decode cX11_fault 13 = .ok (.if_icmp .ne 10, 3) ∧ 16 = 13 + 3 ∧ (13 : Int) + 10 = ((23 : Nat) : Int) := by decide +kernel
theorem d_X11_fault_16 : decode cX11_fault 16 = .ok (.aload_n 0, 1) ∧ 17 = 16 + 1 := by decide +kernel
theorem d_X11_fault_17 : decode cX11_fault 17 = .ok (.getfield 24, 3) ∧ 20 = 17 + 3 := by decide +kernel
theorem d_X11_fault_20 : decode cX11_fault 20 = .ok (.goto 4, 3) ∧ (20 : Int) + (4) = ((24 : Nat) : Int) := by decide +kernel
theorem d_X11_fault_23 : decode cX11_fault 23 = .ok (.iconst (-1), 1) ∧ 24 = 23 + 1 := by decide +kernel
theorem d_X11_fault_24 : decode cX11_fault 24 = .ok (.ireturn, 1) := by decide +kernel
theorem d_X11_bound_0 : decode cX11_bound 0 = .ok (.lload_n 0, 1) ∧ 1 = 0 + 1 := by decide +kernel
theorem d_X11_bound_1 : decode cX11_bound 1 = .ok (.ldc2_w 317, 3) ∧ 4 = 1 + 3 := by decide +kernel
theorem d_X11_bound_4 : decode cX11_bound 4 = .ok (.lcmp, 1) ∧ 5 = 4 + 1 := by decide +kernel
theorem d_X11_bound_5 : decode cX11_bound 5 = .ok (.ifCond .le 9, 3) ∧ 8 = 5 + 3 ∧ (5 : Int) + 9 = ((14 : Nat) : Int) := by decide +kernel
theorem d_X11_bound_8 : decode cX11_bound 8 = .ok (.ldc2_w 317, 3) ∧ 11 = 8 + 3 := by decide +kernel
theorem d_X11_bound_11 : decode cX11_bound 11 = .ok (.goto 18, 3) ∧ (11 : Int) + (18) = ((29 : Nat) : Int) := by decide +kernel
theorem d_X11_bound_14 : decode cX11_bound 14 = .ok (.lload_n 0, 1) ∧ 15 = 14 + 1 := by decide +kernel
theorem d_X11_bound_15 : decode cX11_bound 15 = .ok (.ldc2_w 319, 3) ∧ 18 = 15 + 3 := by decide +kernel
theorem d_X11_bound_18 : decode cX11_bound 18 = .ok (.lcmp, 1) ∧ 19 = 18 + 1 := by decide +kernel
theorem d_X11_bound_19 : decode cX11_bound 19 = .ok (.ifCond .ge 9, 3) ∧ 22 = 19 + 3 ∧ (19 : Int) + 9 = ((28 : Nat) : Int) := by decide +kernel
theorem d_X11_bound_22 : decode cX11_bound 22 = .ok (.ldc2_w 319, 3) ∧ 25 = 22 + 3 := by decide +kernel
theorem d_X11_bound_25 : decode cX11_bound 25 = .ok (.goto 4, 3) ∧ (25 : Int) + (4) = ((29 : Nat) : Int) := by decide +kernel
theorem d_X11_bound_28 : decode cX11_bound 28 = .ok (.lload_n 0, 1) ∧ 29 = 28 + 1 := by decide +kernel
theorem d_X11_bound_29 : decode cX11_bound 29 = .ok (.lreturn, 1) := by decide +kernel
theorem d_X11_worked_0 : decode cX11_worked 0 = .ok (.iload_n 0, 1) ∧ 1 = 0 + 1 := by decide +kernel
theorem d_X11_worked_1 : decode cX11_worked 1 = .ok (.lookupswitch 210 #[(35, 170), (42, 113), (43, 99), (45, 106), (47, 120), (60, 134), (61, 158), (62, 146), (300, 182), (301, 194), (406, 206)], 99) := by decide +kernel
theorem d_X11_worked_100 : decode cX11_worked 100 = .ok (.lload_n 1, 1) ∧ 101 = 100 + 1 := by decide +kernel
theorem d_X11_worked_101 : decode cX11_worked 101 = .ok (.lload_n 3, 1) ∧ 102 = 101 + 1 := by decide +kernel
theorem d_X11_worked_102 : decode cX11_worked 102 = .ok (.ladd, 1) ∧ 103 = 102 + 1 := by decide +kernel
theorem d_X11_worked_103 : decode cX11_worked 103 = .ok (.invokestatic 321, 3) ∧ 106 = 103 + 3 := by decide +kernel
theorem d_X11_worked_106 : decode cX11_worked 106 = .ok (.lreturn, 1) := by decide +kernel
theorem d_X11_worked_107 : decode cX11_worked 107 = .ok (.lload_n 1, 1) ∧ 108 = 107 + 1 := by decide +kernel
theorem d_X11_worked_108 : decode cX11_worked 108 = .ok (.lload_n 3, 1) ∧ 109 = 108 + 1 := by decide +kernel
theorem d_X11_worked_109 : decode cX11_worked 109 = .ok (.lsub, 1) ∧ 110 = 109 + 1 := by decide +kernel
theorem d_X11_worked_110 : decode cX11_worked 110 = .ok (.invokestatic 321, 3) ∧ 113 = 110 + 3 := by decide +kernel
theorem d_X11_worked_113 : decode cX11_worked 113 = .ok (.lreturn, 1) := by decide +kernel
theorem d_X11_worked_114 : decode cX11_worked 114 = .ok (.lload_n 1, 1) ∧ 115 = 114 + 1 := by decide +kernel
theorem d_X11_worked_115 : decode cX11_worked 115 = .ok (.lload_n 3, 1) ∧ 116 = 115 + 1 := by decide +kernel
theorem d_X11_worked_116 : decode cX11_worked 116 = .ok (.lmul, 1) ∧ 117 = 116 + 1 := by decide +kernel
theorem d_X11_worked_117 : decode cX11_worked 117 = .ok (.invokestatic 321, 3) ∧ 120 = 117 + 3 := by decide +kernel
theorem d_X11_worked_120 : decode cX11_worked 120 = .ok (.lreturn, 1) := by decide +kernel
theorem d_X11_worked_121 : decode cX11_worked 121 = .ok (.lload_n 3, 1) ∧ 122 = 121 + 1 := by decide +kernel
theorem d_X11_worked_122 : decode cX11_worked 122 = .ok (.lconst 0, 1) ∧ 123 = 122 + 1 := by decide +kernel
theorem d_X11_worked_123 : decode cX11_worked 123 = .ok (.lcmp, 1) ∧ 124 = 123 + 1 := by decide +kernel
theorem d_X11_worked_124 : decode cX11_worked 124 = .ok (.ifCond .ne 7, 3) ∧ 127 = 124 + 3 ∧ (124 : Int) + 7 = ((131 : Nat) : Int) := by decide +kernel
theorem d_X11_worked_127 : decode cX11_worked 127 = .ok (.lconst 0, 1) ∧ 128 = 127 + 1 := by decide +kernel
theorem d_X11_worked_128 : decode cX11_worked 128 = .ok (.goto 6, 3) ∧ (128 : Int) + (6) = ((134 : Nat) : Int) := by decide +kernel
theorem d_X11_worked_131 : decode cX11_worked 131 = .ok (.lload_n 1, 1) ∧ 132 = 131 + 1 := by decide +kernel
theorem d_X11_worked_132 : decode cX11_worked 132 = .ok (.lload_n 3, 1) ∧ 133 = 132 + 1 := by decide +kernel
theorem d_X11_worked_133 : decode cX11_worked 133 = .ok (.ldiv, 1) ∧ 134 = 133 + 1 := by decide +kernel
theorem d_X11_worked_134 : decode cX11_worked 134 = .ok (.lreturn, 1) := by decide +kernel
theorem d_X11_worked_135 : decode cX11_worked 135 = .ok (.lload_n 1, 1) ∧ 136 = 135 + 1 := by decide +kernel
theorem d_X11_worked_136 : decode cX11_worked 136 = .ok (.lload_n 3, 1) ∧ 137 = 136 + 1 := by decide +kernel
theorem d_X11_worked_137 : decode cX11_worked 137 = .ok (.lcmp, 1) ∧ 138 = 137 + 1 := by decide +kernel
theorem d_X11_worked_138 : decode cX11_worked 138 = .ok (.ifCond .ge 7, 3) ∧ 141 = 138 + 3 ∧ (138 : Int) + 7 = ((145 : Nat) : Int) := by decide +kernel
theorem d_X11_worked_141 : decode cX11_worked 141 = .ok (.lconst 1, 1) ∧ 142 = 141 + 1 := by decide +kernel
theorem d_X11_worked_142 : decode cX11_worked 142 = .ok (.goto 4, 3) ∧ (142 : Int) + (4) = ((146 : Nat) : Int) := by decide +kernel
theorem d_X11_worked_145 : decode cX11_worked 145 = .ok (.lconst 0, 1) ∧ 146 = 145 + 1 := by decide +kernel
theorem d_X11_worked_146 : decode cX11_worked 146 = .ok (.lreturn, 1) := by decide +kernel
theorem d_X11_worked_147 : decode cX11_worked 147 = .ok (.lload_n 1, 1) ∧ 148 = 147 + 1 := by decide +kernel
theorem d_X11_worked_148 : decode cX11_worked 148 = .ok (.lload_n 3, 1) ∧ 149 = 148 + 1 := by decide +kernel
theorem d_X11_worked_149 : decode cX11_worked 149 = .ok (.lcmp, 1) ∧ 150 = 149 + 1 := by decide +kernel
theorem d_X11_worked_150 : decode cX11_worked 150 = .ok (.ifCond .le 7, 3) ∧ 153 = 150 + 3 ∧ (150 : Int) + 7 = ((157 : Nat) : Int) := by decide +kernel
theorem d_X11_worked_153 : decode cX11_worked 153 = .ok (.lconst 1, 1) ∧ 154 = 153 + 1 := by decide +kernel
theorem d_X11_worked_154 : decode cX11_worked 154 = .ok (.goto 4, 3) ∧ (154 : Int) + (4) = ((158 : Nat) : Int) := by decide +kernel
theorem d_X11_worked_157 : decode cX11_worked 157 = .ok (.lconst 0, 1) ∧ 158 = 157 + 1 := by decide +kernel
theorem d_X11_worked_158 : decode cX11_worked 158 = .ok (.lreturn, 1) := by decide +kernel
theorem d_X11_worked_159 : decode cX11_worked 159 = .ok (.lload_n 1, 1) ∧ 160 = 159 + 1 := by decide +kernel
theorem d_X11_worked_160 : decode cX11_worked 160 = .ok (.lload_n 3, 1) ∧ 161 = 160 + 1 := by decide +kernel
theorem d_X11_worked_161 : decode cX11_worked 161 = .ok (.lcmp, 1) ∧ 162 = 161 + 1 := by decide +kernel
theorem d_X11_worked_162 : decode cX11_worked 162 = .ok (.ifCond .ne 7, 3) ∧ 165 = 162 + 3 ∧ (162 : Int) + 7 = ((169 : Nat) : Int) := by decide +kernel
theorem d_X11_worked_165 : decode cX11_worked 165 = .ok (.lconst 1, 1) ∧ 166 = 165 + 1 := by decide +kernel
theorem d_X11_worked_166 : decode cX11_worked 166 = .ok (.goto 4, 3) ∧ (166 : Int) + (4) = ((170 : Nat) : Int) := by decide +kernel
theorem d_X11_worked_169 : decode cX11_worked 169 = .ok (.lconst 0, 1) ∧ 170 = 169 + 1 := by decide +kernel
theorem d_X11_worked_170 : decode cX11_worked 170 = .ok (.lreturn, 1) := by decide +kernel
theorem d_X11_worked_171 : decode cX11_worked 171 = .ok (.lload_n 1, 1) ∧ 172 = 171 + 1 := by decide +kernel
theorem d_X11_worked_172 : decode cX11_worked 172 = .ok (.lload_n 3, 1) ∧ 173 = 172 + 1 := by decide +kernel
theorem d_X11_worked_173 : decode cX11_worked 173 = .ok (.lcmp, 1) ∧ 174 = 173 + 1 := by decide +kernel
theorem d_X11_worked_174 : decode cX11_worked 174 = .ok (.ifCond .eq 7, 3) ∧ 177 = 174 + 3 ∧ (174 : Int) + 7 = ((181 : Nat) : Int) := by decide +kernel
theorem d_X11_worked_177 : decode cX11_worked 177 = .ok (.lconst 1, 1) ∧ 178 = 177 + 1 := by decide +kernel
theorem d_X11_worked_178 : decode cX11_worked 178 = .ok (.goto 4, 3) ∧ (178 : Int) + (4) = ((182 : Nat) : Int) := by decide +kernel
theorem d_X11_worked_181 : decode cX11_worked 181 = .ok (.lconst 0, 1) ∧ 182 = 181 + 1 := by decide +kernel
theorem d_X11_worked_182 : decode cX11_worked 182 = .ok (.lreturn, 1) := by decide +kernel
theorem d_X11_worked_183 : decode cX11_worked 183 = .ok (.lload_n 1, 1) ∧ 184 = 183 + 1 := by decide +kernel
theorem d_X11_worked_184 : decode cX11_worked 184 = .ok (.lload_n 3, 1) ∧ 185 = 184 + 1 := by decide +kernel
theorem d_X11_worked_185 : decode cX11_worked 185 = .ok (.lcmp, 1) ∧ 186 = 185 + 1 := by decide +kernel
theorem d_X11_worked_186 : decode cX11_worked 186 = .ok (.ifCond .gt 7, 3) ∧ 189 = 186 + 3 ∧ (186 : Int) + 7 = ((193 : Nat) : Int) := by decide +kernel
theorem d_X11_worked_189 : decode cX11_worked 189 = .ok (.lconst 1, 1) ∧ 190 = 189 + 1 := by decide +kernel
theorem d_X11_worked_190 : decode cX11_worked 190 = .ok (.goto 4, 3) ∧ (190 : Int) + (4) = ((194 : Nat) : Int) := by decide +kernel
theorem d_X11_worked_193 : decode cX11_worked 193 = .ok (.lconst 0, 1) ∧ 194 = 193 + 1 := by decide +kernel
theorem d_X11_worked_194 : decode cX11_worked 194 = .ok (.lreturn, 1) := by decide +kernel
theorem d_X11_worked_195 : decode cX11_worked 195 = .ok (.lload_n 1, 1) ∧ 196 = 195 + 1 := by decide +kernel
theorem d_X11_worked_196 : decode cX11_worked 196 = .ok (.lload_n 3, 1) ∧ 197 = 196 + 1 := by decide +kernel
theorem d_X11_worked_197 : decode cX11_worked 197 = .ok (.lcmp, 1) ∧ 198 = 197 + 1 := by decide +kernel
theorem d_X11_worked_198 : decode cX11_worked 198 = .ok (.ifCond .lt 7, 3) ∧ 201 = 198 + 3 ∧ (198 : Int) + 7 = ((205 : Nat) : Int) := by decide +kernel
theorem d_X11_worked_201 : decode cX11_worked 201 = .ok (.lconst 1, 1) ∧ 202 = 201 + 1 := by decide +kernel
theorem d_X11_worked_202 : decode cX11_worked 202 = .ok (.goto 4, 3) ∧ (202 : Int) + (4) = ((206 : Nat) : Int) := by decide +kernel
theorem d_X11_worked_205 : decode cX11_worked 205 = .ok (.lconst 0, 1) ∧ 206 = 205 + 1 := by decide +kernel
theorem d_X11_worked_206 : decode cX11_worked 206 = .ok (.lreturn, 1) := by decide +kernel
theorem d_X11_worked_207 : decode cX11_worked 207 = .ok (.lload_n 1, 1) ∧ 208 = 207 + 1 := by decide +kernel
theorem d_X11_worked_208 : decode cX11_worked 208 = .ok (.lload_n 3, 1) ∧ 209 = 208 + 1 := by decide +kernel
theorem d_X11_worked_209 : decode cX11_worked 209 = .ok (.lmul, 1) ∧ 210 = 209 + 1 := by decide +kernel
theorem d_X11_worked_210 : decode cX11_worked 210 = .ok (.lreturn, 1) := by decide +kernel
theorem d_X11_worked_211 : decode cX11_worked 211 = .ok (.lload_n 1, 1) ∧ 212 = 211 + 1 := by decide +kernel
theorem d_X11_worked_212 : decode cX11_worked 212 = .ok (.lload_n 3, 1) ∧ 213 = 212 + 1 := by decide +kernel
theorem d_X11_worked_213 : decode cX11_worked 213 = .ok (.ladd, 1) ∧ 214 = 213 + 1 := by decide +kernel
theorem d_X11_worked_214 : decode cX11_worked 214 = .ok (.lconst 0, 1) ∧ 215 = 214 + 1 := by decide +kernel
theorem d_X11_worked_215 : decode cX11_worked 215 = .ok (.lcmp, 1) ∧ 216 = 215 + 1 := by decide +kernel
theorem d_X11_worked_216 : decode cX11_worked 216 = .ok (.ifCond .le 7, 3) ∧ 219 = 216 + 3 ∧ (216 : Int) + 7 = ((223 : Nat) : Int) := by decide +kernel
theorem d_X11_worked_219 : decode cX11_worked 219 = .ok (.lconst 1, 1) ∧ 220 = 219 + 1 := by decide +kernel
theorem d_X11_worked_220 : decode cX11_worked 220 = .ok (.goto 4, 3) ∧ (220 : Int) + (4) = ((224 : Nat) : Int) := by decide +kernel
theorem d_X11_worked_223 : decode cX11_worked 223 = .ok (.lconst 0, 1) ∧ 224 = 223 + 1 := by decide +kernel
theorem d_X11_worked_224 : decode cX11_worked 224 = .ok (.lreturn, 1) := by decide +kernel
theorem d_X11_tells_0 : decode cX11_tells 0 = .ok (.iconst 0, 1) ∧ 1 = 0 + 1 := by decide +kernel
theorem d_X11_tells_1 : decode cX11_tells 1 = .ok (.istore_n 2, 1) ∧ 2 = 1 + 1 := by decide +kernel
theorem d_X11_tells_2 : decode cX11_tells 2 = .ok (.iload_n 1, 1) ∧ 3 = 2 + 1 := by decide +kernel
theorem d_X11_tells_3 : decode cX11_tells 3 = .ok (.istore_n 3, 1) ∧ 4 = 3 + 1 := by decide +kernel
theorem d_X11_tells_4 : decode cX11_tells 4 = .ok (.aload_n 0, 1) ∧ 5 = 4 + 1 := by decide +kernel
theorem d_X11_tells_5 : decode cX11_tells 5 = .ok (.getfield 39, 3) ∧ 8 = 5 + 3 := by decide +kernel
theorem d_X11_tells_8 : decode cX11_tells 8 = .ok (.iload_n 3, 1) ∧ 9 = 8 + 1 := by decide +kernel
theorem d_X11_tells_9 : decode cX11_tells 9 = .ok (.iaload, 1) ∧ 10 = 9 + 1 := by decide +kernel
theorem d_X11_tells_10 : decode cX11_tells 10 = .ok (.sipush 408, 3) ∧ 13 = 10 + 3 := by decide +kernel
theorem d_X11_tells_13 : decode cX11_tells 13 = .ok (.if_icmp .eq 162, 3) ∧ 16 = 13 + 3 ∧ (13 : Int) + 162 = ((175 : Nat) : Int) := by decide +kernel
theorem d_X11_tells_16 : decode cX11_tells 16 = .ok (.aload_n 0, 1) ∧ 17 = 16 + 1 := by decide +kernel
theorem d_X11_tells_17 : decode cX11_tells 17 = .ok (.getfield 39, 3) ∧ 20 = 17 + 3 := by decide +kernel
theorem d_X11_tells_20 : decode cX11_tells 20 = .ok (.iload_n 3, 1) ∧ 21 = 20 + 1 := by decide +kernel
theorem d_X11_tells_21 : decode cX11_tells 21 = .ok (.iaload, 1) ∧ 22 = 21 + 1 := by decide +kernel
theorem d_X11_tells_22 : decode cX11_tells 22 = .ok (.istore 4, 2) ∧ 24 = 22 + 2 := by decide +kernel
theorem d_X11_tells_24 : decode cX11_tells 24 = .ok (.iload 4, 2) ∧ 26 = 24 + 2 := by decide +kernel
theorem d_X11_tells_26 : decode cX11_tells 26 = .ok (.sipush 400, 3) ∧ 29 = 26 + 3 := by decide +kernel
theorem d_X11_tells_29 : decode cX11_tells 29 = .ok (.if_icmp .eq 11, 3) ∧ 32 = 29 + 3 ∧ (29 : Int) + 11 = ((40 : Nat) : Int) := by decide +kernel
theorem d_X11_tells_32 : decode cX11_tells 32 = .ok (.iload 4, 2) ∧ 34 = 32 + 2 := by decide +kernel
theorem d_X11_tells_34 : decode cX11_tells 34 = .ok (.sipush 401, 3) ∧ 37 = 34 + 3 := by decide +kernel
theorem d_X11_tells_37 : decode cX11_tells 37 = .ok (.if_icmp .ne 45, 3) ∧ 40 = 37 + 3 ∧ (37 : Int) + 45 = ((82 : Nat) : Int) := by decide +kernel
theorem d_X11_tells_40 : decode cX11_tells 40 = .ok (.aload_n 0, 1) ∧ 41 = 40 + 1 := by decide +kernel
theorem d_X11_tells_41 : decode cX11_tells 41 = .ok (.getfield 75, 3) ∧ 44 = 41 + 3 := by decide +kernel
theorem d_X11_tells_44 : decode cX11_tells 44 = .ok (.iload_n 2, 1) ∧ 45 = 44 + 1 := by decide +kernel
theorem d_X11_tells_45 : decode cX11_tells 45 = .ok (.iload 4, 2) ∧ 47 = 45 + 2 := by decide +kernel
theorem d_X11_tells_47 : decode cX11_tells 47 = .ok (.sipush 400, 3) ∧ 50 = 47 + 3 := by decide +kernel
theorem d_X11_tells_50 : decode cX11_tells 50 = .ok (.if_icmp .ne 13, 3) ∧ 53 = 50 + 3 ∧ (50 : Int) + 13 = ((63 : Nat) : Int) := by decide +kernel
theorem d_X11_tells_53 : decode cX11_tells 53 = .ok (.aload_n 0, 1) ∧ 54 = 53 + 1 := by decide +kernel
theorem d_X11_tells_54 : decode cX11_tells 54 = .ok (.getfield 42, 3) ∧ 57 = 54 + 3 := by decide +kernel
theorem d_X11_tells_57 : decode cX11_tells 57 = .ok (.iload_n 3, 1) ∧ 58 = 57 + 1 := by decide +kernel
theorem d_X11_tells_58 : decode cX11_tells 58 = .ok (.iaload, 1) ∧ 59 = 58 + 1 := by decide +kernel
theorem d_X11_tells_59 : decode cX11_tells 59 = .ok (.i2l, 1) ∧ 60 = 59 + 1 := by decide +kernel
theorem d_X11_tells_60 : decode cX11_tells 60 = .ok (.goto 15, 3) ∧ (60 : Int) + (15) = ((75 : Nat) : Int) := by decide +kernel
theorem d_X11_tells_63 : decode cX11_tells 63 = .ok (.aload_n 0, 1) ∧ 64 = 63 + 1 := by decide +kernel
theorem d_X11_tells_64 : decode cX11_tells 64 = .ok (.getfield 72, 3) ∧ 67 = 64 + 3 := by decide +kernel
theorem d_X11_tells_67 : decode cX11_tells 67 = .ok (.aload_n 0, 1) ∧ 68 = 67 + 1 := by decide +kernel
theorem d_X11_tells_68 : decode cX11_tells 68 = .ok (.getfield 42, 3) ∧ 71 = 68 + 3 := by decide +kernel
theorem d_X11_tells_71 : decode cX11_tells 71 = .ok (.iload_n 3, 1) ∧ 72 = 71 + 1 := by decide +kernel
theorem d_X11_tells_72 : decode cX11_tells 72 = .ok (.iaload, 1) ∧ 73 = 72 + 1 := by decide +kernel
theorem d_X11_tells_73 : decode cX11_tells 73 = .ok (.iaload, 1) ∧ 74 = 73 + 1 := by decide +kernel
theorem d_X11_tells_74 : decode cX11_tells 74 = .ok (.i2l, 1) ∧ 75 = 74 + 1 := by decide +kernel
theorem d_X11_tells_75 : decode cX11_tells 75 = .ok (.lastore, 1) ∧ 76 = 75 + 1 := by decide +kernel
theorem d_X11_tells_76 : decode cX11_tells 76 = .ok (.iinc 2 1, 3) ∧ 79 = 76 + 3 := by decide +kernel
theorem d_X11_tells_79 : decode cX11_tells 79 = .ok (.goto 90, 3) ∧ (79 : Int) + (90) = ((169 : Nat) : Int) := by decide +kernel
theorem d_X11_tells_82 : decode cX11_tells 82 = .ok (.iload 4, 2) ∧ 84 = 82 + 2 := by decide +kernel
theorem d_X11_tells_84 : decode cX11_tells 84 = .ok (.sipush 402, 3) ∧ 87 = 84 + 3 := by decide +kernel
theorem d_X11_tells_87 : decode cX11_tells 87 = .ok (.if_icmp .ne 23, 3) ∧ 90 = 87 + 3 ∧ (87 : Int) + 23 = ((110 : Nat) : Int) := by decide +kernel
theorem d_X11_tells_90 : decode cX11_tells 90 = .ok (.aload_n 0, 1) ∧ 91 = 90 + 1 := by decide +kernel
theorem d_X11_tells_91 : decode cX11_tells 91 = .ok (.getfield 75, 3) ∧ 94 = 91 + 3 := by decide +kernel
theorem d_X11_tells_94 : decode cX11_tells 94 = .ok (.iload_n 2, 1) ∧ 95 = 94 + 1 := by decide +kernel
theorem d_X11_tells_95 : decode cX11_tells 95 = .ok (.iconst 1, 1) ∧ 96 = 95 + 1 := by decide +kernel
theorem d_X11_tells_96 : decode cX11_tells 96 = .ok (.isub, 1) ∧ 97 = 96 + 1 := by decide +kernel
theorem d_X11_tells_97 : decode cX11_tells 97 = .ok (.aload_n 0, 1) ∧ 98 = 97 + 1 := by decide +kernel
theorem d_X11_tells_98 : decode cX11_tells 98 = .ok (.getfield 75, 3) ∧ 101 = 98 + 3 := by decide +kernel
theorem d_X11_tells_101 : decode cX11_tells 101 = .ok (.iload_n 2, 1) ∧ 102 = 101 + 1 := by decide +kernel
theorem d_X11_tells_102 : decode cX11_tells 102 = .ok (.iconst 1, 1) ∧ 103 = 102 + 1 := by decide +kernel
theorem d_X11_tells_103 : decode cX11_tells 103 = .ok (.isub, 1) ∧ 104 = 103 + 1 := by decide +kernel
theorem d_X11_tells_104 : decode cX11_tells 104 = .ok (.laload, 1) ∧ 105 = 104 + 1 := by decide +kernel
theorem d_X11_tells_105 : decode cX11_tells 105 = .ok (.lneg, 1) ∧ 106 = 105 + 1 := by decide +kernel
theorem d_X11_tells_106 : decode cX11_tells 106 = .ok (.lastore, 1) ∧ 107 = 106 + 1 := by decide +kernel
theorem d_X11_tells_107 : decode cX11_tells 107 = .ok (.goto 62, 3) ∧ (107 : Int) + (62) = ((169 : Nat) : Int) := by decide +kernel
theorem d_X11_tells_110 : decode cX11_tells 110 = .ok (.iload 4, 2) ∧ 112 = 110 + 2 := by decide +kernel
theorem d_X11_tells_112 : decode cX11_tells 112 = .ok (.sipush 405, 3) ∧ 115 = 112 + 3 := by decide +kernel
theorem d_X11_tells_115 : decode cX11_tells 115 = .ok (.if_icmp .ne 24, 3) ∧ 118 = 115 + 3 ∧ (115 : Int) + 24 = ((139 : Nat) : Int) := by decide +kernel
theorem d_X11_tells_118 : decode cX11_tells 118 = .ok (.aload_n 0, 1) ∧ 119 = 118 + 1 := by decide +kernel
theorem d_X11_tells_119 : decode cX11_tells 119 = .ok (.getfield 75, 3) ∧ 122 = 119 + 3 := by decide +kernel
theorem d_X11_tells_122 : decode cX11_tells 122 = .ok (.iload_n 2, 1) ∧ 123 = 122 + 1 := by decide +kernel
theorem d_X11_tells_123 : decode cX11_tells 123 = .ok (.iconst 1, 1) ∧ 124 = 123 + 1 := by decide +kernel
theorem d_X11_tells_124 : decode cX11_tells 124 = .ok (.isub, 1) ∧ 125 = 124 + 1 := by decide +kernel
theorem d_X11_tells_125 : decode cX11_tells 125 = .ok (.lconst 1, 1) ∧ 126 = 125 + 1 := by decide +kernel
theorem d_X11_tells_126 : decode cX11_tells 126 = .ok (.aload_n 0, 1) ∧ 127 = 126 + 1 := by decide +kernel
theorem d_X11_tells_127 : decode cX11_tells 127 = .ok (.getfield 75, 3) ∧ 130 = 127 + 3 := by decide +kernel
theorem d_X11_tells_130 : decode cX11_tells 130 = .ok (.iload_n 2, 1) ∧ 131 = 130 + 1 := by decide +kernel
theorem d_X11_tells_131 : decode cX11_tells 131 = .ok (.iconst 1, 1) ∧ 132 = 131 + 1 := by decide +kernel
theorem d_X11_tells_132 : decode cX11_tells 132 = .ok (.isub, 1) ∧ 133 = 132 + 1 := by decide +kernel
theorem d_X11_tells_133 : decode cX11_tells 133 = .ok (.laload, 1) ∧ 134 = 133 + 1 := by decide +kernel
theorem d_X11_tells_134 : decode cX11_tells 134 = .ok (.lsub, 1) ∧ 135 = 134 + 1 := by decide +kernel
theorem d_X11_tells_135 : decode cX11_tells 135 = .ok (.lastore, 1) ∧ 136 = 135 + 1 := by decide +kernel
theorem d_X11_tells_136 : decode cX11_tells 136 = .ok (.goto 33, 3) ∧ (136 : Int) + (33) = ((169 : Nat) : Int) := by decide +kernel
theorem d_X11_tells_139 : decode cX11_tells 139 = .ok (.iinc 2 (-1), 3) ∧ 142 = 139 + 3 := by decide +kernel
theorem d_X11_tells_142 : decode cX11_tells 142 = .ok (.aload_n 0, 1) ∧ 143 = 142 + 1 := by decide +kernel
theorem d_X11_tells_143 : decode cX11_tells 143 = .ok (.getfield 75, 3) ∧ 146 = 143 + 3 := by decide +kernel
theorem d_X11_tells_146 : decode cX11_tells 146 = .ok (.iload_n 2, 1) ∧ 147 = 146 + 1 := by decide +kernel
theorem d_X11_tells_147 : decode cX11_tells 147 = .ok (.iconst 1, 1) ∧ 148 = 147 + 1 := by decide +kernel
theorem d_X11_tells_148 : decode cX11_tells 148 = .ok (.isub, 1) ∧ 149 = 148 + 1 := by decide +kernel
theorem d_X11_tells_149 : decode cX11_tells 149 = .ok (.iload 4, 2) ∧ 151 = 149 + 2 := by decide +kernel
theorem d_X11_tells_151 : decode cX11_tells 151 = .ok (.aload_n 0, 1) ∧ 152 = 151 + 1 := by decide +kernel
theorem d_X11_tells_152 : decode cX11_tells 152 = .ok (.getfield 75, 3) ∧ 155 = 152 + 3 := by decide +kernel
theorem d_X11_tells_155 : decode cX11_tells 155 = .ok (.iload_n 2, 1) ∧ 156 = 155 + 1 := by decide +kernel
theorem d_X11_tells_156 : decode cX11_tells 156 = .ok (.iconst 1, 1) ∧ 157 = 156 + 1 := by decide +kernel
theorem d_X11_tells_157 : decode cX11_tells 157 = .ok (.isub, 1) ∧ 158 = 157 + 1 := by decide +kernel
theorem d_X11_tells_158 : decode cX11_tells 158 = .ok (.laload, 1) ∧ 159 = 158 + 1 := by decide +kernel
theorem d_X11_tells_159 : decode cX11_tells 159 = .ok (.aload_n 0, 1) ∧ 160 = 159 + 1 := by decide +kernel
theorem d_X11_tells_160 : decode cX11_tells 160 = .ok (.getfield 75, 3) ∧ 163 = 160 + 3 := by decide +kernel
theorem d_X11_tells_163 : decode cX11_tells 163 = .ok (.iload_n 2, 1) ∧ 164 = 163 + 1 := by decide +kernel
theorem d_X11_tells_164 : decode cX11_tells 164 = .ok (.laload, 1) ∧ 165 = 164 + 1 := by decide +kernel
theorem d_X11_tells_165 : decode cX11_tells 165 = .ok (.invokestatic 325, 3) ∧ 168 = 165 + 3 := by decide +kernel
theorem d_X11_tells_168 : decode cX11_tells 168 = .ok (.lastore, 1) ∧ 169 = 168 + 1 := by decide +kernel
theorem d_X11_tells_169 : decode cX11_tells 169 = .ok (.iinc 3 1, 3) ∧ 172 = 169 + 3 := by decide +kernel
theorem d_X11_tells_172 : decode cX11_tells 172 = .ok (.goto (-168), 3) ∧ (172 : Int) + ((-168)) = ((4 : Nat) : Int) := by decide +kernel
theorem d_X11_tells_175 : decode cX11_tells 175 = .ok (.aload_n 0, 1) ∧ 176 = 175 + 1 := by decide +kernel
theorem d_X11_tells_176 : decode cX11_tells 176 = .ok (.getfield 75, 3) ∧ 179 = 176 + 3 := by decide +kernel
theorem d_X11_tells_179 : decode cX11_tells 179 = .ok (.iconst 0, 1) ∧ 180 = 179 + 1 := by decide +kernel
theorem d_X11_tells_180 : decode cX11_tells 180 = .ok (.laload, 1) ∧ 181 = 180 + 1 := by decide +kernel
theorem d_X11_tells_181 : decode cX11_tells 181 = .ok (.lreturn, 1) := by decide +kernel
theorem d_X11_isText_0 : decode cX11_isText 0 = .ok (.iload_n 1, 1) ∧ 1 = 0 + 1 := by decide +kernel
theorem d_X11_isText_1 : decode cX11_isText 1 = .ok (.iconst 0, 1) ∧ 2 = 1 + 1 := by decide +kernel
theorem d_X11_isText_2 : decode cX11_isText 2 = .ok (.aload_n 0, 1) ∧ 3 = 2 + 1 := by decide +kernel
theorem d_X11_isText_3 : decode cX11_isText 3 = .ok (.getfield 7, 3) ∧ 6 = 3 + 3 := by decide +kernel
theorem d_X11_isText_6 : decode cX11_isText 6 = .ok (.iconst 2, 1) ∧ 7 = 6 + 1 := by decide +kernel
theorem d_X11_isText_7 : decode cX11_isText 7 = .ok (.iaload, 1) ∧ 8 = 7 + 1 := by decide +kernel
theorem d_X11_isText_8 : decode cX11_isText 8 = .ok (.iconst 1, 1) ∧ 9 = 8 + 1 := by decide +kernel
theorem d_X11_isText_9 : decode cX11_isText 9 = .ok (.isub, 1) ∧ 10 = 9 + 1 := by decide +kernel
theorem d_X11_isText_10 : decode cX11_isText 10 = .ok (.invokestatic 101, 3) ∧ 13 = 10 + 3 := by decide +kernel
theorem d_X11_isText_13 : decode cX11_isText 13 = .ok (.ireturn, 1) := by decide +kernel
theorem d_X11_names_0 : decode cX11_names 0 = .ok (.iconst 0, 1) ∧ 1 = 0 + 1 := by decide +kernel
theorem d_X11_names_1 : decode cX11_names 1 = .ok (.istore_n 3, 1) ∧ 2 = 1 + 1 := by decide +kernel
theorem d_X11_names_2 : decode cX11_names 2 = .ok (.iload_n 3, 1) ∧ 3 = 2 + 1 := by decide +kernel
theorem d_X11_names_3 : decode cX11_names 3 = .ok (.iconst 4, 1) ∧ 4 = 3 + 1 := by decide +kernel
theorem d_X11_names_4 : decode cX11_names 4 = .ok (.if_icmp .ge 23, 3) ∧ 7 = 4 + 3 ∧ (4 : Int) + 23 = ((27 : Nat) : Int) := by decide +kernel
theorem d_X11_names_7 : decode cX11_names 7 = .ok (.aload_n 0, 1) ∧ 8 = 7 + 1 := by decide +kernel
theorem d_X11_names_8 : decode cX11_names 8 = .ok (.getfield 72, 3) ∧ 11 = 8 + 3 := by decide +kernel
theorem d_X11_names_11 : decode cX11_names 11 = .ok (.iload_n 1, 1) ∧ 12 = 11 + 1 := by decide +kernel
theorem d_X11_names_12 : decode cX11_names 12 = .ok (.iload_n 3, 1) ∧ 13 = 12 + 1 := by decide +kernel
theorem d_X11_names_13 : decode cX11_names 13 = .ok (.iadd, 1) ∧ 14 = 13 + 1 := by decide +kernel
theorem d_X11_names_14 : decode cX11_names 14 = .ok (.aload_n 0, 1) ∧ 15 = 14 + 1 := by decide +kernel
theorem d_X11_names_15 : decode cX11_names 15 = .ok (.iload_n 2, 1) ∧ 16 = 15 + 1 := by decide +kernel
theorem d_X11_names_16 : decode cX11_names 16 = .ok (.iload_n 3, 1) ∧ 17 = 16 + 1 := by decide +kernel
theorem d_X11_names_17 : decode cX11_names 17 = .ok (.invokevirtual 116, 3) ∧ 20 = 17 + 3 := by decide +kernel
theorem d_X11_names_20 : decode cX11_names 20 = .ok (.iastore, 1) ∧ 21 = 20 + 1 := by decide +kernel
theorem d_X11_names_21 : decode cX11_names 21 = .ok (.iinc 3 1, 3) ∧ 24 = 21 + 3 := by decide +kernel
theorem d_X11_names_24 : decode cX11_names 24 = .ok (.goto (-22), 3) ∧ (24 : Int) + ((-22)) = ((2 : Nat) : Int) := by decide +kernel
theorem d_X11_names_27 : decode cX11_names 27 = .ok (.return_, 1) := by decide +kernel
theorem d_X11_isSome_0 : decode cX11_isSome 0 = .ok (.iconst 0, 1) ∧ 1 = 0 + 1 := by decide +kernel
theorem d_X11_isSome_1 : decode cX11_isSome 1 = .ok (.istore_n 3, 1) ∧ 2 = 1 + 1 := by decide +kernel
theorem d_X11_isSome_2 : decode cX11_isSome 2 = .ok (.iconst 0, 1) ∧ 3 = 2 + 1 := by decide +kernel
theorem d_X11_isSome_3 : decode cX11_isSome 3 = .ok (.istore 4, 2) ∧ 5 = 3 + 2 := by decide +kernel
theorem d_X11_isSome_5 : decode cX11_isSome 5 = .ok (.iload 4, 2) ∧ 7 = 5 + 2 := by decide +kernel
theorem d_X11_isSome_7 : decode cX11_isSome 7 = .ok (.aload_n 0, 1) ∧ 8 = 7 + 1 := by decide +kernel
theorem d_X11_isSome_8 : decode cX11_isSome 8 = .ok (.getfield 27, 3) ∧ 11 = 8 + 3 := by decide +kernel
theorem d_X11_isSome_11 : decode cX11_isSome 11 = .ok (.iload_n 1, 1) ∧ 12 = 11 + 1 := by decide +kernel
theorem d_X11_isSome_12 : decode cX11_isSome 12 = .ok (.iaload, 1) ∧ 13 = 12 + 1 := by decide +kernel
theorem d_X11_isSome_13 : decode cX11_isSome 13 = .ok (.if_icmp .ge 56, 3) ∧ 16 = 13 + 3 ∧ (13 : Int) + 56 = ((69 : Nat) : Int) := by decide +kernel
theorem d_X11_isSome_16 : decode cX11_isSome 16 = .ok (.iload_n 3, 1) ∧ 17 = 16 + 1 := by decide +kernel
theorem d_X11_isSome_17 : decode cX11_isSome 17 = .ok (.ifCond .ne 40, 3) ∧ 20 = 17 + 3 ∧ (17 : Int) + 40 = ((57 : Nat) : Int) := by decide +kernel
theorem d_X11_isSome_20 : decode cX11_isSome 20 = .ok (.aload_n 0, 1) ∧ 21 = 20 + 1 := by decide +kernel
theorem d_X11_isSome_21 : decode cX11_isSome 21 = .ok (.getfield 30, 3) ∧ 24 = 21 + 3 := by decide +kernel
theorem d_X11_isSome_24 : decode cX11_isSome 24 = .ok (.bipush 10, 2) ∧ 26 = 24 + 2 := by decide +kernel
theorem d_X11_isSome_26 : decode cX11_isSome 26 = .ok (.iload_n 1, 1) ∧ 27 = 26 + 1 := by decide +kernel
theorem d_X11_isSome_27 : decode cX11_isSome 27 = .ok (.imul, 1) ∧ 28 = 27 + 1 := by decide +kernel
theorem d_X11_isSome_28 : decode cX11_isSome 28 = .ok (.iload 4, 2) ∧ 30 = 28 + 2 := by decide +kernel
theorem d_X11_isSome_30 : decode cX11_isSome 30 = .ok (.iadd, 1) ∧ 31 = 30 + 1 := by decide +kernel
theorem d_X11_isSome_31 : decode cX11_isSome 31 = .ok (.iaload, 1) ∧ 32 = 31 + 1 := by decide +kernel
theorem d_X11_isSome_32 : decode cX11_isSome 32 = .ok (.iload_n 2, 1) ∧ 33 = 32 + 1 := by decide +kernel
theorem d_X11_isSome_33 : decode cX11_isSome 33 = .ok (.if_icmp .ne 28, 3) ∧ 36 = 33 + 3 ∧ (33 : Int) + 28 = ((61 : Nat) : Int) := by decide +kernel
theorem d_X11_isSome_36 : decode cX11_isSome 36 = .ok (.aload_n 0, 1) ∧ 37 = 36 + 1 := by decide +kernel
theorem d_X11_isSome_37 : decode cX11_isSome 37 = .ok (.aload_n 0, 1) ∧ 38 = 37 + 1 := by decide +kernel
theorem d_X11_isSome_38 : decode cX11_isSome 38 = .ok (.getfield 36, 3) ∧ 41 = 38 + 3 := by decide +kernel
theorem d_X11_isSome_41 : decode cX11_isSome 41 = .ok (.bipush 10, 2) ∧ 43 = 41 + 2 := by decide +kernel
theorem d_X11_isSome_43 : decode cX11_isSome 43 = .ok (.iload_n 1, 1) ∧ 44 = 43 + 1 := by decide +kernel
theorem d_X11_isSome_44 : decode cX11_isSome 44 = .ok (.imul, 1) ∧ 45 = 44 + 1 := by decide +kernel
theorem d_X11_isSome_45 : decode cX11_isSome 45 = .ok (.iload 4, 2) ∧ 47 = 45 + 2 := by decide +kernel
theorem d_X11_isSome_47 : decode cX11_isSome 47 = .ok (.iadd, 1) ∧ 48 = 47 + 1 := by decide +kernel
theorem d_X11_isSome_48 : decode cX11_isSome 48 = .ok (.iaload, 1) ∧ 49 = 48 + 1 := by decide +kernel
theorem d_X11_isSome_49 : decode cX11_isSome 49 = .ok (.invokevirtual 329, 3) ∧ 52 = 49 + 3 := by decide +kernel
theorem d_X11_isSome_52 : decode cX11_isSome 52 = .ok (.lconst 0, 1) ∧ 53 = 52 + 1 := by decide +kernel
theorem d_X11_isSome_53 : decode cX11_isSome 53 = .ok (.lcmp, 1) ∧ 54 = 53 + 1 := by decide +kernel
theorem d_X11_isSome_54 : decode cX11_isSome 54 = .ok (.ifCond .le 7, 3) ∧ 57 = 54 + 3 ∧ (54 : Int) + 7 = ((61 : Nat) : Int) := by decide +kernel
theorem d_X11_isSome_57 : decode cX11_isSome 57 = .ok (.iconst 1, 1) ∧ 58 = 57 + 1 := by decide +kernel
theorem d_X11_isSome_58 : decode cX11_isSome 58 = .ok (.goto 4, 3) ∧ (58 : Int) + (4) = ((62 : Nat) : Int) := by decide +kernel
theorem d_X11_isSome_61 : decode cX11_isSome 61 = .ok (.iconst 0, 1) ∧ 62 = 61 + 1 := by decide +kernel
theorem d_X11_isSome_62 : decode cX11_isSome 62 = .ok (.istore_n 3, 1) ∧ 63 = 62 + 1 := by decide +kernel
theorem d_X11_isSome_63 : decode cX11_isSome 63 = .ok (.iinc 4 1, 3) ∧ 66 = 63 + 3 := by decide +kernel
theorem d_X11_isSome_66 : decode cX11_isSome 66 = .ok (.goto (-61), 3) ∧ (66 : Int) + ((-61)) = ((5 : Nat) : Int) := by decide +kernel
theorem d_X11_isSome_69 : decode cX11_isSome 69 = .ok (.iload_n 3, 1) ∧ 70 = 69 + 1 := by decide +kernel
theorem d_X11_isSome_70 : decode cX11_isSome 70 = .ok (.ireturn, 1) := by decide +kernel
theorem d_X11_numberOf_0 : decode cX11_numberOf 0 = .ok (.iconst (-1), 1) ∧ 1 = 0 + 1 := by decide +kernel
theorem d_X11_numberOf_1 : decode cX11_numberOf 1 = .ok (.istore_n 3, 1) ∧ 2 = 1 + 1 := by decide +kernel
theorem d_X11_numberOf_2 : decode cX11_numberOf 2 = .ok (.iconst 0, 1) ∧ 3 = 2 + 1 := by decide +kernel
theorem d_X11_numberOf_3 : decode cX11_numberOf 3 = .ok (.istore 4, 2) ∧ 5 = 3 + 2 := by decide +kernel
theorem d_X11_numberOf_5 : decode cX11_numberOf 5 = .ok (.iload 4, 2) ∧ 7 = 5 + 2 := by decide +kernel
theorem d_X11_numberOf_7 : decode cX11_numberOf 7 = .ok (.aload_n 0, 1) ∧ 8 = 7 + 1 := by decide +kernel
theorem d_X11_numberOf_8 : decode cX11_numberOf 8 = .ok (.getfield 27, 3) ∧ 11 = 8 + 3 := by decide +kernel
theorem d_X11_numberOf_11 : decode cX11_numberOf 11 = .ok (.iload_n 1, 1) ∧ 12 = 11 + 1 := by decide +kernel
theorem d_X11_numberOf_12 : decode cX11_numberOf 12 = .ok (.iaload, 1) ∧ 13 = 12 + 1 := by decide +kernel
theorem d_X11_numberOf_13 : decode cX11_numberOf 13 = .ok (.if_icmp .ge 42, 3) ∧ 16 = 13 + 3 ∧ (13 : Int) + 42 = ((55 : Nat) : Int) := by decide +kernel
theorem d_X11_numberOf_16 : decode cX11_numberOf 16 = .ok (.aload_n 0, 1) ∧ 17 = 16 + 1 := by decide +kernel
theorem d_X11_numberOf_17 : decode cX11_numberOf 17 = .ok (.getfield 30, 3) ∧ 20 = 17 + 3 := by decide +kernel
theorem d_X11_numberOf_20 : decode cX11_numberOf 20 = .ok (.bipush 10, 2) ∧ 22 = 20 + 2 := by decide +kernel
theorem d_X11_numberOf_22 : decode cX11_numberOf 22 = .ok (.iload_n 1, 1) ∧ 23 = 22 + 1 := by decide +kernel
theorem d_X11_numberOf_23 : decode cX11_numberOf 23 = .ok (.imul, 1) ∧ 24 = 23 + 1 := by decide +kernel
theorem d_X11_numberOf_24 : decode cX11_numberOf 24 = .ok (.iload 4, 2) ∧ 26 = 24 + 2 := by decide +kernel
theorem d_X11_numberOf_26 : decode cX11_numberOf 26 = .ok (.iadd, 1) ∧ 27 = 26 + 1 := by decide +kernel
theorem d_X11_numberOf_27 : decode cX11_numberOf 27 = .ok (.iaload, 1) ∧ 28 = 27 + 1 := by decide +kernel
theorem d_X11_numberOf_28 : decode cX11_numberOf 28 = .ok (.iload_n 2, 1) ∧ 29 = 28 + 1 := by decide +kernel
theorem d_X11_numberOf_29 : decode cX11_numberOf 29 = .ok (.if_icmp .ne 18, 3) ∧ 32 = 29 + 3 ∧ (29 : Int) + 18 = ((47 : Nat) : Int) := by decide +kernel
theorem d_X11_numberOf_32 : decode cX11_numberOf 32 = .ok (.aload_n 0, 1) ∧ 33 = 32 + 1 := by decide +kernel
theorem d_X11_numberOf_33 : decode cX11_numberOf 33 = .ok (.getfield 33, 3) ∧ 36 = 33 + 3 := by decide +kernel
theorem d_X11_numberOf_36 : decode cX11_numberOf 36 = .ok (.bipush 10, 2) ∧ 38 = 36 + 2 := by decide +kernel
theorem d_X11_numberOf_38 : decode cX11_numberOf 38 = .ok (.iload_n 1, 1) ∧ 39 = 38 + 1 := by decide +kernel
theorem d_X11_numberOf_39 : decode cX11_numberOf 39 = .ok (.imul, 1) ∧ 40 = 39 + 1 := by decide +kernel
theorem d_X11_numberOf_40 : decode cX11_numberOf 40 = .ok (.iload 4, 2) ∧ 42 = 40 + 2 := by decide +kernel
theorem d_X11_numberOf_42 : decode cX11_numberOf 42 = .ok (.iadd, 1) ∧ 43 = 42 + 1 := by decide +kernel
theorem d_X11_numberOf_43 : decode cX11_numberOf 43 = .ok (.iaload, 1) ∧ 44 = 43 + 1 := by decide +kernel
theorem d_X11_numberOf_44 : decode cX11_numberOf 44 = .ok (.goto 4, 3) ∧ (44 : Int) + (4) = ((48 : Nat) : Int) := by decide +kernel
theorem d_X11_numberOf_47 : decode cX11_numberOf 47 = .ok (.iload_n 3, 1) ∧ 48 = 47 + 1 := by decide +kernel
theorem d_X11_numberOf_48 : decode cX11_numberOf 48 = .ok (.istore_n 3, 1) ∧ 49 = 48 + 1 := by decide +kernel
theorem d_X11_numberOf_49 : decode cX11_numberOf 49 = .ok (.iinc 4 1, 3) ∧ 52 = 49 + 3 := by decide +kernel
theorem d_X11_numberOf_52 : decode cX11_numberOf 52 = .ok (.goto (-47), 3) ∧ (52 : Int) + ((-47)) = ((5 : Nat) : Int) := by decide +kernel
theorem d_X11_numberOf_55 : decode cX11_numberOf 55 = .ok (.iload_n 3, 1) ∧ 56 = 55 + 1 := by decide +kernel
theorem d_X11_numberOf_56 : decode cX11_numberOf 56 = .ok (.ireturn, 1) := by decide +kernel
theorem d_X11_laysDeals_0 : decode cX11_laysDeals 0 = .ok (.aload_n 0, 1) ∧ 1 = 0 + 1 := by decide +kernel
theorem d_X11_laysDeals_1 : decode cX11_laysDeals 1 = .ok (.getfield 7, 3) ∧ 4 = 1 + 3 := by decide +kernel
theorem d_X11_laysDeals_4 : decode cX11_laysDeals 4 = .ok (.iconst 0, 1) ∧ 5 = 4 + 1 := by decide +kernel
theorem d_X11_laysDeals_5 : decode cX11_laysDeals 5 = .ok (.iaload, 1) ∧ 6 = 5 + 1 := by decide +kernel
theorem d_X11_laysDeals_6 : decode cX11_laysDeals 6 = .ok (.istore_n 2, 1) ∧ 7 = 6 + 1 := by decide +kernel
theorem d_X11_laysDeals_7 : decode cX11_laysDeals 7 = .ok (.iconst 0, 1) ∧ 8 = 7 + 1 := by decide +kernel
theorem d_X11_laysDeals_8 : decode cX11_laysDeals 8 = .ok (.istore_n 3, 1) ∧ 9 = 8 + 1 := by decide +kernel
theorem d_X11_laysDeals_9 : decode cX11_laysDeals 9 = .ok (.iconst 0, 1) ∧ 10 = 9 + 1 := by decide +kernel
theorem d_X11_laysDeals_10 : decode cX11_laysDeals 10 = .ok (.istore 4, 2) ∧ 12 = 10 + 2 := by decide +kernel
theorem d_X11_laysDeals_12 : decode cX11_laysDeals 12 = .ok (.iconst 0, 1) ∧ 13 = 12 + 1 := by decide +kernel
theorem d_X11_laysDeals_13 : decode cX11_laysDeals 13 = .ok (.istore 5, 2) ∧ 15 = 13 + 2 := by decide +kernel
theorem d_X11_laysDeals_15 : decode cX11_laysDeals 15 = .ok (.iload 5, 2) ∧ 17 = 15 + 2 := by decide +kernel
theorem d_X11_laysDeals_17 : decode cX11_laysDeals 17 = .ok (.iload_n 2, 1) ∧ 18 = 17 + 1 := by decide +kernel
theorem d_X11_laysDeals_18 : decode cX11_laysDeals 18 = .ok (.if_icmp .ge 165, 3) ∧ 21 = 18 + 3 ∧ (18 : Int) + 165 = ((183 : Nat) : Int) := by decide +kernel
theorem d_X11_laysDeals_21 : decode cX11_laysDeals 21 = .ok (.aload_n 0, 1) ∧ 22 = 21 + 1 := by decide +kernel
theorem d_X11_laysDeals_22 : decode cX11_laysDeals 22 = .ok (.getfield 82, 3) ∧ 25 = 22 + 3 := by decide +kernel
theorem d_X11_laysDeals_25 : decode cX11_laysDeals 25 = .ok (.iload 5, 2) ∧ 27 = 25 + 2 := by decide +kernel
theorem d_X11_laysDeals_27 : decode cX11_laysDeals 27 = .ok (.iconst 0, 1) ∧ 28 = 27 + 1 := by decide +kernel
theorem d_X11_laysDeals_28 : decode cX11_laysDeals 28 = .ok (.iastore, 1) ∧ 29 = 28 + 1 := by decide +kernel
theorem d_X11_laysDeals_29 : decode cX11_laysDeals 29 = .ok (.aload_n 0, 1) ∧ 30 = 29 + 1 := by decide +kernel
theorem d_X11_laysDeals_30 : decode cX11_laysDeals 30 = .ok (.getfield 85, 3) ∧ 33 = 30 + 3 := by decide +kernel
theorem d_X11_laysDeals_33 : decode cX11_laysDeals 33 = .ok (.iload 5, 2) ∧ 35 = 33 + 2 := by decide +kernel
theorem d_X11_laysDeals_35 : decode cX11_laysDeals 35 = .ok (.iconst 0, 1) ∧ 36 = 35 + 1 := by decide +kernel
theorem d_X11_laysDeals_36 : decode cX11_laysDeals 36 = .ok (.iastore, 1) ∧ 37 = 36 + 1 := by decide +kernel
theorem d_X11_laysDeals_37 : decode cX11_laysDeals 37 = .ok (.aload_n 0, 1) ∧ 38 = 37 + 1 := by decide +kernel
theorem d_X11_laysDeals_38 : decode cX11_laysDeals 38 = .ok (.iconst 0, 1) ∧ 39 = 38 + 1 := by decide +kernel
theorem d_X11_laysDeals_39 : decode cX11_laysDeals 39 = .ok (.iload 5, 2) ∧ 41 = 39 + 2 := by decide +kernel
theorem d_X11_laysDeals_41 : decode cX11_laysDeals 41 = .ok (.invokevirtual 333, 3) ∧ 44 = 41 + 3 := by decide +kernel
theorem d_X11_laysDeals_44 : decode cX11_laysDeals 44 = .ok (.aload_n 0, 1) ∧ 45 = 44 + 1 := by decide +kernel
theorem d_X11_laysDeals_45 : decode cX11_laysDeals 45 = .ok (.iload_n 1, 1) ∧ 46 = 45 + 1 := by decide +kernel
theorem d_X11_laysDeals_46 : decode cX11_laysDeals 46 = .ok (.iconst 5, 1) ∧ 47 = 46 + 1 := by decide +kernel
theorem d_X11_laysDeals_47 : decode cX11_laysDeals 47 = .ok (.invokevirtual 336, 3) ∧ 50 = 47 + 3 := by decide +kernel
theorem d_X11_laysDeals_50 : decode cX11_laysDeals 50 = .ok (.ifCond .eq 12, 3) ∧ 53 = 50 + 3 ∧ (50 : Int) + 12 = ((62 : Nat) : Int) := by decide +kernel
theorem d_X11_laysDeals_53 : decode cX11_laysDeals 53 = .ok (.iload_n 3, 1) ∧ 54 = 53 + 1 := by decide +kernel
theorem d_X11_laysDeals_54 : decode cX11_laysDeals 54 = .ok (.iconst 1, 1) ∧ 55 = 54 + 1 := by decide +kernel
theorem d_X11_laysDeals_55 : decode cX11_laysDeals 55 = .ok (.iload 5, 2) ∧ 57 = 55 + 2 := by decide +kernel
theorem d_X11_laysDeals_57 : decode cX11_laysDeals 57 = .ok (.ishl, 1) ∧ 58 = 57 + 1 := by decide +kernel
theorem d_X11_laysDeals_58 : decode cX11_laysDeals 58 = .ok (.ior, 1) ∧ 59 = 58 + 1 := by decide +kernel
theorem d_X11_laysDeals_59 : decode cX11_laysDeals 59 = .ok (.goto 4, 3) ∧ (59 : Int) + (4) = ((63 : Nat) : Int) := by decide +kernel
theorem d_X11_laysDeals_62 : decode cX11_laysDeals 62 = .ok (.iload_n 3, 1) ∧ 63 = 62 + 1 := by decide +kernel
theorem d_X11_laysDeals_63 : decode cX11_laysDeals 63 = .ok (.istore_n 3, 1) ∧ 64 = 63 + 1 := by decide +kernel
theorem d_X11_laysDeals_64 : decode cX11_laysDeals 64 = .ok (.iload 4, 2) ∧ 66 = 64 + 2 := by decide +kernel
theorem d_X11_laysDeals_66 : decode cX11_laysDeals 66 = .ok (.aload_n 0, 1) ∧ 67 = 66 + 1 := by decide +kernel
theorem d_X11_laysDeals_67 : decode cX11_laysDeals 67 = .ok (.iload 5, 2) ∧ 69 = 67 + 2 := by decide +kernel
theorem d_X11_laysDeals_69 : decode cX11_laysDeals 69 = .ok (.iconst 1, 1) ∧ 70 = 69 + 1 := by decide +kernel
theorem d_X11_laysDeals_70 : decode cX11_laysDeals 70 = .ok (.invokevirtual 116, 3) ∧ 73 = 70 + 3 := by decide +kernel
theorem d_X11_laysDeals_73 : decode cX11_laysDeals 73 = .ok (.iadd, 1) ∧ 74 = 73 + 1 := by decide +kernel
theorem d_X11_laysDeals_74 : decode cX11_laysDeals 74 = .ok (.istore 4, 2) ∧ 76 = 74 + 2 := by decide +kernel
theorem d_X11_laysDeals_76 : decode cX11_laysDeals 76 = .ok (.iload 5, 2) ∧ 78 = 76 + 2 := by decide +kernel
theorem d_X11_laysDeals_78 : decode cX11_laysDeals 78 = .ok (.iconst 1, 1) ∧ 79 = 78 + 1 := by decide +kernel
theorem d_X11_laysDeals_79 : decode cX11_laysDeals 79 = .ok (.iadd, 1) ∧ 80 = 79 + 1 := by decide +kernel
theorem d_X11_laysDeals_80 : decode cX11_laysDeals 80 = .ok (.istore 6, 2) ∧ 82 = 80 + 2 := by decide +kernel
theorem d_X11_laysDeals_82 : decode cX11_laysDeals 82 = .ok (.iload 6, 2) ∧ 84 = 82 + 2 := by decide +kernel
theorem d_X11_laysDeals_84 : decode cX11_laysDeals 84 = .ok (.iload_n 2, 1) ∧ 85 = 84 + 1 := by decide +kernel
theorem d_X11_laysDeals_85 : decode cX11_laysDeals 85 = .ok (.if_icmp .ge 92, 3) ∧ 88 = 85 + 3 ∧ (85 : Int) + 92 = ((177 : Nat) : Int) := by decide +kernel
theorem d_X11_laysDeals_88 : decode cX11_laysDeals 88 = .ok (.aload_n 0, 1) ∧ 89 = 88 + 1 := by decide +kernel
theorem d_X11_laysDeals_89 : decode cX11_laysDeals 89 = .ok (.iconst 4, 1) ∧ 90 = 89 + 1 := by decide +kernel
theorem d_X11_laysDeals_90 : decode cX11_laysDeals 90 = .ok (.iload 6, 2) ∧ 92 = 90 + 2 := by decide +kernel
theorem d_X11_laysDeals_92 : decode cX11_laysDeals 92 = .ok (.invokevirtual 333, 3) ∧ 95 = 92 + 3 := by decide +kernel
theorem d_X11_laysDeals_95 : decode cX11_laysDeals 95 = .ok (.aload_n 0, 1) ∧ 96 = 95 + 1 := by decide +kernel
theorem d_X11_laysDeals_96 : decode cX11_laysDeals 96 = .ok (.getfield 82, 3) ∧ 99 = 96 + 3 := by decide +kernel
theorem d_X11_laysDeals_99 : decode cX11_laysDeals 99 = .ok (.iload 5, 2) ∧ 101 = 99 + 2 := by decide +kernel
theorem d_X11_laysDeals_101 : decode cX11_laysDeals 101 = .ok (.aload_n 0, 1) ∧ 102 = 101 + 1 := by decide +kernel
theorem d_X11_laysDeals_102 : decode cX11_laysDeals 102 = .ok (.iload_n 1, 1) ∧ 103 = 102 + 1 := by decide +kernel
theorem d_X11_laysDeals_103 : decode cX11_laysDeals 103 = .ok (.iconst 3, 1) ∧ 104 = 103 + 1 := by decide +kernel
theorem d_X11_laysDeals_104 : decode cX11_laysDeals 104 = .ok (.invokevirtual 336, 3) ∧ 107 = 104 + 3 := by decide +kernel
theorem d_X11_laysDeals_107 : decode cX11_laysDeals 107 = .ok (.ifCond .eq 18, 3) ∧ 110 = 107 + 3 ∧ (107 : Int) + 18 = ((125 : Nat) : Int) := by decide +kernel
theorem d_X11_laysDeals_110 : decode cX11_laysDeals 110 = .ok (.aload_n 0, 1) ∧ 111 = 110 + 1 := by decide +kernel
theorem d_X11_laysDeals_111 : decode cX11_laysDeals 111 = .ok (.getfield 82, 3) ∧ 114 = 111 + 3 := by decide +kernel
theorem d_X11_laysDeals_114 : decode cX11_laysDeals 114 = .ok (.iload 5, 2) ∧ 116 = 114 + 2 := by decide +kernel
theorem d_X11_laysDeals_116 : decode cX11_laysDeals 116 = .ok (.iaload, 1) ∧ 117 = 116 + 1 := by decide +kernel
theorem d_X11_laysDeals_117 : decode cX11_laysDeals 117 = .ok (.iconst 1, 1) ∧ 118 = 117 + 1 := by decide +kernel
theorem d_X11_laysDeals_118 : decode cX11_laysDeals 118 = .ok (.iload 6, 2) ∧ 120 = 118 + 2 := by decide +kernel
theorem d_X11_laysDeals_120 : decode cX11_laysDeals 120 = .ok (.ishl, 1) ∧ 121 = 120 + 1 := by decide +kernel
theorem d_X11_laysDeals_121 : decode cX11_laysDeals 121 = .ok (.ior, 1) ∧ 122 = 121 + 1 := by decide +kernel
theorem d_X11_laysDeals_122 : decode cX11_laysDeals 122 = .ok (.goto 10, 3) ∧ (122 : Int) + (10) = ((132 : Nat) : Int) := by decide +kernel
theorem d_X11_laysDeals_125 : decode cX11_laysDeals 125 = .ok (.aload_n 0, 1) ∧ 126 = 125 + 1 := by decide +kernel
theorem d_X11_laysDeals_126 : decode cX11_laysDeals 126 = .ok (.getfield 82, 3) ∧ 129 = 126 + 3 := by decide +kernel
theorem d_X11_laysDeals_129 : decode cX11_laysDeals 129 = .ok (.iload 5, 2) ∧ 131 = 129 + 2 := by decide +kernel
theorem d_X11_laysDeals_131 : decode cX11_laysDeals 131 = .ok (.iaload, 1) ∧ 132 = 131 + 1 := by decide +kernel
theorem d_X11_laysDeals_132 : decode cX11_laysDeals 132 = .ok (.iastore, 1) ∧ 133 = 132 + 1 := by decide +kernel
theorem d_X11_laysDeals_133 : decode cX11_laysDeals 133 = .ok (.aload_n 0, 1) ∧ 134 = 133 + 1 := by decide +kernel
theorem d_X11_laysDeals_134 : decode cX11_laysDeals 134 = .ok (.getfield 85, 3) ∧ 137 = 134 + 3 := by decide +kernel
theorem d_X11_laysDeals_137 : decode cX11_laysDeals 137 = .ok (.iload 5, 2) ∧ 139 = 137 + 2 := by decide +kernel
theorem d_X11_laysDeals_139 : decode cX11_laysDeals 139 = .ok (.aload_n 0, 1) ∧ 140 = 139 + 1 := by decide +kernel
theorem d_X11_laysDeals_140 : decode cX11_laysDeals 140 = .ok (.iload_n 1, 1) ∧ 141 = 140 + 1 := by decide +kernel
theorem d_X11_laysDeals_141 : decode cX11_laysDeals 141 = .ok (.iconst 4, 1) ∧ 142 = 141 + 1 := by decide +kernel
theorem d_X11_laysDeals_142 : decode cX11_laysDeals 142 = .ok (.invokevirtual 336, 3) ∧ 145 = 142 + 3 := by decide +kernel
theorem d_X11_laysDeals_145 : decode cX11_laysDeals 145 = .ok (.ifCond .eq 18, 3) ∧ 148 = 145 + 3 ∧ (145 : Int) + 18 = ((163 : Nat) : Int) := by decide +kernel
theorem d_X11_laysDeals_148 : decode cX11_laysDeals 148 = .ok (.aload_n 0, 1) ∧ 149 = 148 + 1 := by decide +kernel
theorem d_X11_laysDeals_149 : decode cX11_laysDeals 149 = .ok (.getfield 85, 3) ∧ 152 = 149 + 3 := by decide +kernel
theorem d_X11_laysDeals_152 : decode cX11_laysDeals 152 = .ok (.iload 5, 2) ∧ 154 = 152 + 2 := by decide +kernel
theorem d_X11_laysDeals_154 : decode cX11_laysDeals 154 = .ok (.iaload, 1) ∧ 155 = 154 + 1 := by decide +kernel
theorem d_X11_laysDeals_155 : decode cX11_laysDeals 155 = .ok (.iconst 1, 1) ∧ 156 = 155 + 1 := by decide +kernel
theorem d_X11_laysDeals_156 : decode cX11_laysDeals 156 = .ok (.iload 6, 2) ∧ 158 = 156 + 2 := by decide +kernel
theorem d_X11_laysDeals_158 : decode cX11_laysDeals 158 = .ok (.ishl, 1) ∧ 159 = 158 + 1 := by decide +kernel
theorem d_X11_laysDeals_159 : decode cX11_laysDeals 159 = .ok (.ior, 1) ∧ 160 = 159 + 1 := by decide +kernel
theorem d_X11_laysDeals_160 : decode cX11_laysDeals 160 = .ok (.goto 10, 3) ∧ (160 : Int) + (10) = ((170 : Nat) : Int) := by decide +kernel
theorem d_X11_laysDeals_163 : decode cX11_laysDeals 163 = .ok (.aload_n 0, 1) ∧ 164 = 163 + 1 := by decide +kernel
theorem d_X11_laysDeals_164 : decode cX11_laysDeals 164 = .ok (.getfield 85, 3) ∧ 167 = 164 + 3 := by decide +kernel
theorem d_X11_laysDeals_167 : decode cX11_laysDeals 167 = .ok (.iload 5, 2) ∧ 169 = 167 + 2 := by decide +kernel
theorem d_X11_laysDeals_169 : decode cX11_laysDeals 169 = .ok (.iaload, 1) ∧ 170 = 169 + 1 := by decide +kernel
theorem d_X11_laysDeals_170 : decode cX11_laysDeals 170 = .ok (.iastore, 1) ∧ 171 = 170 + 1 := by decide +kernel
theorem d_X11_laysDeals_171 : decode cX11_laysDeals 171 = .ok (.iinc 6 1, 3) ∧ 174 = 171 + 3 := by decide +kernel
theorem d_X11_laysDeals_174 : decode cX11_laysDeals 174 = .ok (.goto (-92), 3) ∧ (174 : Int) + ((-92)) = ((82 : Nat) : Int) := by decide +kernel
theorem d_X11_laysDeals_177 : decode cX11_laysDeals 177 = .ok (.iinc 5 1, 3) ∧ 180 = 177 + 3 := by decide +kernel
theorem d_X11_laysDeals_180 : decode cX11_laysDeals 180 = .ok (.goto (-165), 3) ∧ (180 : Int) + ((-165)) = ((15 : Nat) : Int) := by decide +kernel
theorem d_X11_laysDeals_183 : decode cX11_laysDeals 183 = .ok (.aload_n 0, 1) ∧ 184 = 183 + 1 := by decide +kernel
theorem d_X11_laysDeals_184 : decode cX11_laysDeals 184 = .ok (.iload_n 1, 1) ∧ 185 = 184 + 1 := by decide +kernel
theorem d_X11_laysDeals_185 : decode cX11_laysDeals 185 = .ok (.iconst 0, 1) ∧ 186 = 185 + 1 := by decide +kernel
theorem d_X11_laysDeals_186 : decode cX11_laysDeals 186 = .ok (.invokevirtual 340, 3) ∧ 189 = 186 + 3 := by decide +kernel
theorem d_X11_laysDeals_189 : decode cX11_laysDeals 189 = .ok (.istore 5, 2) ∧ 191 = 189 + 2 := by decide +kernel
theorem d_X11_laysDeals_191 : decode cX11_laysDeals 191 = .ok (.aload_n 0, 1) ∧ 192 = 191 + 1 := by decide +kernel
theorem d_X11_laysDeals_192 : decode cX11_laysDeals 192 = .ok (.iload_n 1, 1) ∧ 193 = 192 + 1 := by decide +kernel
theorem d_X11_laysDeals_193 : decode cX11_laysDeals 193 = .ok (.iconst 1, 1) ∧ 194 = 193 + 1 := by decide +kernel
theorem d_X11_laysDeals_194 : decode cX11_laysDeals 194 = .ok (.invokevirtual 340, 3) ∧ 197 = 194 + 3 := by decide +kernel
theorem d_X11_laysDeals_197 : decode cX11_laysDeals 197 = .ok (.istore 6, 2) ∧ 199 = 197 + 2 := by decide +kernel
theorem d_X11_laysDeals_199 : decode cX11_laysDeals 199 = .ok (.aload_n 0, 1) ∧ 200 = 199 + 1 := by decide +kernel
theorem d_X11_laysDeals_200 : decode cX11_laysDeals 200 = .ok (.iconst 0, 1) ∧ 201 = 200 + 1 := by decide +kernel
theorem d_X11_laysDeals_201 : decode cX11_laysDeals 201 = .ok (.putfield 343, 3) ∧ 204 = 201 + 3 := by decide +kernel
theorem d_X11_laysDeals_204 : decode cX11_laysDeals 204 = .ok (.iconst 0, 1) ∧ 205 = 204 + 1 := by decide +kernel
theorem d_X11_laysDeals_205 : decode cX11_laysDeals 205 = .ok (.istore 7, 2) ∧ 207 = 205 + 2 := by decide +kernel
theorem d_X11_laysDeals_207 : decode cX11_laysDeals 207 = .ok (.iload 7, 2) ∧ 209 = 207 + 2 := by decide +kernel
theorem d_X11_laysDeals_209 : decode cX11_laysDeals 209 = .ok (.iconst 1, 1) ∧ 210 = 209 + 1 := by decide +kernel
theorem d_X11_laysDeals_210 : decode cX11_laysDeals 210 = .ok (.iload_n 2, 1) ∧ 211 = 210 + 1 := by decide +kernel
theorem d_X11_laysDeals_211 : decode cX11_laysDeals 211 = .ok (.ishl, 1) ∧ 212 = 211 + 1 := by decide +kernel
theorem d_X11_laysDeals_212 : decode cX11_laysDeals 212 = .ok (.if_icmp .ge 49, 3) ∧ 215 = 212 + 3 ∧ (212 : Int) + 49 = ((261 : Nat) : Int) := by decide +kernel
theorem d_X11_laysDeals_215 : decode cX11_laysDeals 215 = .ok (.aload_n 0, 1) ∧ 216 = 215 + 1 := by decide +kernel
theorem d_X11_laysDeals_216 : decode cX11_laysDeals 216 = .ok (.iload 7, 2) ∧ 218 = 216 + 2 := by decide +kernel
theorem d_X11_laysDeals_218 : decode cX11_laysDeals 218 = .ok (.iload 5, 2) ∧ 220 = 218 + 2 := by decide +kernel
theorem d_X11_laysDeals_220 : decode cX11_laysDeals 220 = .ok (.iload 6, 2) ∧ 222 = 220 + 2 := by decide +kernel
theorem d_X11_laysDeals_222 : decode cX11_laysDeals 222 = .ok (.iload 4, 2) ∧ 224 = 222 + 2 := by decide +kernel
theorem d_X11_laysDeals_224 : decode cX11_laysDeals 224 = .ok (.invokevirtual 346, 3) ∧ 227 = 224 + 3 := by decide +kernel
theorem d_X11_laysDeals_227 : decode cX11_laysDeals 227 = .ok (.ifCond .eq 28, 3) ∧ 230 = 227 + 3 ∧ (227 : Int) + 28 = ((255 : Nat) : Int) := by decide +kernel
theorem d_X11_laysDeals_230 : decode cX11_laysDeals 230 = .ok (.aload_n 0, 1) ∧ 231 = 230 + 1 := by decide +kernel
theorem d_X11_laysDeals_231 : decode cX11_laysDeals 231 = .ok (.getfield 79, 3) ∧ 234 = 231 + 3 := by decide +kernel
theorem d_X11_laysDeals_234 : decode cX11_laysDeals 234 = .ok (.aload_n 0, 1) ∧ 235 = 234 + 1 := by decide +kernel
theorem d_X11_laysDeals_235 : decode cX11_laysDeals 235 = .ok (.getfield 343, 3) ∧ 238 = 235 + 3 := by decide +kernel
theorem d_X11_laysDeals_238 : decode cX11_laysDeals 238 = .ok (.iload 7, 2) ∧ 240 = 238 + 2 := by decide +kernel
theorem d_X11_laysDeals_240 : decode cX11_laysDeals 240 = .ok (.iload_n 3, 1) ∧ 241 = 240 + 1 := by decide +kernel
theorem d_X11_laysDeals_241 : decode cX11_laysDeals 241 = .ok (.iconst (-1), 1) ∧ 242 = 241 + 1 := by decide +kernel
theorem d_X11_laysDeals_242 : decode cX11_laysDeals 242 = .ok (.ixor, 1) ∧ 243 = 242 + 1 := by decide +kernel
theorem d_X11_laysDeals_243 : decode cX11_laysDeals 243 = .ok (.iand, 1) ∧ 244 = 243 + 1 := by decide +kernel
theorem d_X11_laysDeals_244 : decode cX11_laysDeals 244 = .ok (.iastore, 1) ∧ 245 = 244 + 1 := by decide +kernel
theorem d_X11_laysDeals_245 : decode cX11_laysDeals 245 = .ok (.aload_n 0, 1) ∧ 246 = 245 + 1 := by decide +kernel
theorem d_X11_laysDeals_246 : decode cX11_laysDeals 246 = .ok (.dup, 1) ∧ 247 = 246 + 1 := by decide +kernel
theorem d_X11_laysDeals_247 : decode cX11_laysDeals 247 = .ok (.getfield 343, 3) ∧ 250 = 247 + 3 := by decide +kernel
theorem d_X11_laysDeals_250 : decode cX11_laysDeals 250 = .ok (.iconst 1, 1) ∧ 251 = 250 + 1 := by decide +kernel
theorem d_X11_laysDeals_251 : decode cX11_laysDeals 251 = .ok (.iadd, 1) ∧ 252 = 251 + 1 := by decide +kernel
theorem d_X11_laysDeals_252 : decode cX11_laysDeals 252 = .ok (.putfield 343, 3) ∧ 255 = 252 + 3 := by decide +kernel
theorem d_X11_laysDeals_255 : decode cX11_laysDeals 255 = .ok (.iinc 7 1, 3) ∧ 258 = 255 + 3 := by decide +kernel
theorem d_X11_laysDeals_258 : decode cX11_laysDeals 258 = .ok (.goto (-51), 3) ∧ (258 : Int) + ((-51)) = ((207 : Nat) : Int) := by decide +kernel
theorem d_X11_laysDeals_261 : decode cX11_laysDeals 261 = .ok (.return_, 1) := by decide +kernel
theorem d_X11_isDeal_0 : decode cX11_isDeal 0 = .ok (.iload_n 2, 1) ∧ 1 = 0 + 1 := by decide +kernel
theorem d_X11_isDeal_1 : decode cX11_isDeal 1 = .ok (.iconst (-1), 1) ∧ 2 = 1 + 1 := by decide +kernel
theorem d_X11_isDeal_2 : decode cX11_isDeal 2 = .ok (.if_icmp .eq 11, 3) ∧ 5 = 2 + 3 ∧ (2 : Int) + 11 = ((13 : Nat) : Int) := by decide +kernel
theorem d_X11_isDeal_5 : decode cX11_isDeal 5 = .ok (.iload_n 1, 1) ∧ 6 = 5 + 1 := by decide +kernel
theorem d_X11_isDeal_6 : decode cX11_isDeal 6 = .ok (.invokestatic 350, 3) ∧ 9 = 6 + 3 := by decide +kernel
theorem d_X11_isDeal_9 : decode cX11_isDeal 9 = .ok (.iload_n 2, 1) ∧ 10 = 9 + 1 := by decide +kernel
theorem d_X11_isDeal_10 : decode cX11_isDeal 10 = .ok (.if_icmp .ne 7, 3) ∧ 13 = 10 + 3 ∧ (10 : Int) + 7 = ((17 : Nat) : Int) := by decide +kernel
theorem d_X11_isDeal_13 : decode cX11_isDeal 13 = .ok (.iconst 1, 1) ∧ 14 = 13 + 1 := by decide +kernel
theorem d_X11_isDeal_14 : decode cX11_isDeal 14 = .ok (.goto 4, 3) ∧ (14 : Int) + (4) = ((18 : Nat) : Int) := by decide +kernel
theorem d_X11_isDeal_17 : decode cX11_isDeal 17 = .ok (.iconst 0, 1) ∧ 18 = 17 + 1 := by decide +kernel
theorem d_X11_isDeal_18 : decode cX11_isDeal 18 = .ok (.istore 5, 2) ∧ 20 = 18 + 2 := by decide +kernel
theorem d_X11_isDeal_20 : decode cX11_isDeal 20 = .ok (.iconst 0, 1) ∧ 21 = 20 + 1 := by decide +kernel
theorem d_X11_isDeal_21 : decode cX11_isDeal 21 = .ok (.istore 6, 2) ∧ 23 = 21 + 2 := by decide +kernel
theorem d_X11_isDeal_23 : decode cX11_isDeal 23 = .ok (.iconst 0, 1) ∧ 24 = 23 + 1 := by decide +kernel
theorem d_X11_isDeal_24 : decode cX11_isDeal 24 = .ok (.istore 7, 2) ∧ 26 = 24 + 2 := by decide +kernel
theorem d_X11_isDeal_26 : decode cX11_isDeal 26 = .ok (.iload 7, 2) ∧ 28 = 26 + 2 := by decide +kernel
theorem d_X11_isDeal_28 : decode cX11_isDeal 28 = .ok (.aload_n 0, 1) ∧ 29 = 28 + 1 := by decide +kernel
theorem d_X11_isDeal_29 : decode cX11_isDeal 29 = .ok (.getfield 7, 3) ∧ 32 = 29 + 3 := by decide +kernel
theorem d_X11_isDeal_32 : decode cX11_isDeal 32 = .ok (.iconst 0, 1) ∧ 33 = 32 + 1 := by decide +kernel
theorem d_X11_isDeal_33 : decode cX11_isDeal 33 = .ok (.iaload, 1) ∧ 34 = 33 + 1 := by decide +kernel
theorem d_X11_isDeal_34 : decode cX11_isDeal 34 = .ok (.if_icmp .ge 101, 3) ∧ 37 = 34 + 3 ∧ (34 : Int) + 101 = ((135 : Nat) : Int) := by decide +kernel
theorem d_X11_isDeal_37 : decode cX11_isDeal 37 = .ok (.iload 5, 2) ∧ 39 = 37 + 2 := by decide +kernel
theorem d_X11_isDeal_39 : decode cX11_isDeal 39 = .ok (.ifCond .eq 96, 3) ∧ 42 = 39 + 3 ∧ (39 : Int) + 96 = ((135 : Nat) : Int) := by decide +kernel
theorem d_X11_isDeal_42 : decode cX11_isDeal 42 = .ok (.iload_n 1, 1) ∧ 43 = 42 + 1 := by decide +kernel
theorem d_X11_isDeal_43 : decode cX11_isDeal 43 = .ok (.iload 7, 2) ∧ 45 = 43 + 2 := by decide +kernel
theorem d_X11_isDeal_45 : decode cX11_isDeal 45 = .ok (.ishr, 1) ∧ 46 = 45 + 1 := by decide +kernel
theorem d_X11_isDeal_46 : decode cX11_isDeal 46 = .ok (.iconst 1, 1) ∧ 47 = 46 + 1 := by decide +kernel
theorem d_X11_isDeal_47 : decode cX11_isDeal 47 = .ok (.iand, 1) ∧ 48 = 47 + 1 := by decide +kernel
theorem d_X11_isDeal_48 : decode cX11_isDeal 48 = .ok (.iconst 1, 1) ∧ 49 = 48 + 1 := by decide +kernel
theorem d_X11_isDeal_49 : decode cX11_isDeal 49 = .ok (.if_icmp .ne 7, 3) ∧ 52 = 49 + 3 ∧ (49 : Int) + 7 = ((56 : Nat) : Int) := by decide +kernel
theorem d_X11_isDeal_52 : decode cX11_isDeal 52 = .ok (.iconst 1, 1) ∧ 53 = 52 + 1 := by decide +kernel
theorem d_X11_isDeal_53 : decode cX11_isDeal 53 = .ok (.goto 4, 3) ∧ (53 : Int) + (4) = ((57 : Nat) : Int) := by decide +kernel
theorem d_X11_isDeal_56 : decode cX11_isDeal 56 = .ok (.iconst 0, 1) ∧ 57 = 56 + 1 := by decide +kernel
theorem d_X11_isDeal_57 : decode cX11_isDeal 57 = .ok (.istore 8, 2) ∧ 59 = 57 + 2 := by decide +kernel
theorem d_X11_isDeal_59 : decode cX11_isDeal 59 = .ok (.iload 6, 2) ∧ 61 = 59 + 2 := by decide +kernel
theorem d_X11_isDeal_61 : decode cX11_isDeal 61 = .ok (.iload 8, 2) ∧ 63 = 61 + 2 := by decide +kernel
theorem d_X11_isDeal_63 : decode cX11_isDeal 63 = .ok (.ifCond .eq 13, 3) ∧ 66 = 63 + 3 ∧ (63 : Int) + 13 = ((76 : Nat) : Int) := by decide +kernel
theorem d_X11_isDeal_66 : decode cX11_isDeal 66 = .ok (.aload_n 0, 1) ∧ 67 = 66 + 1 := by decide +kernel
theorem d_X11_isDeal_67 : decode cX11_isDeal 67 = .ok (.iload 7, 2) ∧ 69 = 67 + 2 := by decide +kernel
theorem d_X11_isDeal_69 : decode cX11_isDeal 69 = .ok (.iconst 1, 1) ∧ 70 = 69 + 1 := by decide +kernel
theorem d_X11_isDeal_70 : decode cX11_isDeal 70 = .ok (.invokevirtual 116, 3) ∧ 73 = 70 + 3 := by decide +kernel
theorem d_X11_isDeal_73 : decode cX11_isDeal 73 = .ok (.goto 4, 3) ∧ (73 : Int) + (4) = ((77 : Nat) : Int) := by decide +kernel
theorem d_X11_isDeal_76 : decode cX11_isDeal 76 = .ok (.iconst 0, 1) ∧ 77 = 76 + 1 := by decide +kernel
theorem d_X11_isDeal_77 : decode cX11_isDeal 77 = .ok (.iadd, 1) ∧ 78 = 77 + 1 := by decide +kernel
theorem d_X11_isDeal_78 : decode cX11_isDeal 78 = .ok (.istore 6, 2) ∧ 80 = 78 + 2 := by decide +kernel
theorem d_X11_isDeal_80 : decode cX11_isDeal 80 = .ok (.iload 8, 2) ∧ 82 = 80 + 2 := by decide +kernel
theorem d_X11_isDeal_82 : decode cX11_isDeal 82 = .ok (.ifCond .eq 9, 3) ∧ 85 = 82 + 3 ∧ (82 : Int) + 9 = ((91 : Nat) : Int) := by decide +kernel
theorem d_X11_isDeal_85 : decode cX11_isDeal 85 = .ok (.iload_n 1, 1) ∧ 86 = 85 + 1 := by decide +kernel
theorem d_X11_isDeal_86 : decode cX11_isDeal 86 = .ok (.iconst (-1), 1) ∧ 87 = 86 + 1 := by decide +kernel
theorem d_X11_isDeal_87 : decode cX11_isDeal 87 = .ok (.ixor, 1) ∧ 88 = 87 + 1 := by decide +kernel
theorem d_X11_isDeal_88 : decode cX11_isDeal 88 = .ok (.goto 4, 3) ∧ (88 : Int) + (4) = ((92 : Nat) : Int) := by decide +kernel
theorem d_X11_isDeal_91 : decode cX11_isDeal 91 = .ok (.iload_n 1, 1) ∧ 92 = 91 + 1 := by decide +kernel
theorem d_X11_isDeal_92 : decode cX11_isDeal 92 = .ok (.istore 9, 2) ∧ 94 = 92 + 2 := by decide +kernel
theorem d_X11_isDeal_94 : decode cX11_isDeal 94 = .ok (.aload_n 0, 1) ∧ 95 = 94 + 1 := by decide +kernel
theorem d_X11_isDeal_95 : decode cX11_isDeal 95 = .ok (.getfield 82, 3) ∧ 98 = 95 + 3 := by decide +kernel
theorem d_X11_isDeal_98 : decode cX11_isDeal 98 = .ok (.iload 7, 2) ∧ 100 = 98 + 2 := by decide +kernel
theorem d_X11_isDeal_100 : decode cX11_isDeal 100 = .ok (.iaload, 1) ∧ 101 = 100 + 1 := by decide +kernel
theorem d_X11_isDeal_101 : decode cX11_isDeal 101 = .ok (.iload 9, 2) ∧ 103 = 101 + 2 := by decide +kernel
theorem d_X11_isDeal_103 : decode cX11_isDeal 103 = .ok (.iand, 1) ∧ 104 = 103 + 1 := by decide +kernel
theorem d_X11_isDeal_104 : decode cX11_isDeal 104 = .ok (.ifCond .ne 22, 3) ∧ 107 = 104 + 3 ∧ (104 : Int) + 22 = ((126 : Nat) : Int) := by decide +kernel
theorem d_X11_isDeal_107 : decode cX11_isDeal 107 = .ok (.aload_n 0, 1) ∧ 108 = 107 + 1 := by decide +kernel
theorem d_X11_isDeal_108 : decode cX11_isDeal 108 = .ok (.getfield 85, 3) ∧ 111 = 108 + 3 := by decide +kernel
theorem d_X11_isDeal_111 : decode cX11_isDeal 111 = .ok (.iload 7, 2) ∧ 113 = 111 + 2 := by decide +kernel
theorem d_X11_isDeal_113 : decode cX11_isDeal 113 = .ok (.iaload, 1) ∧ 114 = 113 + 1 := by decide +kernel
theorem d_X11_isDeal_114 : decode cX11_isDeal 114 = .ok (.iload 9, 2) ∧ 116 = 114 + 2 := by decide +kernel
theorem d_X11_isDeal_116 : decode cX11_isDeal 116 = .ok (.iconst (-1), 1) ∧ 117 = 116 + 1 := by decide +kernel
theorem d_X11_isDeal_117 : decode cX11_isDeal 117 = .ok (.ixor, 1) ∧ 118 = 117 + 1 := by decide +kernel
theorem d_X11_isDeal_118 : decode cX11_isDeal 118 = .ok (.iand, 1) ∧ 119 = 118 + 1 := by decide +kernel
theorem d_X11_isDeal_119 : decode cX11_isDeal 119 = .ok (.ifCond .ne 7, 3) ∧ 122 = 119 + 3 ∧ (119 : Int) + 7 = ((126 : Nat) : Int) := by decide +kernel
theorem d_X11_isDeal_122 : decode cX11_isDeal 122 = .ok (.iconst 1, 1) ∧ 123 = 122 + 1 := by decide +kernel
theorem d_X11_isDeal_123 : decode cX11_isDeal 123 = .ok (.goto 4, 3) ∧ (123 : Int) + (4) = ((127 : Nat) : Int) := by decide +kernel
theorem d_X11_isDeal_126 : decode cX11_isDeal 126 = .ok (.iconst 0, 1) ∧ 127 = 126 + 1 := by decide +kernel
theorem d_X11_isDeal_127 : decode cX11_isDeal 127 = .ok (.istore 5, 2) ∧ 129 = 127 + 2 := by decide +kernel
theorem d_X11_isDeal_129 : decode cX11_isDeal 129 = .ok (.iinc 7 1, 3) ∧ 132 = 129 + 3 := by decide +kernel
theorem d_X11_isDeal_132 : decode cX11_isDeal 132 = .ok (.goto (-106), 3) ∧ (132 : Int) + ((-106)) = ((26 : Nat) : Int) := by decide +kernel
theorem d_X11_isDeal_135 : decode cX11_isDeal 135 = .ok (.iload 5, 2) ∧ 137 = 135 + 2 := by decide +kernel
theorem d_X11_isDeal_137 : decode cX11_isDeal 137 = .ok (.ifCond .eq 29, 3) ∧ 140 = 137 + 3 ∧ (137 : Int) + 29 = ((166 : Nat) : Int) := by decide +kernel
theorem d_X11_isDeal_140 : decode cX11_isDeal 140 = .ok (.iload_n 3, 1) ∧ 141 = 140 + 1 := by decide +kernel
theorem d_X11_isDeal_141 : decode cX11_isDeal 141 = .ok (.iconst (-1), 1) ∧ 142 = 141 + 1 := by decide +kernel
theorem d_X11_isDeal_142 : decode cX11_isDeal 142 = .ok (.if_icmp .eq 20, 3) ∧ 145 = 142 + 3 ∧ (142 : Int) + 20 = ((162 : Nat) : Int) := by decide +kernel
theorem d_X11_isDeal_145 : decode cX11_isDeal 145 = .ok (.iconst 2, 1) ∧ 146 = 145 + 1 := by decide +kernel
theorem d_X11_isDeal_146 : decode cX11_isDeal 146 = .ok (.iload 6, 2) ∧ 148 = 146 + 2 := by decide +kernel
theorem d_X11_isDeal_148 : decode cX11_isDeal 148 = .ok (.imul, 1) ∧ 149 = 148 + 1 := by decide +kernel
theorem d_X11_isDeal_149 : decode cX11_isDeal 149 = .ok (.iload 4, 2) ∧ 151 = 149 + 2 := by decide +kernel
theorem d_X11_isDeal_151 : decode cX11_isDeal 151 = .ok (.isub, 1) ∧ 152 = 151 + 1 := by decide +kernel
theorem d_X11_isDeal_152 : decode cX11_isDeal 152 = .ok (.i2l, 1) ∧ 153 = 152 + 1 := by decide +kernel
theorem d_X11_isDeal_153 : decode cX11_isDeal 153 = .ok (.invokestatic 353, 3) ∧ 156 = 153 + 3 := by decide +kernel
theorem d_X11_isDeal_156 : decode cX11_isDeal 156 = .ok (.iload_n 3, 1) ∧ 157 = 156 + 1 := by decide +kernel
theorem d_X11_isDeal_157 : decode cX11_isDeal 157 = .ok (.i2l, 1) ∧ 158 = 157 + 1 := by decide +kernel
theorem d_X11_isDeal_158 : decode cX11_isDeal 158 = .ok (.lcmp, 1) ∧ 159 = 158 + 1 := by decide +kernel
theorem d_X11_isDeal_159 : decode cX11_isDeal 159 = .ok (.ifCond .gt 7, 3) ∧ 162 = 159 + 3 ∧ (159 : Int) + 7 = ((166 : Nat) : Int) := by decide +kernel
theorem d_X11_isDeal_162 : decode cX11_isDeal 162 = .ok (.iconst 1, 1) ∧ 163 = 162 + 1 := by decide +kernel
theorem d_X11_isDeal_163 : decode cX11_isDeal 163 = .ok (.goto 4, 3) ∧ (163 : Int) + (4) = ((167 : Nat) : Int) := by decide +kernel
theorem d_X11_isDeal_166 : decode cX11_isDeal 166 = .ok (.iconst 0, 1) ∧ 167 = 166 + 1 := by decide +kernel
theorem d_X11_isDeal_167 : decode cX11_isDeal 167 = .ok (.ireturn, 1) := by decide +kernel
theorem d_X11_deals_0 : decode cX11_deals 0 = .ok (.aload_n 0, 1) ∧ 1 = 0 + 1 := by decide +kernel
theorem d_X11_deals_1 : decode cX11_deals 1 = .ok (.iload_n 1, 1) ∧ 2 = 1 + 1 := by decide +kernel
theorem d_X11_deals_2 : decode cX11_deals 2 = .ok (.invokevirtual 356, 3) ∧ 5 = 2 + 3 := by decide +kernel
theorem d_X11_deals_5 : decode cX11_deals 5 = .ok (.ifCond .eq 8, 3) ∧ 8 = 5 + 3 ∧ (5 : Int) + 8 = ((13 : Nat) : Int) := by decide +kernel
theorem d_X11_deals_8 : decode cX11_deals 8 = .ok (.iload_n 2, 1) ∧ 9 = 8 + 1 := by decide +kernel
theorem d_X11_deals_9 : decode cX11_deals 9 = .ok (.iconst (-1), 1) ∧ 10 = 9 + 1 := by decide +kernel
theorem d_X11_deals_10 : decode cX11_deals 10 = .ok (.if_icmp .ge 5, 3) ∧ 13 = 10 + 3 ∧ (10 : Int) + 5 = ((15 : Nat) : Int) := by decide +kernel
theorem d_X11_deals_13 : decode cX11_deals 13 = .ok (.iconst (-1), 1) ∧ 14 = 13 + 1 := by decide +kernel
theorem d_X11_deals_14 : decode cX11_deals 14 = .ok (.ireturn, 1) := by decide +kernel
theorem d_X11_deals_15 : decode cX11_deals 15 = .ok (.aload_n 0, 1) ∧ 16 = 15 + 1 := by decide +kernel
theorem d_X11_deals_16 : decode cX11_deals 16 = .ok (.iload_n 1, 1) ∧ 17 = 16 + 1 := by decide +kernel
theorem d_X11_deals_17 : decode cX11_deals 17 = .ok (.invokevirtual 359, 3) ∧ 20 = 17 + 3 := by decide +kernel
theorem d_X11_deals_20 : decode cX11_deals 20 = .ok (.iload_n 2, 1) ∧ 21 = 20 + 1 := by decide +kernel
theorem d_X11_deals_21 : decode cX11_deals 21 = .ok (.iconst (-1), 1) ∧ 22 = 21 + 1 := by decide +kernel
theorem d_X11_deals_22 : decode cX11_deals 22 = .ok (.if_icmp .ne 10, 3) ∧ 25 = 22 + 3 ∧ (22 : Int) + 10 = ((32 : Nat) : Int) := by decide +kernel
theorem d_X11_deals_25 : decode cX11_deals 25 = .ok (.aload_n 0, 1) ∧ 26 = 25 + 1 := by decide +kernel
theorem d_X11_deals_26 : decode cX11_deals 26 = .ok (.getfield 343, 3) ∧ 29 = 26 + 3 := by decide +kernel
theorem d_X11_deals_29 : decode cX11_deals 29 = .ok (.goto 21, 3) ∧ (29 : Int) + (21) = ((50 : Nat) : Int) := by decide +kernel
theorem d_X11_deals_32 : decode cX11_deals 32 = .ok (.iload_n 2, 1) ∧ 33 = 32 + 1 := by decide +kernel
theorem d_X11_deals_33 : decode cX11_deals 33 = .ok (.aload_n 0, 1) ∧ 34 = 33 + 1 := by decide +kernel
theorem d_X11_deals_34 : decode cX11_deals 34 = .ok (.getfield 343, 3) ∧ 37 = 34 + 3 := by decide +kernel
theorem d_X11_deals_37 : decode cX11_deals 37 = .ok (.if_icmp .ge 12, 3) ∧ 40 = 37 + 3 ∧ (37 : Int) + 12 = ((49 : Nat) : Int) := by decide +kernel
theorem d_X11_deals_40 : decode cX11_deals 40 = .ok (.aload_n 0, 1) ∧ 41 = 40 + 1 := by decide +kernel
theorem d_X11_deals_41 : decode cX11_deals 41 = .ok (.getfield 79, 3) ∧ 44 = 41 + 3 := by decide +kernel
theorem d_X11_deals_44 : decode cX11_deals 44 = .ok (.iload_n 2, 1) ∧ 45 = 44 + 1 := by decide +kernel
theorem d_X11_deals_45 : decode cX11_deals 45 = .ok (.iaload, 1) ∧ 46 = 45 + 1 := by decide +kernel
theorem d_X11_deals_46 : decode cX11_deals 46 = .ok (.goto 4, 3) ∧ (46 : Int) + (4) = ((50 : Nat) : Int) := by decide +kernel
theorem d_X11_deals_49 : decode cX11_deals 49 = .ok (.iconst (-1), 1) ∧ 50 = 49 + 1 := by decide +kernel
theorem d_X11_deals_50 : decode cX11_deals 50 = .ok (.ireturn, 1) := by decide +kernel
theorem d_X11_asFar_0 : decode cX11_asFar 0 = .ok (.aload_n 0, 1) ∧ 1 = 0 + 1 := by decide +kernel
theorem d_X11_asFar_1 : decode cX11_asFar 1 = .ok (.getfield 343, 3) ∧ 4 = 1 + 3 := by decide +kernel
theorem d_X11_asFar_4 : decode cX11_asFar 4 = .ok (.ifCond .eq 13, 3) ∧ 7 = 4 + 3 ∧ (4 : Int) + 13 = ((17 : Nat) : Int) := by decide +kernel
theorem d_X11_asFar_7 : decode cX11_asFar 7 = .ok (.aload_n 0, 1) ∧ 8 = 7 + 1 := by decide +kernel
theorem d_X11_asFar_8 : decode cX11_asFar 8 = .ok (.iload_n 1, 1) ∧ 9 = 8 + 1 := by decide +kernel
theorem d_X11_asFar_9 : decode cX11_asFar 9 = .ok (.iload_n 2, 1) ∧ 10 = 9 + 1 := by decide +kernel
theorem d_X11_asFar_10 : decode cX11_asFar 10 = .ok (.iconst 2, 1) ∧ 11 = 10 + 1 := by decide +kernel
theorem d_X11_asFar_11 : decode cX11_asFar 11 = .ok (.invokevirtual 135, 3) ∧ 14 = 11 + 3 := by decide +kernel
theorem d_X11_asFar_14 : decode cX11_asFar 14 = .ok (.ifCond .ne 5, 3) ∧ 17 = 14 + 3 ∧ (14 : Int) + 5 = ((19 : Nat) : Int) := by decide +kernel
theorem d_X11_asFar_17 : decode cX11_asFar 17 = .ok (.iconst (-1), 1) ∧ 18 = 17 + 1 := by decide +kernel
theorem d_X11_asFar_18 : decode cX11_asFar 18 = .ok (.ireturn, 1) := by decide +kernel
theorem d_X11_asFar_19 : decode cX11_asFar 19 = .ok (.aload_n 0, 1) ∧ 20 = 19 + 1 := by decide +kernel
theorem d_X11_asFar_20 : decode cX11_asFar 20 = .ok (.getfield 119, 3) ∧ 23 = 20 + 3 := by decide +kernel
theorem d_X11_asFar_23 : decode cX11_asFar 23 = .ok (.lstore_n 3, 1) ∧ 24 = 23 + 1 := by decide +kernel
theorem d_X11_asFar_24 : decode cX11_asFar 24 = .ok (.aload_n 0, 1) ∧ 25 = 24 + 1 := by decide +kernel
theorem d_X11_asFar_25 : decode cX11_asFar 25 = .ok (.getfield 126, 3) ∧ 28 = 25 + 3 := by decide +kernel
theorem d_X11_asFar_28 : decode cX11_asFar 28 = .ok (.lstore 5, 2) ∧ 30 = 28 + 2 := by decide +kernel
theorem d_X11_asFar_30 : decode cX11_asFar 30 = .ok (.iconst 0, 1) ∧ 31 = 30 + 1 := by decide +kernel
theorem d_X11_asFar_31 : decode cX11_asFar 31 = .ok (.istore 7, 2) ∧ 33 = 31 + 2 := by decide +kernel
theorem d_X11_asFar_33 : decode cX11_asFar 33 = .ok (.iconst 0, 1) ∧ 34 = 33 + 1 := by decide +kernel
theorem d_X11_asFar_34 : decode cX11_asFar 34 = .ok (.istore 8, 2) ∧ 36 = 34 + 2 := by decide +kernel
theorem d_X11_asFar_36 : decode cX11_asFar 36 = .ok (.iload 8, 2) ∧ 38 = 36 + 2 := by decide +kernel
theorem d_X11_asFar_38 : decode cX11_asFar 38 = .ok (.aload_n 0, 1) ∧ 39 = 38 + 1 := by decide +kernel
theorem d_X11_asFar_39 : decode cX11_asFar 39 = .ok (.getfield 343, 3) ∧ 42 = 39 + 3 := by decide +kernel
theorem d_X11_asFar_42 : decode cX11_asFar 42 = .ok (.if_icmp .ge 52, 3) ∧ 45 = 42 + 3 ∧ (42 : Int) + 52 = ((94 : Nat) : Int) := by decide +kernel
theorem d_X11_asFar_45 : decode cX11_asFar 45 = .ok (.iload 7, 2) ∧ 47 = 45 + 2 := by decide +kernel
theorem d_X11_asFar_47 : decode cX11_asFar 47 = .ok (.aload_n 0, 1) ∧ 48 = 47 + 1 := by decide +kernel
theorem d_X11_asFar_48 : decode cX11_asFar 48 = .ok (.iload_n 1, 1) ∧ 49 = 48 + 1 := by decide +kernel
theorem d_X11_asFar_49 : decode cX11_asFar 49 = .ok (.aload_n 0, 1) ∧ 50 = 49 + 1 := by decide +kernel
theorem d_X11_asFar_50 : decode cX11_asFar 50 = .ok (.getfield 79, 3) ∧ 53 = 50 + 3 := by decide +kernel
theorem d_X11_asFar_53 : decode cX11_asFar 53 = .ok (.iload 8, 2) ∧ 55 = 53 + 2 := by decide +kernel
theorem d_X11_asFar_55 : decode cX11_asFar 55 = .ok (.iaload, 1) ∧ 56 = 55 + 1 := by decide +kernel
theorem d_X11_asFar_56 : decode cX11_asFar 56 = .ok (.iconst 2, 1) ∧ 57 = 56 + 1 := by decide +kernel
theorem d_X11_asFar_57 : decode cX11_asFar 57 = .ok (.invokevirtual 135, 3) ∧ 60 = 57 + 3 := by decide +kernel
theorem d_X11_asFar_60 : decode cX11_asFar 60 = .ok (.ifCond .eq 24, 3) ∧ 63 = 60 + 3 ∧ (60 : Int) + 24 = ((84 : Nat) : Int) := by decide +kernel
theorem d_X11_asFar_63 : decode cX11_asFar 63 = .ok (.aload_n 0, 1) ∧ 64 = 63 + 1 := by decide +kernel
theorem d_X11_asFar_64 : decode cX11_asFar 64 = .ok (.getfield 119, 3) ∧ 67 = 64 + 3 := by decide +kernel
theorem d_X11_asFar_67 : decode cX11_asFar 67 = .ok (.lload 5, 2) ∧ 69 = 67 + 2 := by decide +kernel
theorem d_X11_asFar_69 : decode cX11_asFar 69 = .ok (.lmul, 1) ∧ 70 = 69 + 1 := by decide +kernel
theorem d_X11_asFar_70 : decode cX11_asFar 70 = .ok (.lload_n 3, 1) ∧ 71 = 70 + 1 := by decide +kernel
theorem d_X11_asFar_71 : decode cX11_asFar 71 = .ok (.aload_n 0, 1) ∧ 72 = 71 + 1 := by decide +kernel
theorem d_X11_asFar_72 : decode cX11_asFar 72 = .ok (.getfield 126, 3) ∧ 75 = 72 + 3 := by decide +kernel
theorem d_X11_asFar_75 : decode cX11_asFar 75 = .ok (.lmul, 1) ∧ 76 = 75 + 1 := by decide +kernel
theorem d_X11_asFar_76 : decode cX11_asFar 76 = .ok (.lcmp, 1) ∧ 77 = 76 + 1 := by decide +kernel
theorem d_X11_asFar_77 : decode cX11_asFar 77 = .ok (.ifCond .lt 7, 3) ∧ 80 = 77 + 3 ∧ (77 : Int) + 7 = ((84 : Nat) : Int) := by decide +kernel
theorem d_X11_asFar_80 : decode cX11_asFar 80 = .ok (.iconst 1, 1) ∧ 81 = 80 + 1 := by decide +kernel
theorem d_X11_asFar_81 : decode cX11_asFar 81 = .ok (.goto 4, 3) ∧ (81 : Int) + (4) = ((85 : Nat) : Int) := by decide +kernel
theorem d_X11_asFar_84 : decode cX11_asFar 84 = .ok (.iconst 0, 1) ∧ 85 = 84 + 1 := by decide +kernel
theorem d_X11_asFar_85 : decode cX11_asFar 85 = .ok (.iadd, 1) ∧ 86 = 85 + 1 := by decide +kernel
theorem d_X11_asFar_86 : decode cX11_asFar 86 = .ok (.istore 7, 2) ∧ 88 = 86 + 2 := by decide +kernel
theorem d_X11_asFar_88 : decode cX11_asFar 88 = .ok (.iinc 8 1, 3) ∧ 91 = 88 + 3 := by decide +kernel
theorem d_X11_asFar_91 : decode cX11_asFar 91 = .ok (.goto (-55), 3) ∧ (91 : Int) + ((-55)) = ((36 : Nat) : Int) := by decide +kernel
theorem d_X11_asFar_94 : decode cX11_asFar 94 = .ok (.iload 7, 2) ∧ 96 = 94 + 2 := by decide +kernel
theorem d_X11_asFar_96 : decode cX11_asFar 96 = .ok (.ireturn, 1) := by decide +kernel
theorem d_X11_stands_0 : decode cX11_stands 0 = .ok (.iload_n 1, 1) ∧ 1 = 0 + 1 := by decide +kernel
theorem d_X11_stands_1 : decode cX11_stands 1 = .ok (.iconst (-1), 1) ∧ 2 = 1 + 1 := by decide +kernel
theorem d_X11_stands_2 : decode cX11_stands 2 = .ok (.if_icmp .eq 21, 3) ∧ 5 = 2 + 3 ∧ (2 : Int) + 21 = ((23 : Nat) : Int) := by decide +kernel
theorem d_X11_stands_5 : decode cX11_stands 5 = .ok (.iload_n 1, 1) ∧ 6 = 5 + 1 := by decide +kernel
theorem d_X11_stands_6 : decode cX11_stands 6 = .ok (.sipush 1000, 3) ∧ 9 = 6 + 3 := by decide +kernel
theorem d_X11_stands_9 : decode cX11_stands 9 = .ok (.imul, 1) ∧ 10 = 9 + 1 := by decide +kernel
theorem d_X11_stands_10 : decode cX11_stands 10 = .ok (.iload_n 2, 1) ∧ 11 = 10 + 1 := by decide +kernel
theorem d_X11_stands_11 : decode cX11_stands 11 = .ok (.aload_n 0, 1) ∧ 12 = 11 + 1 := by decide +kernel
theorem d_X11_stands_12 : decode cX11_stands 12 = .ok (.getfield 343, 3) ∧ 15 = 12 + 3 := by decide +kernel
theorem d_X11_stands_15 : decode cX11_stands 15 = .ok (.imul, 1) ∧ 16 = 15 + 1 := by decide +kernel
theorem d_X11_stands_16 : decode cX11_stands 16 = .ok (.if_icmp .gt 7, 3) ∧ 19 = 16 + 3 ∧ (16 : Int) + 7 = ((23 : Nat) : Int) := by decide +kernel
theorem d_X11_stands_19 : decode cX11_stands 19 = .ok (.iconst 1, 1) ∧ 20 = 19 + 1 := by decide +kernel
theorem d_X11_stands_20 : decode cX11_stands 20 = .ok (.goto 4, 3) ∧ (20 : Int) + (4) = ((24 : Nat) : Int) := by decide +kernel
theorem d_X11_stands_23 : decode cX11_stands 23 = .ok (.iconst 0, 1) ∧ 24 = 23 + 1 := by decide +kernel
theorem d_X11_stands_24 : decode cX11_stands 24 = .ok (.ireturn, 1) := by decide +kernel
theorem d_X11_odds_0 : decode cX11_odds 0 = .ok (.aload_n 0, 1) ∧ 1 = 0 + 1 := by decide +kernel
theorem d_X11_odds_1 : decode cX11_odds 1 = .ok (.iload_n 1, 1) ∧ 2 = 1 + 1 := by decide +kernel
theorem d_X11_odds_2 : decode cX11_odds 2 = .ok (.invokevirtual 356, 3) ∧ 5 = 2 + 3 := by decide +kernel
theorem d_X11_odds_5 : decode cX11_odds 5 = .ok (.ifCond .eq 33, 3) ∧ 8 = 5 + 3 ∧ (5 : Int) + 33 = ((38 : Nat) : Int) := by decide +kernel
theorem d_X11_odds_8 : decode cX11_odds 8 = .ok (.aload_n 0, 1) ∧ 9 = 8 + 1 := by decide +kernel
theorem d_X11_odds_9 : decode cX11_odds 9 = .ok (.iload_n 2, 1) ∧ 10 = 9 + 1 := by decide +kernel
theorem d_X11_odds_10 : decode cX11_odds 10 = .ok (.invokevirtual 109, 3) ∧ 13 = 10 + 3 := by decide +kernel
theorem d_X11_odds_13 : decode cX11_odds 13 = .ok (.ifCond .eq 25, 3) ∧ 16 = 13 + 3 ∧ (13 : Int) + 25 = ((38 : Nat) : Int) := by decide +kernel
theorem d_X11_odds_16 : decode cX11_odds 16 = .ok (.iload_n 3, 1) ∧ 17 = 16 + 1 := by decide +kernel
theorem d_X11_odds_17 : decode cX11_odds 17 = .ok (.iconst 0, 1) ∧ 18 = 17 + 1 := by decide +kernel
theorem d_X11_odds_18 : decode cX11_odds 18 = .ok (.iconst 1, 1) ∧ 19 = 18 + 1 := by decide +kernel
theorem d_X11_odds_19 : decode cX11_odds 19 = .ok (.invokestatic 101, 3) ∧ 22 = 19 + 3 := by decide +kernel
theorem d_X11_odds_22 : decode cX11_odds 22 = .ok (.ifCond .ne 18, 3) ∧ 25 = 22 + 3 ∧ (22 : Int) + 18 = ((40 : Nat) : Int) := by decide +kernel
theorem d_X11_odds_25 : decode cX11_odds 25 = .ok (.iload_n 3, 1) ∧ 26 = 25 + 1 := by decide +kernel
theorem d_X11_odds_26 : decode cX11_odds 26 = .ok (.sipush 1001, 3) ∧ 29 = 26 + 3 := by decide +kernel
theorem d_X11_odds_29 : decode cX11_odds 29 = .ok (.sipush 2000, 3) ∧ 32 = 29 + 3 := by decide +kernel
theorem d_X11_odds_32 : decode cX11_odds 32 = .ok (.invokestatic 101, 3) ∧ 35 = 32 + 3 := by decide +kernel
theorem d_X11_odds_35 : decode cX11_odds 35 = .ok (.ifCond .ne 5, 3) ∧ 38 = 35 + 3 ∧ (35 : Int) + 5 = ((40 : Nat) : Int) := by decide +kernel
theorem d_X11_odds_38 : decode cX11_odds 38 = .ok (.iconst (-1), 1) ∧ 39 = 38 + 1 := by decide +kernel
theorem d_X11_odds_39 : decode cX11_odds 39 = .ok (.ireturn, 1) := by decide +kernel
theorem d_X11_odds_40 : decode cX11_odds 40 = .ok (.aload_n 0, 1) ∧ 41 = 40 + 1 := by decide +kernel
theorem d_X11_odds_41 : decode cX11_odds 41 = .ok (.iload_n 1, 1) ∧ 42 = 41 + 1 := by decide +kernel
theorem d_X11_odds_42 : decode cX11_odds 42 = .ok (.invokevirtual 359, 3) ∧ 45 = 42 + 3 := by decide +kernel
theorem d_X11_odds_45 : decode cX11_odds 45 = .ok (.aload_n 0, 1) ∧ 46 = 45 + 1 := by decide +kernel
theorem d_X11_odds_46 : decode cX11_odds 46 = .ok (.iload_n 2, 1) ∧ 47 = 46 + 1 := by decide +kernel
theorem d_X11_odds_47 : decode cX11_odds 47 = .ok (.aload_n 0, 1) ∧ 48 = 47 + 1 := by decide +kernel
theorem d_X11_odds_48 : decode cX11_odds 48 = .ok (.invokevirtual 131, 3) ∧ 51 = 48 + 3 := by decide +kernel
theorem d_X11_odds_51 : decode cX11_odds 51 = .ok (.invokevirtual 362, 3) ∧ 54 = 51 + 3 := by decide +kernel
theorem d_X11_odds_54 : decode cX11_odds 54 = .ok (.istore 4, 2) ∧ 56 = 54 + 2 := by decide +kernel
theorem d_X11_odds_56 : decode cX11_odds 56 = .ok (.iload 4, 2) ∧ 58 = 56 + 2 := by decide +kernel
theorem d_X11_odds_58 : decode cX11_odds 58 = .ok (.iconst (-1), 1) ∧ 59 = 58 + 1 := by decide +kernel
theorem d_X11_odds_59 : decode cX11_odds 59 = .ok (.if_icmp .ne 5, 3) ∧ 62 = 59 + 3 ∧ (59 : Int) + 5 = ((64 : Nat) : Int) := by decide +kernel
theorem d_X11_odds_62 : decode cX11_odds 62 = .ok (.iconst (-1), 1) ∧ 63 = 62 + 1 := by decide +kernel
theorem d_X11_odds_63 : decode cX11_odds 63 = .ok (.ireturn, 1) := by decide +kernel
theorem d_X11_odds_64 : decode cX11_odds 64 = .ok (.iload_n 3, 1) ∧ 65 = 64 + 1 := by decide +kernel
theorem d_X11_odds_65 : decode cX11_odds 65 = .ok (.ifCond .ne 8, 3) ∧ 68 = 65 + 3 ∧ (65 : Int) + 8 = ((73 : Nat) : Int) := by decide +kernel
theorem d_X11_odds_68 : decode cX11_odds 68 = .ok (.iload 4, 2) ∧ 70 = 68 + 2 := by decide +kernel
theorem d_X11_odds_70 : decode cX11_odds 70 = .ok (.goto 41, 3) ∧ (70 : Int) + (41) = ((111 : Nat) : Int) := by decide +kernel
theorem d_X11_odds_73 : decode cX11_odds 73 = .ok (.iload_n 3, 1) ∧ 74 = 73 + 1 := by decide +kernel
theorem d_X11_odds_74 : decode cX11_odds 74 = .ok (.iconst 1, 1) ∧ 75 = 74 + 1 := by decide +kernel
theorem d_X11_odds_75 : decode cX11_odds 75 = .ok (.if_icmp .ne 17, 3) ∧ 78 = 75 + 3 ∧ (75 : Int) + 17 = ((92 : Nat) : Int) := by decide +kernel
theorem d_X11_odds_78 : decode cX11_odds 78 = .ok (.sipush 1000, 3) ∧ 81 = 78 + 3 := by decide +kernel
theorem d_X11_odds_81 : decode cX11_odds 81 = .ok (.iload 4, 2) ∧ 83 = 81 + 2 := by decide +kernel
theorem d_X11_odds_83 : decode cX11_odds 83 = .ok (.imul, 1) ∧ 84 = 83 + 1 := by decide +kernel
theorem d_X11_odds_84 : decode cX11_odds 84 = .ok (.aload_n 0, 1) ∧ 85 = 84 + 1 := by decide +kernel
theorem d_X11_odds_85 : decode cX11_odds 85 = .ok (.getfield 343, 3) ∧ 88 = 85 + 3 := by decide +kernel
theorem d_X11_odds_88 : decode cX11_odds 88 = .ok (.idiv, 1) ∧ 89 = 88 + 1 := by decide +kernel
theorem d_X11_odds_89 : decode cX11_odds 89 = .ok (.goto 22, 3) ∧ (89 : Int) + (22) = ((111 : Nat) : Int) := by decide +kernel
theorem d_X11_odds_92 : decode cX11_odds 92 = .ok (.aload_n 0, 1) ∧ 93 = 92 + 1 := by decide +kernel
theorem d_X11_odds_93 : decode cX11_odds 93 = .ok (.iload 4, 2) ∧ 95 = 93 + 2 := by decide +kernel
theorem d_X11_odds_95 : decode cX11_odds 95 = .ok (.iload_n 3, 1) ∧ 96 = 95 + 1 := by decide +kernel
theorem d_X11_odds_96 : decode cX11_odds 96 = .ok (.sipush 1000, 3) ∧ 99 = 96 + 3 := by decide +kernel
theorem d_X11_odds_99 : decode cX11_odds 99 = .ok (.isub, 1) ∧ 100 = 99 + 1 := by decide +kernel
theorem d_X11_odds_100 : decode cX11_odds 100 = .ok (.invokevirtual 365, 3) ∧ 103 = 100 + 3 := by decide +kernel
theorem d_X11_odds_103 : decode cX11_odds 103 = .ok (.ifCond .eq 7, 3) ∧ 106 = 103 + 3 ∧ (103 : Int) + 7 = ((110 : Nat) : Int) := by decide +kernel
theorem d_X11_odds_106 : decode cX11_odds 106 = .ok (.iconst 1, 1) ∧ 107 = 106 + 1 := by decide +kernel
theorem d_X11_odds_107 : decode cX11_odds 107 = .ok (.goto 4, 3) ∧ (107 : Int) + (4) = ((111 : Nat) : Int) := by decide +kernel
theorem d_X11_odds_110 : decode cX11_odds 110 = .ok (.iconst 0, 1) ∧ 111 = 110 + 1 := by decide +kernel
theorem d_X11_odds_111 : decode cX11_odds 111 = .ok (.ireturn, 1) := by decide +kernel
theorem d_X11_paid_0 : decode cX11_paid 0 = .ok (.aload_n 0, 1) ∧ 1 = 0 + 1 := by decide +kernel
theorem d_X11_paid_1 : decode cX11_paid 1 = .ok (.iload_n 1, 1) ∧ 2 = 1 + 1 := by decide +kernel
theorem d_X11_paid_2 : decode cX11_paid 2 = .ok (.invokevirtual 356, 3) ∧ 5 = 2 + 3 := by decide +kernel
theorem d_X11_paid_5 : decode cX11_paid 5 = .ok (.ifCond .eq 30, 3) ∧ 8 = 5 + 3 ∧ (5 : Int) + 30 = ((35 : Nat) : Int) := by decide +kernel
theorem d_X11_paid_8 : decode cX11_paid 8 = .ok (.iload_n 2, 1) ∧ 9 = 8 + 1 := by decide +kernel
theorem d_X11_paid_9 : decode cX11_paid 9 = .ok (.ifCond .lt 26, 3) ∧ 12 = 9 + 3 ∧ (9 : Int) + 26 = ((35 : Nat) : Int) := by decide +kernel
theorem d_X11_paid_12 : decode cX11_paid 12 = .ok (.iload_n 2, 1) ∧ 13 = 12 + 1 := by decide +kernel
theorem d_X11_paid_13 : decode cX11_paid 13 = .ok (.iconst 1, 1) ∧ 14 = 13 + 1 := by decide +kernel
theorem d_X11_paid_14 : decode cX11_paid 14 = .ok (.aload_n 0, 1) ∧ 15 = 14 + 1 := by decide +kernel
theorem d_X11_paid_15 : decode cX11_paid 15 = .ok (.getfield 7, 3) ∧ 18 = 15 + 3 := by decide +kernel
theorem d_X11_paid_18 : decode cX11_paid 18 = .ok (.iconst 1, 1) ∧ 19 = 18 + 1 := by decide +kernel
theorem d_X11_paid_19 : decode cX11_paid 19 = .ok (.iaload, 1) ∧ 20 = 19 + 1 := by decide +kernel
theorem d_X11_paid_20 : decode cX11_paid 20 = .ok (.ishl, 1) ∧ 21 = 20 + 1 := by decide +kernel
theorem d_X11_paid_21 : decode cX11_paid 21 = .ok (.if_icmp .ge 14, 3) ∧ 24 = 21 + 3 ∧ (21 : Int) + 14 = ((35 : Nat) : Int) := by decide +kernel
theorem d_X11_paid_24 : decode cX11_paid 24 = .ok (.iload_n 3, 1) ∧ 25 = 24 + 1 := by decide +kernel
theorem d_X11_paid_25 : decode cX11_paid 25 = .ok (.iconst 1, 1) ∧ 26 = 25 + 1 := by decide +kernel
theorem d_X11_paid_26 : decode cX11_paid 26 = .ok (.sipush 1000, 3) ∧ 29 = 26 + 3 := by decide +kernel
theorem d_X11_paid_29 : decode cX11_paid 29 = .ok (.invokestatic 101, 3) ∧ 32 = 29 + 3 := by decide +kernel
theorem d_X11_paid_32 : decode cX11_paid 32 = .ok (.ifCond .ne 5, 3) ∧ 35 = 32 + 3 ∧ (32 : Int) + 5 = ((37 : Nat) : Int) := by decide +kernel
theorem d_X11_paid_35 : decode cX11_paid 35 = .ok (.iconst (-1), 1) ∧ 36 = 35 + 1 := by decide +kernel
theorem d_X11_paid_36 : decode cX11_paid 36 = .ok (.ireturn, 1) := by decide +kernel
theorem d_X11_paid_37 : decode cX11_paid 37 = .ok (.aload_n 0, 1) ∧ 38 = 37 + 1 := by decide +kernel
theorem d_X11_paid_38 : decode cX11_paid 38 = .ok (.iload_n 1, 1) ∧ 39 = 38 + 1 := by decide +kernel
theorem d_X11_paid_39 : decode cX11_paid 39 = .ok (.invokevirtual 359, 3) ∧ 42 = 39 + 3 := by decide +kernel
theorem d_X11_paid_42 : decode cX11_paid 42 = .ok (.iconst 0, 1) ∧ 43 = 42 + 1 := by decide +kernel
theorem d_X11_paid_43 : decode cX11_paid 43 = .ok (.istore 4, 2) ∧ 45 = 43 + 2 := by decide +kernel
theorem d_X11_paid_45 : decode cX11_paid 45 = .ok (.iconst 0, 1) ∧ 46 = 45 + 1 := by decide +kernel
theorem d_X11_paid_46 : decode cX11_paid 46 = .ok (.istore 5, 2) ∧ 48 = 46 + 2 := by decide +kernel
theorem d_X11_paid_48 : decode cX11_paid 48 = .ok (.iload 5, 2) ∧ 50 = 48 + 2 := by decide +kernel
theorem d_X11_paid_50 : decode cX11_paid 50 = .ok (.aload_n 0, 1) ∧ 51 = 50 + 1 := by decide +kernel
theorem d_X11_paid_51 : decode cX11_paid 51 = .ok (.getfield 7, 3) ∧ 54 = 51 + 3 := by decide +kernel
theorem d_X11_paid_54 : decode cX11_paid 54 = .ok (.iconst 1, 1) ∧ 55 = 54 + 1 := by decide +kernel
theorem d_X11_paid_55 : decode cX11_paid 55 = .ok (.iaload, 1) ∧ 56 = 55 + 1 := by decide +kernel
theorem d_X11_paid_56 : decode cX11_paid 56 = .ok (.if_icmp .ge 61, 3) ∧ 59 = 56 + 3 ∧ (56 : Int) + 61 = ((117 : Nat) : Int) := by decide +kernel
theorem d_X11_paid_59 : decode cX11_paid 59 = .ok (.aload_n 0, 1) ∧ 60 = 59 + 1 := by decide +kernel
theorem d_X11_paid_60 : decode cX11_paid 60 = .ok (.getfield 88, 3) ∧ 63 = 60 + 3 := by decide +kernel
theorem d_X11_paid_63 : decode cX11_paid 63 = .ok (.iload 5, 2) ∧ 65 = 63 + 2 := by decide +kernel
theorem d_X11_paid_65 : decode cX11_paid 65 = .ok (.iload_n 2, 1) ∧ 66 = 65 + 1 := by decide +kernel
theorem d_X11_paid_66 : decode cX11_paid 66 = .ok (.iload 5, 2) ∧ 68 = 66 + 2 := by decide +kernel
theorem d_X11_paid_68 : decode cX11_paid 68 = .ok (.ishr, 1) ∧ 69 = 68 + 1 := by decide +kernel
theorem d_X11_paid_69 : decode cX11_paid 69 = .ok (.iconst 1, 1) ∧ 70 = 69 + 1 := by decide +kernel
theorem d_X11_paid_70 : decode cX11_paid 70 = .ok (.iand, 1) ∧ 71 = 70 + 1 := by decide +kernel
theorem d_X11_paid_71 : decode cX11_paid 71 = .ok (.iconst 1, 1) ∧ 72 = 71 + 1 := by decide +kernel
theorem d_X11_paid_72 : decode cX11_paid 72 = .ok (.if_icmp .ne 16, 3) ∧ 75 = 72 + 3 ∧ (72 : Int) + 16 = ((88 : Nat) : Int) := by decide +kernel
theorem d_X11_paid_75 : decode cX11_paid 75 = .ok (.aload_n 0, 1) ∧ 76 = 75 + 1 := by decide +kernel
theorem d_X11_paid_76 : decode cX11_paid 76 = .ok (.iload 5, 2) ∧ 78 = 76 + 2 := by decide +kernel
theorem d_X11_paid_78 : decode cX11_paid 78 = .ok (.aload_n 0, 1) ∧ 79 = 78 + 1 := by decide +kernel
theorem d_X11_paid_79 : decode cX11_paid 79 = .ok (.invokevirtual 131, 3) ∧ 82 = 79 + 3 := by decide +kernel
theorem d_X11_paid_82 : decode cX11_paid 82 = .ok (.invokevirtual 362, 3) ∧ 85 = 82 + 3 := by decide +kernel
theorem d_X11_paid_85 : decode cX11_paid 85 = .ok (.goto 4, 3) ∧ (85 : Int) + (4) = ((89 : Nat) : Int) := by decide +kernel
theorem d_X11_paid_88 : decode cX11_paid 88 = .ok (.iconst (-1), 1) ∧ 89 = 88 + 1 := by decide +kernel
theorem d_X11_paid_89 : decode cX11_paid 89 = .ok (.iastore, 1) ∧ 90 = 89 + 1 := by decide +kernel
theorem d_X11_paid_90 : decode cX11_paid 90 = .ok (.iload 4, 2) ∧ 92 = 90 + 2 := by decide +kernel
theorem d_X11_paid_92 : decode cX11_paid 92 = .ok (.aload_n 0, 1) ∧ 93 = 92 + 1 := by decide +kernel
theorem d_X11_paid_93 : decode cX11_paid 93 = .ok (.getfield 88, 3) ∧ 96 = 93 + 3 := by decide +kernel
theorem d_X11_paid_96 : decode cX11_paid 96 = .ok (.iload 5, 2) ∧ 98 = 96 + 2 := by decide +kernel
theorem d_X11_paid_98 : decode cX11_paid 98 = .ok (.iaload, 1) ∧ 99 = 98 + 1 := by decide +kernel
theorem d_X11_paid_99 : decode cX11_paid 99 = .ok (.iconst (-1), 1) ∧ 100 = 99 + 1 := by decide +kernel
theorem d_X11_paid_100 : decode cX11_paid 100 = .ok (.if_icmp .eq 7, 3) ∧ 103 = 100 + 3 ∧ (100 : Int) + 7 = ((107 : Nat) : Int) := by decide +kernel
theorem d_X11_paid_103 : decode cX11_paid 103 = .ok (.iconst 1, 1) ∧ 104 = 103 + 1 := by decide +kernel
theorem d_X11_paid_104 : decode cX11_paid 104 = .ok (.goto 4, 3) ∧ (104 : Int) + (4) = ((108 : Nat) : Int) := by decide +kernel
theorem d_X11_paid_107 : decode cX11_paid 107 = .ok (.iconst 0, 1) ∧ 108 = 107 + 1 := by decide +kernel
theorem d_X11_paid_108 : decode cX11_paid 108 = .ok (.iadd, 1) ∧ 109 = 108 + 1 := by decide +kernel
theorem d_X11_paid_109 : decode cX11_paid 109 = .ok (.istore 4, 2) ∧ 111 = 109 + 2 := by decide +kernel
theorem d_X11_paid_111 : decode cX11_paid 111 = .ok (.iinc 5 1, 3) ∧ 114 = 111 + 3 := by decide +kernel
theorem d_X11_paid_114 : decode cX11_paid 114 = .ok (.goto (-66), 3) ∧ (114 : Int) + ((-66)) = ((48 : Nat) : Int) := by decide +kernel
theorem d_X11_paid_117 : decode cX11_paid 117 = .ok (.iconst 0, 1) ∧ 118 = 117 + 1 := by decide +kernel
theorem d_X11_paid_118 : decode cX11_paid 118 = .ok (.istore 5, 2) ∧ 120 = 118 + 2 := by decide +kernel
theorem d_X11_paid_120 : decode cX11_paid 120 = .ok (.iconst 0, 1) ∧ 121 = 120 + 1 := by decide +kernel
theorem d_X11_paid_121 : decode cX11_paid 121 = .ok (.istore 6, 2) ∧ 123 = 121 + 2 := by decide +kernel
theorem d_X11_paid_123 : decode cX11_paid 123 = .ok (.iload 6, 2) ∧ 125 = 123 + 2 := by decide +kernel
theorem d_X11_paid_125 : decode cX11_paid 125 = .ok (.iload 4, 2) ∧ 127 = 125 + 2 := by decide +kernel
theorem d_X11_paid_127 : decode cX11_paid 127 = .ok (.if_icmp .ge 118, 3) ∧ 130 = 127 + 3 ∧ (127 : Int) + 118 = ((245 : Nat) : Int) := by decide +kernel
theorem d_X11_paid_130 : decode cX11_paid 130 = .ok (.iconst (-1), 1) ∧ 131 = 130 + 1 := by decide +kernel
theorem d_X11_paid_131 : decode cX11_paid 131 = .ok (.istore 7, 2) ∧ 133 = 131 + 2 := by decide +kernel
theorem d_X11_paid_133 : decode cX11_paid 133 = .ok (.iconst 0, 1) ∧ 134 = 133 + 1 := by decide +kernel
theorem d_X11_paid_134 : decode cX11_paid 134 = .ok (.istore 8, 2) ∧ 136 = 134 + 2 := by decide +kernel
theorem d_X11_paid_136 : decode cX11_paid 136 = .ok (.iload 8, 2) ∧ 138 = 136 + 2 := by decide +kernel
theorem d_X11_paid_138 : decode cX11_paid 138 = .ok (.aload_n 0, 1) ∧ 139 = 138 + 1 := by decide +kernel
theorem d_X11_paid_139 : decode cX11_paid 139 = .ok (.getfield 7, 3) ∧ 142 = 139 + 3 := by decide +kernel
theorem d_X11_paid_142 : decode cX11_paid 142 = .ok (.iconst 1, 1) ∧ 143 = 142 + 1 := by decide +kernel
theorem d_X11_paid_143 : decode cX11_paid 143 = .ok (.iaload, 1) ∧ 144 = 143 + 1 := by decide +kernel
theorem d_X11_paid_144 : decode cX11_paid 144 = .ok (.if_icmp .ge 57, 3) ∧ 147 = 144 + 3 ∧ (144 : Int) + 57 = ((201 : Nat) : Int) := by decide +kernel
theorem d_X11_paid_147 : decode cX11_paid 147 = .ok (.aload_n 0, 1) ∧ 148 = 147 + 1 := by decide +kernel
theorem d_X11_paid_148 : decode cX11_paid 148 = .ok (.getfield 88, 3) ∧ 151 = 148 + 3 := by decide +kernel
theorem d_X11_paid_151 : decode cX11_paid 151 = .ok (.iload 8, 2) ∧ 153 = 151 + 2 := by decide +kernel
theorem d_X11_paid_153 : decode cX11_paid 153 = .ok (.iaload, 1) ∧ 154 = 153 + 1 := by decide +kernel
theorem d_X11_paid_154 : decode cX11_paid 154 = .ok (.iconst (-1), 1) ∧ 155 = 154 + 1 := by decide +kernel
theorem d_X11_paid_155 : decode cX11_paid 155 = .ok (.if_icmp .eq 40, 3) ∧ 158 = 155 + 3 ∧ (155 : Int) + 40 = ((195 : Nat) : Int) := by decide +kernel
theorem d_X11_paid_158 : decode cX11_paid 158 = .ok (.iload 5, 2) ∧ 160 = 158 + 2 := by decide +kernel
theorem d_X11_paid_160 : decode cX11_paid 160 = .ok (.iload 8, 2) ∧ 162 = 160 + 2 := by decide +kernel
theorem d_X11_paid_162 : decode cX11_paid 162 = .ok (.ishr, 1) ∧ 163 = 162 + 1 := by decide +kernel
theorem d_X11_paid_163 : decode cX11_paid 163 = .ok (.iconst 1, 1) ∧ 164 = 163 + 1 := by decide +kernel
theorem d_X11_paid_164 : decode cX11_paid 164 = .ok (.iand, 1) ∧ 165 = 164 + 1 := by decide +kernel
theorem d_X11_paid_165 : decode cX11_paid 165 = .ok (.ifCond .ne 30, 3) ∧ 168 = 165 + 3 ∧ (165 : Int) + 30 = ((195 : Nat) : Int) := by decide +kernel
theorem d_X11_paid_168 : decode cX11_paid 168 = .ok (.iload 7, 2) ∧ 170 = 168 + 2 := by decide +kernel
theorem d_X11_paid_170 : decode cX11_paid 170 = .ok (.iconst (-1), 1) ∧ 171 = 170 + 1 := by decide +kernel
theorem d_X11_paid_171 : decode cX11_paid 171 = .ok (.if_icmp .eq 20, 3) ∧ 174 = 171 + 3 ∧ (171 : Int) + 20 = ((191 : Nat) : Int) := by decide +kernel
theorem d_X11_paid_174 : decode cX11_paid 174 = .ok (.aload_n 0, 1) ∧ 175 = 174 + 1 := by decide +kernel
theorem d_X11_paid_175 : decode cX11_paid 175 = .ok (.getfield 88, 3) ∧ 178 = 175 + 3 := by decide +kernel
theorem d_X11_paid_178 : decode cX11_paid 178 = .ok (.iload 8, 2) ∧ 180 = 178 + 2 := by decide +kernel
theorem d_X11_paid_180 : decode cX11_paid 180 = .ok (.iaload, 1) ∧ 181 = 180 + 1 := by decide +kernel
theorem d_X11_paid_181 : decode cX11_paid 181 = .ok (.aload_n 0, 1) ∧ 182 = 181 + 1 := by decide +kernel
theorem d_X11_paid_182 : decode cX11_paid 182 = .ok (.getfield 88, 3) ∧ 185 = 182 + 3 := by decide +kernel
theorem d_X11_paid_185 : decode cX11_paid 185 = .ok (.iload 7, 2) ∧ 187 = 185 + 2 := by decide +kernel
theorem d_X11_paid_187 : decode cX11_paid 187 = .ok (.iaload, 1) ∧ 188 = 187 + 1 := by decide +kernel
theorem d_X11_paid_188 : decode cX11_paid 188 = .ok (.if_icmp .ge 7, 3) ∧ 191 = 188 + 3 ∧ (188 : Int) + 7 = ((195 : Nat) : Int) := by decide +kernel
theorem d_X11_paid_191 : decode cX11_paid 191 = .ok (.iload 8, 2) ∧ 193 = 191 + 2 := by decide +kernel
theorem d_X11_paid_193 : decode cX11_paid 193 = .ok (.istore 7, 2) ∧ 195 = 193 + 2 := by decide +kernel
theorem d_X11_paid_195 : decode cX11_paid 195 = .ok (.iinc 8 1, 3) ∧ 198 = 195 + 3 := by decide +kernel
theorem d_X11_paid_198 : decode cX11_paid 198 = .ok (.goto (-62), 3) ∧ (198 : Int) + ((-62)) = ((136 : Nat) : Int) := by decide +kernel
theorem d_X11_paid_201 : decode cX11_paid 201 = .ok (.aload_n 0, 1) ∧ 202 = 201 + 1 := by decide +kernel
theorem d_X11_paid_202 : decode cX11_paid 202 = .ok (.getfield 88, 3) ∧ 205 = 202 + 3 := by decide +kernel
theorem d_X11_paid_205 : decode cX11_paid 205 = .ok (.iload 7, 2) ∧ 207 = 205 + 2 := by decide +kernel
theorem d_X11_paid_207 : decode cX11_paid 207 = .ok (.iaload, 1) ∧ 208 = 207 + 1 := by decide +kernel
theorem d_X11_paid_208 : decode cX11_paid 208 = .ok (.iload 4, 2) ∧ 210 = 208 + 2 := by decide +kernel
theorem d_X11_paid_210 : decode cX11_paid 210 = .ok (.iload 6, 2) ∧ 212 = 210 + 2 := by decide +kernel
theorem d_X11_paid_212 : decode cX11_paid 212 = .ok (.isub, 1) ∧ 213 = 212 + 1 := by decide +kernel
theorem d_X11_paid_213 : decode cX11_paid 213 = .ok (.imul, 1) ∧ 214 = 213 + 1 := by decide +kernel
theorem d_X11_paid_214 : decode cX11_paid 214 = .ok (.sipush 1000, 3) ∧ 217 = 214 + 3 := by decide +kernel
theorem d_X11_paid_217 : decode cX11_paid 217 = .ok (.imul, 1) ∧ 218 = 217 + 1 := by decide +kernel
theorem d_X11_paid_218 : decode cX11_paid 218 = .ok (.iload_n 3, 1) ∧ 219 = 218 + 1 := by decide +kernel
theorem d_X11_paid_219 : decode cX11_paid 219 = .ok (.aload_n 0, 1) ∧ 220 = 219 + 1 := by decide +kernel
theorem d_X11_paid_220 : decode cX11_paid 220 = .ok (.getfield 343, 3) ∧ 223 = 220 + 3 := by decide +kernel
theorem d_X11_paid_223 : decode cX11_paid 223 = .ok (.imul, 1) ∧ 224 = 223 + 1 := by decide +kernel
theorem d_X11_paid_224 : decode cX11_paid 224 = .ok (.if_icmp .le 6, 3) ∧ 227 = 224 + 3 ∧ (224 : Int) + 6 = ((230 : Nat) : Int) := by decide +kernel
theorem d_X11_paid_227 : decode cX11_paid 227 = .ok (.iload 5, 2) ∧ 229 = 227 + 2 := by decide +kernel
theorem d_X11_paid_229 : decode cX11_paid 229 = .ok (.ireturn, 1) := by decide +kernel
theorem d_X11_paid_230 : decode cX11_paid 230 = .ok (.iload 5, 2) ∧ 232 = 230 + 2 := by decide +kernel
theorem d_X11_paid_232 : decode cX11_paid 232 = .ok (.iconst 1, 1) ∧ 233 = 232 + 1 := by decide +kernel
theorem d_X11_paid_233 : decode cX11_paid 233 = .ok (.iload 7, 2) ∧ 235 = 233 + 2 := by decide +kernel
theorem d_X11_paid_235 : decode cX11_paid 235 = .ok (.ishl, 1) ∧ 236 = 235 + 1 := by decide +kernel
theorem d_X11_paid_236 : decode cX11_paid 236 = .ok (.ior, 1) ∧ 237 = 236 + 1 := by decide +kernel
theorem d_X11_paid_237 : decode cX11_paid 237 = .ok (.istore 5, 2) ∧ 239 = 237 + 2 := by decide +kernel
theorem d_X11_paid_239 : decode cX11_paid 239 = .ok (.iinc 6 1, 3) ∧ 242 = 239 + 3 := by decide +kernel
theorem d_X11_paid_242 : decode cX11_paid 242 = .ok (.goto (-119), 3) ∧ (242 : Int) + ((-119)) = ((123 : Nat) : Int) := by decide +kernel
theorem d_X11_paid_245 : decode cX11_paid 245 = .ok (.iload 5, 2) ∧ 247 = 245 + 2 := by decide +kernel
theorem d_X11_paid_247 : decode cX11_paid 247 = .ok (.ireturn, 1) := by decide +kernel
theorem d_X11_standsWithout_0 : decode cX11_standsWithout 0 = .ok (.iload_n 3, 1) ∧ 1 = 0 + 1 := by decide +kernel
theorem d_X11_standsWithout_1 : decode cX11_standsWithout 1 = .ok (.iconst (-1), 1) ∧ 2 = 1 + 1 := by decide +kernel
theorem d_X11_standsWithout_2 : decode cX11_standsWithout 2 = .ok (.if_icmp .ne 7, 3) ∧ 5 = 2 + 3 ∧ (2 : Int) + 7 = ((9 : Nat) : Int) := by decide +kernel
theorem d_X11_standsWithout_5 : decode cX11_standsWithout 5 = .ok (.iconst (-1), 1) ∧ 6 = 5 + 1 := by decide +kernel
theorem d_X11_standsWithout_6 : decode cX11_standsWithout 6 = .ok (.goto 9, 3) ∧ (6 : Int) + (9) = ((15 : Nat) : Int) := by decide +kernel
theorem d_X11_standsWithout_9 : decode cX11_standsWithout 9 = .ok (.aload_n 0, 1) ∧ 10 = 9 + 1 := by decide +kernel
theorem d_X11_standsWithout_10 : decode cX11_standsWithout 10 = .ok (.iload_n 1, 1) ∧ 11 = 10 + 1 := by decide +kernel
theorem d_X11_standsWithout_11 : decode cX11_standsWithout 11 = .ok (.iload_n 3, 1) ∧ 12 = 11 + 1 := by decide +kernel
theorem d_X11_standsWithout_12 : decode cX11_standsWithout 12 = .ok (.invokevirtual 112, 3) ∧ 15 = 12 + 3 := by decide +kernel
theorem d_X11_standsWithout_15 : decode cX11_standsWithout 15 = .ok (.istore 5, 2) ∧ 17 = 15 + 2 := by decide +kernel
theorem d_X11_standsWithout_17 : decode cX11_standsWithout 17 = .ok (.iload 4, 2) ∧ 19 = 17 + 2 := by decide +kernel
theorem d_X11_standsWithout_19 : decode cX11_standsWithout 19 = .ok (.iconst (-1), 1) ∧ 20 = 19 + 1 := by decide +kernel
theorem d_X11_standsWithout_20 : decode cX11_standsWithout 20 = .ok (.if_icmp .ne 7, 3) ∧ 23 = 20 + 3 ∧ (20 : Int) + 7 = ((27 : Nat) : Int) := by decide +kernel
theorem d_X11_standsWithout_23 : decode cX11_standsWithout 23 = .ok (.iconst (-1), 1) ∧ 24 = 23 + 1 := by decide +kernel
theorem d_X11_standsWithout_24 : decode cX11_standsWithout 24 = .ok (.goto 10, 3) ∧ (24 : Int) + (10) = ((34 : Nat) : Int) := by decide +kernel
theorem d_X11_standsWithout_27 : decode cX11_standsWithout 27 = .ok (.aload_n 0, 1) ∧ 28 = 27 + 1 := by decide +kernel
theorem d_X11_standsWithout_28 : decode cX11_standsWithout 28 = .ok (.iload_n 1, 1) ∧ 29 = 28 + 1 := by decide +kernel
theorem d_X11_standsWithout_29 : decode cX11_standsWithout 29 = .ok (.iload 4, 2) ∧ 31 = 29 + 2 := by decide +kernel
theorem d_X11_standsWithout_31 : decode cX11_standsWithout 31 = .ok (.invokevirtual 112, 3) ∧ 34 = 31 + 3 := by decide +kernel
theorem d_X11_standsWithout_34 : decode cX11_standsWithout 34 = .ok (.istore 6, 2) ∧ 36 = 34 + 2 := by decide +kernel
theorem d_X11_standsWithout_36 : decode cX11_standsWithout 36 = .ok (.iload_n 3, 1) ∧ 37 = 36 + 1 := by decide +kernel
theorem d_X11_standsWithout_37 : decode cX11_standsWithout 37 = .ok (.iconst (-1), 1) ∧ 38 = 37 + 1 := by decide +kernel
theorem d_X11_standsWithout_38 : decode cX11_standsWithout 38 = .ok (.if_icmp .eq 19, 3) ∧ 41 = 38 + 3 ∧ (38 : Int) + 19 = ((57 : Nat) : Int) := by decide +kernel
theorem d_X11_standsWithout_41 : decode cX11_standsWithout 41 = .ok (.aload_n 0, 1) ∧ 42 = 41 + 1 := by decide +kernel
theorem d_X11_standsWithout_42 : decode cX11_standsWithout 42 = .ok (.getfield 7, 3) ∧ 45 = 42 + 3 := by decide +kernel
theorem d_X11_standsWithout_45 : decode cX11_standsWithout 45 = .ok (.sipush 150, 3) ∧ 48 = 45 + 3 := by decide +kernel
theorem d_X11_standsWithout_48 : decode cX11_standsWithout 48 = .ok (.bipush 14, 2) ∧ 50 = 48 + 2 := by decide +kernel
theorem d_X11_standsWithout_50 : decode cX11_standsWithout 50 = .ok (.iload_n 1, 1) ∧ 51 = 50 + 1 := by decide +kernel
theorem d_X11_standsWithout_51 : decode cX11_standsWithout 51 = .ok (.imul, 1) ∧ 52 = 51 + 1 := by decide +kernel
theorem d_X11_standsWithout_52 : decode cX11_standsWithout 52 = .ok (.iadd, 1) ∧ 53 = 52 + 1 := by decide +kernel
theorem d_X11_standsWithout_53 : decode cX11_standsWithout 53 = .ok (.iload_n 3, 1) ∧ 54 = 53 + 1 := by decide +kernel
theorem d_X11_standsWithout_54 : decode cX11_standsWithout 54 = .ok (.iadd, 1) ∧ 55 = 54 + 1 := by decide +kernel
theorem d_X11_standsWithout_55 : decode cX11_standsWithout 55 = .ok (.iconst (-1), 1) ∧ 56 = 55 + 1 := by decide +kernel
theorem d_X11_standsWithout_56 : decode cX11_standsWithout 56 = .ok (.iastore, 1) ∧ 57 = 56 + 1 := by decide +kernel
theorem d_X11_standsWithout_57 : decode cX11_standsWithout 57 = .ok (.iload 4, 2) ∧ 59 = 57 + 2 := by decide +kernel
theorem d_X11_standsWithout_59 : decode cX11_standsWithout 59 = .ok (.iconst (-1), 1) ∧ 60 = 59 + 1 := by decide +kernel
theorem d_X11_standsWithout_60 : decode cX11_standsWithout 60 = .ok (.if_icmp .eq 20, 3) ∧ 63 = 60 + 3 ∧ (60 : Int) + 20 = ((80 : Nat) : Int) := by decide +kernel
theorem d_X11_standsWithout_63 : decode cX11_standsWithout 63 = .ok (.aload_n 0, 1) ∧ 64 = 63 + 1 := by decide +kernel
theorem d_X11_standsWithout_64 : decode cX11_standsWithout 64 = .ok (.getfield 7, 3) ∧ 67 = 64 + 3 := by decide +kernel
theorem d_X11_standsWithout_67 : decode cX11_standsWithout 67 = .ok (.sipush 150, 3) ∧ 70 = 67 + 3 := by decide +kernel
theorem d_X11_standsWithout_70 : decode cX11_standsWithout 70 = .ok (.bipush 14, 2) ∧ 72 = 70 + 2 := by decide +kernel
theorem d_X11_standsWithout_72 : decode cX11_standsWithout 72 = .ok (.iload_n 1, 1) ∧ 73 = 72 + 1 := by decide +kernel
theorem d_X11_standsWithout_73 : decode cX11_standsWithout 73 = .ok (.imul, 1) ∧ 74 = 73 + 1 := by decide +kernel
theorem d_X11_standsWithout_74 : decode cX11_standsWithout 74 = .ok (.iadd, 1) ∧ 75 = 74 + 1 := by decide +kernel
theorem d_X11_standsWithout_75 : decode cX11_standsWithout 75 = .ok (.iload 4, 2) ∧ 77 = 75 + 2 := by decide +kernel
theorem d_X11_standsWithout_77 : decode cX11_standsWithout 77 = .ok (.iadd, 1) ∧ 78 = 77 + 1 := by decide +kernel
theorem d_X11_standsWithout_78 : decode cX11_standsWithout 78 = .ok (.iconst (-1), 1) ∧ 79 = 78 + 1 := by decide +kernel
theorem d_X11_standsWithout_79 : decode cX11_standsWithout 79 = .ok (.iastore, 1) ∧ 80 = 79 + 1 := by decide +kernel
theorem d_X11_standsWithout_80 : decode cX11_standsWithout 80 = .ok (.aload_n 0, 1) ∧ 81 = 80 + 1 := by decide +kernel
theorem d_X11_standsWithout_81 : decode cX11_standsWithout 81 = .ok (.aload_n 0, 1) ∧ 82 = 81 + 1 := by decide +kernel
theorem d_X11_standsWithout_82 : decode cX11_standsWithout 82 = .ok (.iload_n 1, 1) ∧ 83 = 82 + 1 := by decide +kernel
theorem d_X11_standsWithout_83 : decode cX11_standsWithout 83 = .ok (.aload_n 0, 1) ∧ 84 = 83 + 1 := by decide +kernel
theorem d_X11_standsWithout_84 : decode cX11_standsWithout 84 = .ok (.invokevirtual 131, 3) ∧ 87 = 84 + 3 := by decide +kernel
theorem d_X11_standsWithout_87 : decode cX11_standsWithout 87 = .ok (.invokevirtual 362, 3) ∧ 90 = 87 + 3 := by decide +kernel
theorem d_X11_standsWithout_90 : decode cX11_standsWithout 90 = .ok (.iload_n 2, 1) ∧ 91 = 90 + 1 := by decide +kernel
theorem d_X11_standsWithout_91 : decode cX11_standsWithout 91 = .ok (.invokevirtual 365, 3) ∧ 94 = 91 + 3 := by decide +kernel
theorem d_X11_standsWithout_94 : decode cX11_standsWithout 94 = .ok (.istore 7, 2) ∧ 96 = 94 + 2 := by decide +kernel
theorem d_X11_standsWithout_96 : decode cX11_standsWithout 96 = .ok (.iload_n 3, 1) ∧ 97 = 96 + 1 := by decide +kernel
theorem d_X11_standsWithout_97 : decode cX11_standsWithout 97 = .ok (.iconst (-1), 1) ∧ 98 = 97 + 1 := by decide +kernel
theorem d_X11_standsWithout_98 : decode cX11_standsWithout 98 = .ok (.if_icmp .eq 20, 3) ∧ 101 = 98 + 3 ∧ (98 : Int) + 20 = ((118 : Nat) : Int) := by decide +kernel
theorem d_X11_standsWithout_101 : decode cX11_standsWithout 101 = .ok (.aload_n 0, 1) ∧ 102 = 101 + 1 := by decide +kernel
theorem d_X11_standsWithout_102 : decode cX11_standsWithout 102 = .ok (.getfield 7, 3) ∧ 105 = 102 + 3 := by decide +kernel
theorem d_X11_standsWithout_105 : decode cX11_standsWithout 105 = .ok (.sipush 150, 3) ∧ 108 = 105 + 3 := by decide +kernel
theorem d_X11_standsWithout_108 : decode cX11_standsWithout 108 = .ok (.bipush 14, 2) ∧ 110 = 108 + 2 := by decide +kernel
theorem d_X11_standsWithout_110 : decode cX11_standsWithout 110 = .ok (.iload_n 1, 1) ∧ 111 = 110 + 1 := by decide +kernel
theorem d_X11_standsWithout_111 : decode cX11_standsWithout 111 = .ok (.imul, 1) ∧ 112 = 111 + 1 := by decide +kernel
theorem d_X11_standsWithout_112 : decode cX11_standsWithout 112 = .ok (.iadd, 1) ∧ 113 = 112 + 1 := by decide +kernel
theorem d_X11_standsWithout_113 : decode cX11_standsWithout 113 = .ok (.iload_n 3, 1) ∧ 114 = 113 + 1 := by decide +kernel
theorem d_X11_standsWithout_114 : decode cX11_standsWithout 114 = .ok (.iadd, 1) ∧ 115 = 114 + 1 := by decide +kernel
theorem d_X11_standsWithout_115 : decode cX11_standsWithout 115 = .ok (.iload 5, 2) ∧ 117 = 115 + 2 := by decide +kernel
theorem d_X11_standsWithout_117 : decode cX11_standsWithout 117 = .ok (.iastore, 1) ∧ 118 = 117 + 1 := by decide +kernel
theorem d_X11_standsWithout_118 : decode cX11_standsWithout 118 = .ok (.iload 4, 2) ∧ 120 = 118 + 2 := by decide +kernel
theorem d_X11_standsWithout_120 : decode cX11_standsWithout 120 = .ok (.iconst (-1), 1) ∧ 121 = 120 + 1 := by decide +kernel
theorem d_X11_standsWithout_121 : decode cX11_standsWithout 121 = .ok (.if_icmp .eq 21, 3) ∧ 124 = 121 + 3 ∧ (121 : Int) + 21 = ((142 : Nat) : Int) := by decide +kernel
theorem d_X11_standsWithout_124 : decode cX11_standsWithout 124 = .ok (.aload_n 0, 1) ∧ 125 = 124 + 1 := by decide +kernel
theorem d_X11_standsWithout_125 : decode cX11_standsWithout 125 = .ok (.getfield 7, 3) ∧ 128 = 125 + 3 := by decide +kernel
theorem d_X11_standsWithout_128 : decode cX11_standsWithout 128 = .ok (.sipush 150, 3) ∧ 131 = 128 + 3 := by decide +kernel
theorem d_X11_standsWithout_131 : decode cX11_standsWithout 131 = .ok (.bipush 14, 2) ∧ 133 = 131 + 2 := by decide +kernel
theorem d_X11_standsWithout_133 : decode cX11_standsWithout 133 = .ok (.iload_n 1, 1) ∧ 134 = 133 + 1 := by decide +kernel
theorem d_X11_standsWithout_134 : decode cX11_standsWithout 134 = .ok (.imul, 1) ∧ 135 = 134 + 1 := by decide +kernel
theorem d_X11_standsWithout_135 : decode cX11_standsWithout 135 = .ok (.iadd, 1) ∧ 136 = 135 + 1 := by decide +kernel
theorem d_X11_standsWithout_136 : decode cX11_standsWithout 136 = .ok (.iload 4, 2) ∧ 138 = 136 + 2 := by decide +kernel
theorem d_X11_standsWithout_138 : decode cX11_standsWithout 138 = .ok (.iadd, 1) ∧ 139 = 138 + 1 := by decide +kernel
theorem d_X11_standsWithout_139 : decode cX11_standsWithout 139 = .ok (.iload 6, 2) ∧ 141 = 139 + 2 := by decide +kernel
theorem d_X11_standsWithout_141 : decode cX11_standsWithout 141 = .ok (.iastore, 1) ∧ 142 = 141 + 1 := by decide +kernel
theorem d_X11_standsWithout_142 : decode cX11_standsWithout 142 = .ok (.iload 7, 2) ∧ 144 = 142 + 2 := by decide +kernel
theorem d_X11_standsWithout_144 : decode cX11_standsWithout 144 = .ok (.ireturn, 1) := by decide +kernel
theorem d_X11_few_0 : decode cX11_few 0 = .ok (.aload_n 0, 1) ∧ 1 = 0 + 1 := by decide +kernel
theorem d_X11_few_1 : decode cX11_few 1 = .ok (.iload_n 1, 1) ∧ 2 = 1 + 1 := by decide +kernel
theorem d_X11_few_2 : decode cX11_few 2 = .ok (.invokevirtual 356, 3) ∧ 5 = 2 + 3 := by decide +kernel
theorem d_X11_few_5 : decode cX11_few 5 = .ok (.ifCond .eq 32, 3) ∧ 8 = 5 + 3 ∧ (5 : Int) + 32 = ((37 : Nat) : Int) := by decide +kernel
theorem d_X11_few_8 : decode cX11_few 8 = .ok (.aload_n 0, 1) ∧ 9 = 8 + 1 := by decide +kernel
theorem d_X11_few_9 : decode cX11_few 9 = .ok (.iload_n 2, 1) ∧ 10 = 9 + 1 := by decide +kernel
theorem d_X11_few_10 : decode cX11_few 10 = .ok (.invokevirtual 109, 3) ∧ 13 = 10 + 3 := by decide +kernel
theorem d_X11_few_13 : decode cX11_few 13 = .ok (.ifCond .eq 24, 3) ∧ 16 = 13 + 3 ∧ (13 : Int) + 24 = ((37 : Nat) : Int) := by decide +kernel
theorem d_X11_few_16 : decode cX11_few 16 = .ok (.iload_n 3, 1) ∧ 17 = 16 + 1 := by decide +kernel
theorem d_X11_few_17 : decode cX11_few 17 = .ok (.iconst 1, 1) ∧ 18 = 17 + 1 := by decide +kernel
theorem d_X11_few_18 : decode cX11_few 18 = .ok (.sipush 1000, 3) ∧ 21 = 18 + 3 := by decide +kernel
theorem d_X11_few_21 : decode cX11_few 21 = .ok (.invokestatic 101, 3) ∧ 24 = 21 + 3 := by decide +kernel
theorem d_X11_few_24 : decode cX11_few 24 = .ok (.ifCond .eq 13, 3) ∧ 27 = 24 + 3 ∧ (24 : Int) + 13 = ((37 : Nat) : Int) := by decide +kernel
theorem d_X11_few_27 : decode cX11_few 27 = .ok (.iload 4, 2) ∧ 29 = 27 + 2 := by decide +kernel
theorem d_X11_few_29 : decode cX11_few 29 = .ok (.iconst 0, 1) ∧ 30 = 29 + 1 := by decide +kernel
theorem d_X11_few_30 : decode cX11_few 30 = .ok (.iconst 2, 1) ∧ 31 = 30 + 1 := by decide +kernel
theorem d_X11_few_31 : decode cX11_few 31 = .ok (.invokestatic 101, 3) ∧ 34 = 31 + 3 := by decide +kernel
theorem d_X11_few_34 : decode cX11_few 34 = .ok (.ifCond .ne 5, 3) ∧ 37 = 34 + 3 ∧ (34 : Int) + 5 = ((39 : Nat) : Int) := by decide +kernel
theorem d_X11_few_37 : decode cX11_few 37 = .ok (.iconst (-1), 1) ∧ 38 = 37 + 1 := by decide +kernel
theorem d_X11_few_38 : decode cX11_few 38 = .ok (.ireturn, 1) := by decide +kernel
theorem d_X11_few_39 : decode cX11_few 39 = .ok (.aload_n 0, 1) ∧ 40 = 39 + 1 := by decide +kernel
theorem d_X11_few_40 : decode cX11_few 40 = .ok (.iload_n 1, 1) ∧ 41 = 40 + 1 := by decide +kernel
theorem d_X11_few_41 : decode cX11_few 41 = .ok (.invokevirtual 359, 3) ∧ 44 = 41 + 3 := by decide +kernel
theorem d_X11_few_44 : decode cX11_few 44 = .ok (.aload_n 0, 1) ∧ 45 = 44 + 1 := by decide +kernel
theorem d_X11_few_45 : decode cX11_few 45 = .ok (.iload_n 2, 1) ∧ 46 = 45 + 1 := by decide +kernel
theorem d_X11_few_46 : decode cX11_few 46 = .ok (.aload_n 0, 1) ∧ 47 = 46 + 1 := by decide +kernel
theorem d_X11_few_47 : decode cX11_few 47 = .ok (.invokevirtual 131, 3) ∧ 50 = 47 + 3 := by decide +kernel
theorem d_X11_few_50 : decode cX11_few 50 = .ok (.invokevirtual 362, 3) ∧ 53 = 50 + 3 := by decide +kernel
theorem d_X11_few_53 : decode cX11_few 53 = .ok (.iconst (-1), 1) ∧ 54 = 53 + 1 := by decide +kernel
theorem d_X11_few_54 : decode cX11_few 54 = .ok (.if_icmp .ne 5, 3) ∧ 57 = 54 + 3 ∧ (54 : Int) + 5 = ((59 : Nat) : Int) := by decide +kernel
theorem d_X11_few_57 : decode cX11_few 57 = .ok (.iconst (-1), 1) ∧ 58 = 57 + 1 := by decide +kernel
theorem d_X11_few_58 : decode cX11_few 58 = .ok (.ireturn, 1) := by decide +kernel
theorem d_X11_few_59 : decode cX11_few 59 = .ok (.aload_n 0, 1) ∧ 60 = 59 + 1 := by decide +kernel
theorem d_X11_few_60 : decode cX11_few 60 = .ok (.iload_n 2, 1) ∧ 61 = 60 + 1 := by decide +kernel
theorem d_X11_few_61 : decode cX11_few 61 = .ok (.iload_n 3, 1) ∧ 62 = 61 + 1 := by decide +kernel
theorem d_X11_few_62 : decode cX11_few 62 = .ok (.iconst (-1), 1) ∧ 63 = 62 + 1 := by decide +kernel
theorem d_X11_few_63 : decode cX11_few 63 = .ok (.iconst (-1), 1) ∧ 64 = 63 + 1 := by decide +kernel
theorem d_X11_few_64 : decode cX11_few 64 = .ok (.invokevirtual 368, 3) ∧ 67 = 64 + 3 := by decide +kernel
theorem d_X11_few_67 : decode cX11_few 67 = .ok (.ifCond .ne 14, 3) ∧ 70 = 67 + 3 ∧ (67 : Int) + 14 = ((81 : Nat) : Int) := by decide +kernel
theorem d_X11_few_70 : decode cX11_few 70 = .ok (.iload 4, 2) ∧ 72 = 70 + 2 := by decide +kernel
theorem d_X11_few_72 : decode cX11_few 72 = .ok (.ifCond .ne 7, 3) ∧ 75 = 72 + 3 ∧ (72 : Int) + 7 = ((79 : Nat) : Int) := by decide +kernel
theorem d_X11_few_75 : decode cX11_few 75 = .ok (.iconst 0, 1) ∧ 76 = 75 + 1 := by decide +kernel
theorem d_X11_few_76 : decode cX11_few 76 = .ok (.goto 4, 3) ∧ (76 : Int) + (4) = ((80 : Nat) : Int) := by decide +kernel
theorem d_X11_few_79 : decode cX11_few 79 = .ok (.iconst (-1), 1) ∧ 80 = 79 + 1 := by decide +kernel
theorem d_X11_few_80 : decode cX11_few 80 = .ok (.ireturn, 1) := by decide +kernel
theorem d_X11_few_81 : decode cX11_few 81 = .ok (.iconst 0, 1) ∧ 82 = 81 + 1 := by decide +kernel
theorem d_X11_few_82 : decode cX11_few 82 = .ok (.istore 5, 2) ∧ 84 = 82 + 2 := by decide +kernel
theorem d_X11_few_84 : decode cX11_few 84 = .ok (.iload 5, 2) ∧ 86 = 84 + 2 := by decide +kernel
theorem d_X11_few_86 : decode cX11_few 86 = .ok (.aload_n 0, 1) ∧ 87 = 86 + 1 := by decide +kernel
theorem d_X11_few_87 : decode cX11_few 87 = .ok (.getfield 7, 3) ∧ 90 = 87 + 3 := by decide +kernel
theorem d_X11_few_90 : decode cX11_few 90 = .ok (.iconst 0, 1) ∧ 91 = 90 + 1 := by decide +kernel
theorem d_X11_few_91 : decode cX11_few 91 = .ok (.iaload, 1) ∧ 92 = 91 + 1 := by decide +kernel
theorem d_X11_few_92 : decode cX11_few 92 = .ok (.if_icmp .ge 43, 3) ∧ 95 = 92 + 3 ∧ (92 : Int) + 43 = ((135 : Nat) : Int) := by decide +kernel
theorem d_X11_few_95 : decode cX11_few 95 = .ok (.aload_n 0, 1) ∧ 96 = 95 + 1 := by decide +kernel
theorem d_X11_few_96 : decode cX11_few 96 = .ok (.iload_n 2, 1) ∧ 97 = 96 + 1 := by decide +kernel
theorem d_X11_few_97 : decode cX11_few 97 = .ok (.iload_n 3, 1) ∧ 98 = 97 + 1 := by decide +kernel
theorem d_X11_few_98 : decode cX11_few 98 = .ok (.iload 5, 2) ∧ 100 = 98 + 2 := by decide +kernel
theorem d_X11_few_100 : decode cX11_few 100 = .ok (.iconst (-1), 1) ∧ 101 = 100 + 1 := by decide +kernel
theorem d_X11_few_101 : decode cX11_few 101 = .ok (.invokevirtual 368, 3) ∧ 104 = 101 + 3 := by decide +kernel
theorem d_X11_few_104 : decode cX11_few 104 = .ok (.ifCond .ne 25, 3) ∧ 107 = 104 + 3 ∧ (104 : Int) + 25 = ((129 : Nat) : Int) := by decide +kernel
theorem d_X11_few_107 : decode cX11_few 107 = .ok (.iload 4, 2) ∧ 109 = 107 + 2 := by decide +kernel
theorem d_X11_few_109 : decode cX11_few 109 = .ok (.ifCond .ne 7, 3) ∧ 112 = 109 + 3 ∧ (109 : Int) + 7 = ((116 : Nat) : Int) := by decide +kernel
theorem d_X11_few_112 : decode cX11_few 112 = .ok (.iconst 1, 1) ∧ 113 = 112 + 1 := by decide +kernel
theorem d_X11_few_113 : decode cX11_few 113 = .ok (.goto 15, 3) ∧ (113 : Int) + (15) = ((128 : Nat) : Int) := by decide +kernel
theorem d_X11_few_116 : decode cX11_few 116 = .ok (.iload 4, 2) ∧ 118 = 116 + 2 := by decide +kernel
theorem d_X11_few_118 : decode cX11_few 118 = .ok (.iconst 1, 1) ∧ 119 = 118 + 1 := by decide +kernel
theorem d_X11_few_119 : decode cX11_few 119 = .ok (.if_icmp .ne 8, 3) ∧ 122 = 119 + 3 ∧ (119 : Int) + 8 = ((127 : Nat) : Int) := by decide +kernel
theorem d_X11_few_122 : decode cX11_few 122 = .ok (.iload 5, 2) ∧ 124 = 122 + 2 := by decide +kernel
theorem d_X11_few_124 : decode cX11_few 124 = .ok (.goto 4, 3) ∧ (124 : Int) + (4) = ((128 : Nat) : Int) := by decide +kernel
theorem d_X11_few_127 : decode cX11_few 127 = .ok (.iconst (-1), 1) ∧ 128 = 127 + 1 := by decide +kernel
theorem d_X11_few_128 : decode cX11_few 128 = .ok (.ireturn, 1) := by decide +kernel
theorem d_X11_few_129 : decode cX11_few 129 = .ok (.iinc 5 1, 3) ∧ 132 = 129 + 3 := by decide +kernel
theorem d_X11_few_132 : decode cX11_few 132 = .ok (.goto (-48), 3) ∧ (132 : Int) + ((-48)) = ((84 : Nat) : Int) := by decide +kernel
theorem d_X11_few_135 : decode cX11_few 135 = .ok (.iconst 0, 1) ∧ 136 = 135 + 1 := by decide +kernel
theorem d_X11_few_136 : decode cX11_few 136 = .ok (.istore 5, 2) ∧ 138 = 136 + 2 := by decide +kernel
theorem d_X11_few_138 : decode cX11_few 138 = .ok (.iload 5, 2) ∧ 140 = 138 + 2 := by decide +kernel
theorem d_X11_few_140 : decode cX11_few 140 = .ok (.aload_n 0, 1) ∧ 141 = 140 + 1 := by decide +kernel
theorem d_X11_few_141 : decode cX11_few 141 = .ok (.getfield 7, 3) ∧ 144 = 141 + 3 := by decide +kernel
theorem d_X11_few_144 : decode cX11_few 144 = .ok (.iconst 0, 1) ∧ 145 = 144 + 1 := by decide +kernel
theorem d_X11_few_145 : decode cX11_few 145 = .ok (.iaload, 1) ∧ 146 = 145 + 1 := by decide +kernel
theorem d_X11_few_146 : decode cX11_few 146 = .ok (.if_icmp .ge 68, 3) ∧ 149 = 146 + 3 ∧ (146 : Int) + 68 = ((214 : Nat) : Int) := by decide +kernel
theorem d_X11_few_149 : decode cX11_few 149 = .ok (.iload 5, 2) ∧ 151 = 149 + 2 := by decide +kernel
theorem d_X11_few_151 : decode cX11_few 151 = .ok (.iconst 1, 1) ∧ 152 = 151 + 1 := by decide +kernel
theorem d_X11_few_152 : decode cX11_few 152 = .ok (.iadd, 1) ∧ 153 = 152 + 1 := by decide +kernel
theorem d_X11_few_153 : decode cX11_few 153 = .ok (.istore 6, 2) ∧ 155 = 153 + 2 := by decide +kernel
theorem d_X11_few_155 : decode cX11_few 155 = .ok (.iload 6, 2) ∧ 157 = 155 + 2 := by decide +kernel
theorem d_X11_few_157 : decode cX11_few 157 = .ok (.aload_n 0, 1) ∧ 158 = 157 + 1 := by decide +kernel
theorem d_X11_few_158 : decode cX11_few 158 = .ok (.getfield 7, 3) ∧ 161 = 158 + 3 := by decide +kernel
theorem d_X11_few_161 : decode cX11_few 161 = .ok (.iconst 0, 1) ∧ 162 = 161 + 1 := by decide +kernel
theorem d_X11_few_162 : decode cX11_few 162 = .ok (.iaload, 1) ∧ 163 = 162 + 1 := by decide +kernel
theorem d_X11_few_163 : decode cX11_few 163 = .ok (.if_icmp .ge 45, 3) ∧ 166 = 163 + 3 ∧ (163 : Int) + 45 = ((208 : Nat) : Int) := by decide +kernel
theorem d_X11_few_166 : decode cX11_few 166 = .ok (.aload_n 0, 1) ∧ 167 = 166 + 1 := by decide +kernel
theorem d_X11_few_167 : decode cX11_few 167 = .ok (.iload_n 2, 1) ∧ 168 = 167 + 1 := by decide +kernel
theorem d_X11_few_168 : decode cX11_few 168 = .ok (.iload_n 3, 1) ∧ 169 = 168 + 1 := by decide +kernel
theorem d_X11_few_169 : decode cX11_few 169 = .ok (.iload 5, 2) ∧ 171 = 169 + 2 := by decide +kernel
theorem d_X11_few_171 : decode cX11_few 171 = .ok (.iload 6, 2) ∧ 173 = 171 + 2 := by decide +kernel
theorem d_X11_few_173 : decode cX11_few 173 = .ok (.invokevirtual 368, 3) ∧ 176 = 173 + 3 := by decide +kernel
theorem d_X11_few_176 : decode cX11_few 176 = .ok (.ifCond .ne 26, 3) ∧ 179 = 176 + 3 ∧ (176 : Int) + 26 = ((202 : Nat) : Int) := by decide +kernel
theorem d_X11_few_179 : decode cX11_few 179 = .ok (.iload 4, 2) ∧ 181 = 179 + 2 := by decide +kernel
theorem d_X11_few_181 : decode cX11_few 181 = .ok (.ifCond .ne 7, 3) ∧ 184 = 181 + 3 ∧ (181 : Int) + 7 = ((188 : Nat) : Int) := by decide +kernel
theorem d_X11_few_184 : decode cX11_few 184 = .ok (.iconst 2, 1) ∧ 185 = 184 + 1 := by decide +kernel
theorem d_X11_few_185 : decode cX11_few 185 = .ok (.goto 16, 3) ∧ (185 : Int) + (16) = ((201 : Nat) : Int) := by decide +kernel
theorem d_X11_few_188 : decode cX11_few 188 = .ok (.iload 4, 2) ∧ 190 = 188 + 2 := by decide +kernel
theorem d_X11_few_190 : decode cX11_few 190 = .ok (.iconst 1, 1) ∧ 191 = 190 + 1 := by decide +kernel
theorem d_X11_few_191 : decode cX11_few 191 = .ok (.if_icmp .ne 8, 3) ∧ 194 = 191 + 3 ∧ (191 : Int) + 8 = ((199 : Nat) : Int) := by decide +kernel
theorem d_X11_few_194 : decode cX11_few 194 = .ok (.iload 5, 2) ∧ 196 = 194 + 2 := by decide +kernel
theorem d_X11_few_196 : decode cX11_few 196 = .ok (.goto 5, 3) ∧ (196 : Int) + (5) = ((201 : Nat) : Int) := by decide +kernel
theorem d_X11_few_199 : decode cX11_few 199 = .ok (.iload 6, 2) ∧ 201 = 199 + 2 := by decide +kernel
theorem d_X11_few_201 : decode cX11_few 201 = .ok (.ireturn, 1) := by decide +kernel
theorem d_X11_few_202 : decode cX11_few 202 = .ok (.iinc 6 1, 3) ∧ 205 = 202 + 3 := by decide +kernel
theorem d_X11_few_205 : decode cX11_few 205 = .ok (.goto (-50), 3) ∧ (205 : Int) + ((-50)) = ((155 : Nat) : Int) := by decide +kernel
theorem d_X11_few_208 : decode cX11_few 208 = .ok (.iinc 5 1, 3) ∧ 211 = 208 + 3 := by decide +kernel
theorem d_X11_few_211 : decode cX11_few 211 = .ok (.goto (-73), 3) ∧ (211 : Int) + ((-73)) = ((138 : Nat) : Int) := by decide +kernel
theorem d_X11_few_214 : decode cX11_few 214 = .ok (.iconst (-1), 1) ∧ 215 = 214 + 1 := by decide +kernel
theorem d_X11_few_215 : decode cX11_few 215 = .ok (.ireturn, 1) := by decide +kernel
theorem d_X11_changed_0 : decode cX11_changed 0 = .ok (.aload_n 0, 1) ∧ 1 = 0 + 1 := by decide +kernel
theorem d_X11_changed_1 : decode cX11_changed 1 = .ok (.iload_n 1, 1) ∧ 2 = 1 + 1 := by decide +kernel
theorem d_X11_changed_2 : decode cX11_changed 2 = .ok (.invokevirtual 356, 3) ∧ 5 = 2 + 3 := by decide +kernel
theorem d_X11_changed_5 : decode cX11_changed 5 = .ok (.ifCond .eq 11, 3) ∧ 8 = 5 + 3 ∧ (5 : Int) + 11 = ((16 : Nat) : Int) := by decide +kernel
theorem d_X11_changed_8 : decode cX11_changed 8 = .ok (.aload_n 0, 1) ∧ 9 = 8 + 1 := by decide +kernel
theorem d_X11_changed_9 : decode cX11_changed 9 = .ok (.iload_n 2, 1) ∧ 10 = 9 + 1 := by decide +kernel
theorem d_X11_changed_10 : decode cX11_changed 10 = .ok (.invokevirtual 109, 3) ∧ 13 = 10 + 3 := by decide +kernel
theorem d_X11_changed_13 : decode cX11_changed 13 = .ok (.ifCond .ne 5, 3) ∧ 16 = 13 + 3 ∧ (13 : Int) + 5 = ((18 : Nat) : Int) := by decide +kernel
theorem d_X11_changed_16 : decode cX11_changed 16 = .ok (.iconst (-1), 1) ∧ 17 = 16 + 1 := by decide +kernel
theorem d_X11_changed_17 : decode cX11_changed 17 = .ok (.ireturn, 1) := by decide +kernel
theorem d_X11_changed_18 : decode cX11_changed 18 = .ok (.aload_n 0, 1) ∧ 19 = 18 + 1 := by decide +kernel
theorem d_X11_changed_19 : decode cX11_changed 19 = .ok (.iload_n 1, 1) ∧ 20 = 19 + 1 := by decide +kernel
theorem d_X11_changed_20 : decode cX11_changed 20 = .ok (.invokevirtual 359, 3) ∧ 23 = 20 + 3 := by decide +kernel
theorem d_X11_changed_23 : decode cX11_changed 23 = .ok (.aload_n 0, 1) ∧ 24 = 23 + 1 := by decide +kernel
theorem d_X11_changed_24 : decode cX11_changed 24 = .ok (.invokevirtual 131, 3) ∧ 27 = 24 + 3 := by decide +kernel
theorem d_X11_changed_27 : decode cX11_changed 27 = .ok (.istore 4, 2) ∧ 29 = 27 + 2 := by decide +kernel
theorem d_X11_changed_29 : decode cX11_changed 29 = .ok (.iload 4, 2) ∧ 31 = 29 + 2 := by decide +kernel
theorem d_X11_changed_31 : decode cX11_changed 31 = .ok (.aload_n 0, 1) ∧ 32 = 31 + 1 := by decide +kernel
theorem d_X11_changed_32 : decode cX11_changed 32 = .ok (.invokevirtual 371, 3) ∧ 35 = 32 + 3 := by decide +kernel
theorem d_X11_changed_35 : decode cX11_changed 35 = .ok (.ixor, 1) ∧ 36 = 35 + 1 := by decide +kernel
theorem d_X11_changed_36 : decode cX11_changed 36 = .ok (.istore 5, 2) ∧ 38 = 36 + 2 := by decide +kernel
theorem d_X11_changed_38 : decode cX11_changed 38 = .ok (.iconst 0, 1) ∧ 39 = 38 + 1 := by decide +kernel
theorem d_X11_changed_39 : decode cX11_changed 39 = .ok (.istore 6, 2) ∧ 41 = 39 + 2 := by decide +kernel
theorem d_X11_changed_41 : decode cX11_changed 41 = .ok (.iconst 0, 1) ∧ 42 = 41 + 1 := by decide +kernel
theorem d_X11_changed_42 : decode cX11_changed 42 = .ok (.istore 7, 2) ∧ 44 = 42 + 2 := by decide +kernel
theorem d_X11_changed_44 : decode cX11_changed 44 = .ok (.iload 7, 2) ∧ 46 = 44 + 2 := by decide +kernel
theorem d_X11_changed_46 : decode cX11_changed 46 = .ok (.aload_n 0, 1) ∧ 47 = 46 + 1 := by decide +kernel
theorem d_X11_changed_47 : decode cX11_changed 47 = .ok (.getfield 7, 3) ∧ 50 = 47 + 3 := by decide +kernel
theorem d_X11_changed_50 : decode cX11_changed 50 = .ok (.iconst 0, 1) ∧ 51 = 50 + 1 := by decide +kernel
theorem d_X11_changed_51 : decode cX11_changed 51 = .ok (.iaload, 1) ∧ 52 = 51 + 1 := by decide +kernel
theorem d_X11_changed_52 : decode cX11_changed 52 = .ok (.if_icmp .ge 30, 3) ∧ 55 = 52 + 3 ∧ (52 : Int) + 30 = ((82 : Nat) : Int) := by decide +kernel
theorem d_X11_changed_55 : decode cX11_changed 55 = .ok (.iload 6, 2) ∧ 57 = 55 + 2 := by decide +kernel
theorem d_X11_changed_57 : decode cX11_changed 57 = .ok (.invokestatic 350, 3) ∧ 60 = 57 + 3 := by decide +kernel
theorem d_X11_changed_60 : decode cX11_changed 60 = .ok (.iconst 4, 1) ∧ 61 = 60 + 1 := by decide +kernel
theorem d_X11_changed_61 : decode cX11_changed 61 = .ok (.if_icmp .ge 21, 3) ∧ 64 = 61 + 3 ∧ (61 : Int) + 21 = ((82 : Nat) : Int) := by decide +kernel
theorem d_X11_changed_64 : decode cX11_changed 64 = .ok (.iload 6, 2) ∧ 66 = 64 + 2 := by decide +kernel
theorem d_X11_changed_66 : decode cX11_changed 66 = .ok (.iload 5, 2) ∧ 68 = 66 + 2 := by decide +kernel
theorem d_X11_changed_68 : decode cX11_changed 68 = .ok (.iconst 1, 1) ∧ 69 = 68 + 1 := by decide +kernel
theorem d_X11_changed_69 : decode cX11_changed 69 = .ok (.iload 7, 2) ∧ 71 = 69 + 2 := by decide +kernel
theorem d_X11_changed_71 : decode cX11_changed 71 = .ok (.ishl, 1) ∧ 72 = 71 + 1 := by decide +kernel
theorem d_X11_changed_72 : decode cX11_changed 72 = .ok (.iand, 1) ∧ 73 = 72 + 1 := by decide +kernel
theorem d_X11_changed_73 : decode cX11_changed 73 = .ok (.ior, 1) ∧ 74 = 73 + 1 := by decide +kernel
theorem d_X11_changed_74 : decode cX11_changed 74 = .ok (.istore 6, 2) ∧ 76 = 74 + 2 := by decide +kernel
theorem d_X11_changed_76 : decode cX11_changed 76 = .ok (.iinc 7 1, 3) ∧ 79 = 76 + 3 := by decide +kernel
theorem d_X11_changed_79 : decode cX11_changed 79 = .ok (.goto (-35), 3) ∧ (79 : Int) + ((-35)) = ((44 : Nat) : Int) := by decide +kernel
theorem d_X11_changed_82 : decode cX11_changed 82 = .ok (.iconst (-1), 1) ∧ 83 = 82 + 1 := by decide +kernel
theorem d_X11_changed_83 : decode cX11_changed 83 = .ok (.istore 7, 2) ∧ 85 = 83 + 2 := by decide +kernel
theorem d_X11_changed_85 : decode cX11_changed 85 = .ok (.iconst 0, 1) ∧ 86 = 85 + 1 := by decide +kernel
theorem d_X11_changed_86 : decode cX11_changed 86 = .ok (.istore 8, 2) ∧ 88 = 86 + 2 := by decide +kernel
theorem d_X11_changed_88 : decode cX11_changed 88 = .ok (.iload 8, 2) ∧ 90 = 88 + 2 := by decide +kernel
theorem d_X11_changed_90 : decode cX11_changed 90 = .ok (.iconst 1, 1) ∧ 91 = 90 + 1 := by decide +kernel
theorem d_X11_changed_91 : decode cX11_changed 91 = .ok (.aload_n 0, 1) ∧ 92 = 91 + 1 := by decide +kernel
theorem d_X11_changed_92 : decode cX11_changed 92 = .ok (.getfield 7, 3) ∧ 95 = 92 + 3 := by decide +kernel
theorem d_X11_changed_95 : decode cX11_changed 95 = .ok (.iconst 0, 1) ∧ 96 = 95 + 1 := by decide +kernel
theorem d_X11_changed_96 : decode cX11_changed 96 = .ok (.iaload, 1) ∧ 97 = 96 + 1 := by decide +kernel
theorem d_X11_changed_97 : decode cX11_changed 97 = .ok (.ishl, 1) ∧ 98 = 97 + 1 := by decide +kernel
theorem d_X11_changed_98 : decode cX11_changed 98 = .ok (.if_icmp .ge 76, 3) ∧ 101 = 98 + 3 ∧ (98 : Int) + 76 = ((174 : Nat) : Int) := by decide +kernel
theorem d_X11_changed_101 : decode cX11_changed 101 = .ok (.iload 8, 2) ∧ 103 = 101 + 2 := by decide +kernel
theorem d_X11_changed_103 : decode cX11_changed 103 = .ok (.iload 6, 2) ∧ 105 = 103 + 2 := by decide +kernel
theorem d_X11_changed_105 : decode cX11_changed 105 = .ok (.iconst (-1), 1) ∧ 106 = 105 + 1 := by decide +kernel
theorem d_X11_changed_106 : decode cX11_changed 106 = .ok (.ixor, 1) ∧ 107 = 106 + 1 := by decide +kernel
theorem d_X11_changed_107 : decode cX11_changed 107 = .ok (.iand, 1) ∧ 108 = 107 + 1 := by decide +kernel
theorem d_X11_changed_108 : decode cX11_changed 108 = .ok (.ifCond .ne 60, 3) ∧ 111 = 108 + 3 ∧ (108 : Int) + 60 = ((168 : Nat) : Int) := by decide +kernel
theorem d_X11_changed_111 : decode cX11_changed 111 = .ok (.aload_n 0, 1) ∧ 112 = 111 + 1 := by decide +kernel
theorem d_X11_changed_112 : decode cX11_changed 112 = .ok (.iload_n 2, 1) ∧ 113 = 112 + 1 := by decide +kernel
theorem d_X11_changed_113 : decode cX11_changed 113 = .ok (.iload 4, 2) ∧ 115 = 113 + 2 := by decide +kernel
theorem d_X11_changed_115 : decode cX11_changed 115 = .ok (.iload 8, 2) ∧ 117 = 115 + 2 := by decide +kernel
theorem d_X11_changed_117 : decode cX11_changed 117 = .ok (.ixor, 1) ∧ 118 = 117 + 1 := by decide +kernel
theorem d_X11_changed_118 : decode cX11_changed 118 = .ok (.invokevirtual 362, 3) ∧ 121 = 118 + 3 := by decide +kernel
theorem d_X11_changed_121 : decode cX11_changed 121 = .ok (.istore 9, 2) ∧ 123 = 121 + 2 := by decide +kernel
theorem d_X11_changed_123 : decode cX11_changed 123 = .ok (.iload 9, 2) ∧ 125 = 123 + 2 := by decide +kernel
theorem d_X11_changed_125 : decode cX11_changed 125 = .ok (.iconst (-1), 1) ∧ 126 = 125 + 1 := by decide +kernel
theorem d_X11_changed_126 : decode cX11_changed 126 = .ok (.if_icmp .ne 8, 3) ∧ 129 = 126 + 3 ∧ (126 : Int) + 8 = ((134 : Nat) : Int) := by decide +kernel
theorem d_X11_changed_129 : decode cX11_changed 129 = .ok (.iload 7, 2) ∧ 131 = 129 + 2 := by decide +kernel
theorem d_X11_changed_131 : decode cX11_changed 131 = .ok (.goto 35, 3) ∧ (131 : Int) + (35) = ((166 : Nat) : Int) := by decide +kernel
theorem d_X11_changed_134 : decode cX11_changed 134 = .ok (.iload 7, 2) ∧ 136 = 134 + 2 := by decide +kernel
theorem d_X11_changed_136 : decode cX11_changed 136 = .ok (.iconst (-1), 1) ∧ 137 = 136 + 1 := by decide +kernel
theorem d_X11_changed_137 : decode cX11_changed 137 = .ok (.if_icmp .ne 8, 3) ∧ 140 = 137 + 3 ∧ (137 : Int) + 8 = ((145 : Nat) : Int) := by decide +kernel
theorem d_X11_changed_140 : decode cX11_changed 140 = .ok (.iload 9, 2) ∧ 142 = 140 + 2 := by decide +kernel
theorem d_X11_changed_142 : decode cX11_changed 142 = .ok (.goto 24, 3) ∧ (142 : Int) + (24) = ((166 : Nat) : Int) := by decide +kernel
theorem d_X11_changed_145 : decode cX11_changed 145 = .ok (.iload_n 3, 1) ∧ 146 = 145 + 1 := by decide +kernel
theorem d_X11_changed_146 : decode cX11_changed 146 = .ok (.ifCond .eq 13, 3) ∧ 149 = 146 + 3 ∧ (146 : Int) + 13 = ((159 : Nat) : Int) := by decide +kernel
theorem d_X11_changed_149 : decode cX11_changed 149 = .ok (.iload 7, 2) ∧ 151 = 149 + 2 := by decide +kernel
theorem d_X11_changed_151 : decode cX11_changed 151 = .ok (.iload 9, 2) ∧ 153 = 151 + 2 := by decide +kernel
theorem d_X11_changed_153 : decode cX11_changed 153 = .ok (.invokestatic 374, 3) ∧ 156 = 153 + 3 := by decide +kernel
theorem d_X11_changed_156 : decode cX11_changed 156 = .ok (.goto 10, 3) ∧ (156 : Int) + (10) = ((166 : Nat) : Int) := by decide +kernel
theorem d_X11_changed_159 : decode cX11_changed 159 = .ok (.iload 7, 2) ∧ 161 = 159 + 2 := by decide +kernel
theorem d_X11_changed_161 : decode cX11_changed 161 = .ok (.iload 9, 2) ∧ 163 = 161 + 2 := by decide +kernel
theorem d_X11_changed_163 : decode cX11_changed 163 = .ok (.invokestatic 377, 3) ∧ 166 = 163 + 3 := by decide +kernel
theorem d_X11_changed_166 : decode cX11_changed 166 = .ok (.istore 7, 2) ∧ 168 = 166 + 2 := by decide +kernel
theorem d_X11_changed_168 : decode cX11_changed 168 = .ok (.iinc 8 1, 3) ∧ 171 = 168 + 3 := by decide +kernel
theorem d_X11_changed_171 : decode cX11_changed 171 = .ok (.goto (-83), 3) ∧ (171 : Int) + ((-83)) = ((88 : Nat) : Int) := by decide +kernel
theorem d_X11_changed_174 : decode cX11_changed 174 = .ok (.iload 7, 2) ∧ 176 = 174 + 2 := by decide +kernel
theorem d_X11_changed_176 : decode cX11_changed 176 = .ok (.ireturn, 1) := by decide +kernel
theorem d_X11_lost_0 : decode cX11_lost 0 = .ok (.aload_n 0, 1) ∧ 1 = 0 + 1 := by decide +kernel
theorem d_X11_lost_1 : decode cX11_lost 1 = .ok (.invokevirtual 131, 3) ∧ 4 = 1 + 3 := by decide +kernel
theorem d_X11_lost_4 : decode cX11_lost 4 = .ok (.istore_n 3, 1) ∧ 5 = 4 + 1 := by decide +kernel
theorem d_X11_lost_5 : decode cX11_lost 5 = .ok (.iload_n 3, 1) ∧ 6 = 5 + 1 := by decide +kernel
theorem d_X11_lost_6 : decode cX11_lost 6 = .ok (.invokestatic 350, 3) ∧ 9 = 6 + 3 := by decide +kernel
theorem d_X11_lost_9 : decode cX11_lost 9 = .ok (.istore 4, 2) ∧ 11 = 9 + 2 := by decide +kernel
theorem d_X11_lost_11 : decode cX11_lost 11 = .ok (.aload_n 0, 1) ∧ 12 = 11 + 1 := by decide +kernel
theorem d_X11_lost_12 : decode cX11_lost 12 = .ok (.iload_n 1, 1) ∧ 13 = 12 + 1 := by decide +kernel
theorem d_X11_lost_13 : decode cX11_lost 13 = .ok (.invokevirtual 109, 3) ∧ 16 = 13 + 3 := by decide +kernel
theorem d_X11_lost_16 : decode cX11_lost 16 = .ok (.ifCond .eq 19, 3) ∧ 19 = 16 + 3 ∧ (16 : Int) + 19 = ((35 : Nat) : Int) := by decide +kernel
theorem d_X11_lost_19 : decode cX11_lost 19 = .ok (.iload 4, 2) ∧ 21 = 19 + 2 := by decide +kernel
theorem d_X11_lost_21 : decode cX11_lost 21 = .ok (.ifCond .eq 14, 3) ∧ 24 = 21 + 3 ∧ (21 : Int) + 14 = ((35 : Nat) : Int) := by decide +kernel
theorem d_X11_lost_24 : decode cX11_lost 24 = .ok (.iload 4, 2) ∧ 26 = 24 + 2 := by decide +kernel
theorem d_X11_lost_26 : decode cX11_lost 26 = .ok (.aload_n 0, 1) ∧ 27 = 26 + 1 := by decide +kernel
theorem d_X11_lost_27 : decode cX11_lost 27 = .ok (.getfield 7, 3) ∧ 30 = 27 + 3 := by decide +kernel
theorem d_X11_lost_30 : decode cX11_lost 30 = .ok (.iconst 0, 1) ∧ 31 = 30 + 1 := by decide +kernel
theorem d_X11_lost_31 : decode cX11_lost 31 = .ok (.iaload, 1) ∧ 32 = 31 + 1 := by decide +kernel
theorem d_X11_lost_32 : decode cX11_lost 32 = .ok (.if_icmp .ne 6, 3) ∧ 35 = 32 + 3 ∧ (32 : Int) + 6 = ((38 : Nat) : Int) := by decide +kernel
theorem d_X11_lost_35 : decode cX11_lost 35 = .ok (.ldc 138, 2) ∧ 37 = 35 + 2 := by decide +kernel
theorem d_X11_lost_37 : decode cX11_lost 37 = .ok (.ireturn, 1) := by decide +kernel
theorem d_X11_lost_38 : decode cX11_lost 38 = .ok (.iload_n 2, 1) ∧ 39 = 38 + 1 := by decide +kernel
theorem d_X11_lost_39 : decode cX11_lost 39 = .ok (.aload_n 0, 1) ∧ 40 = 39 + 1 := by decide +kernel
theorem d_X11_lost_40 : decode cX11_lost 40 = .ok (.iload_n 1, 1) ∧ 41 = 40 + 1 := by decide +kernel
theorem d_X11_lost_41 : decode cX11_lost 41 = .ok (.iconst 2, 1) ∧ 42 = 41 + 1 := by decide +kernel
theorem d_X11_lost_42 : decode cX11_lost 42 = .ok (.invokevirtual 123, 3) ∧ 45 = 42 + 3 := by decide +kernel
theorem d_X11_lost_45 : decode cX11_lost 45 = .ok (.ifCond .ne 7, 3) ∧ 48 = 45 + 3 ∧ (45 : Int) + 7 = ((52 : Nat) : Int) := by decide +kernel
theorem d_X11_lost_48 : decode cX11_lost 48 = .ok (.iconst 1, 1) ∧ 49 = 48 + 1 := by decide +kernel
theorem d_X11_lost_49 : decode cX11_lost 49 = .ok (.goto 4, 3) ∧ (49 : Int) + (4) = ((53 : Nat) : Int) := by decide +kernel
theorem d_X11_lost_52 : decode cX11_lost 52 = .ok (.iconst 0, 1) ∧ 53 = 52 + 1 := by decide +kernel
theorem d_X11_lost_53 : decode cX11_lost 53 = .ok (.if_icmp .ne 7, 3) ∧ 56 = 53 + 3 ∧ (53 : Int) + 7 = ((60 : Nat) : Int) := by decide +kernel
theorem d_X11_lost_56 : decode cX11_lost 56 = .ok (.iconst 1, 1) ∧ 57 = 56 + 1 := by decide +kernel
theorem d_X11_lost_57 : decode cX11_lost 57 = .ok (.goto 4, 3) ∧ (57 : Int) + (4) = ((61 : Nat) : Int) := by decide +kernel
theorem d_X11_lost_60 : decode cX11_lost 60 = .ok (.iconst 0, 1) ∧ 61 = 60 + 1 := by decide +kernel
theorem d_X11_lost_61 : decode cX11_lost 61 = .ok (.istore 5, 2) ∧ 63 = 61 + 2 := by decide +kernel
theorem d_X11_lost_63 : decode cX11_lost 63 = .ok (.iconst 0, 1) ∧ 64 = 63 + 1 := by decide +kernel
theorem d_X11_lost_64 : decode cX11_lost 64 = .ok (.istore 6, 2) ∧ 66 = 64 + 2 := by decide +kernel
theorem d_X11_lost_66 : decode cX11_lost 66 = .ok (.iconst 0, 1) ∧ 67 = 66 + 1 := by decide +kernel
theorem d_X11_lost_67 : decode cX11_lost 67 = .ok (.istore 7, 2) ∧ 69 = 67 + 2 := by decide +kernel
theorem d_X11_lost_69 : decode cX11_lost 69 = .ok (.iconst 0, 1) ∧ 70 = 69 + 1 := by decide +kernel
theorem d_X11_lost_70 : decode cX11_lost 70 = .ok (.istore 8, 2) ∧ 72 = 70 + 2 := by decide +kernel
theorem d_X11_lost_72 : decode cX11_lost 72 = .ok (.iload 8, 2) ∧ 74 = 72 + 2 := by decide +kernel
theorem d_X11_lost_74 : decode cX11_lost 74 = .ok (.aload_n 0, 1) ∧ 75 = 74 + 1 := by decide +kernel
theorem d_X11_lost_75 : decode cX11_lost 75 = .ok (.getfield 7, 3) ∧ 78 = 75 + 3 := by decide +kernel
theorem d_X11_lost_78 : decode cX11_lost 78 = .ok (.iconst 0, 1) ∧ 79 = 78 + 1 := by decide +kernel
theorem d_X11_lost_79 : decode cX11_lost 79 = .ok (.iaload, 1) ∧ 80 = 79 + 1 := by decide +kernel
theorem d_X11_lost_80 : decode cX11_lost 80 = .ok (.if_icmp .ge 85, 3) ∧ 83 = 80 + 3 ∧ (80 : Int) + 85 = ((165 : Nat) : Int) := by decide +kernel
theorem d_X11_lost_83 : decode cX11_lost 83 = .ok (.aload_n 0, 1) ∧ 84 = 83 + 1 := by decide +kernel
theorem d_X11_lost_84 : decode cX11_lost 84 = .ok (.iload_n 1, 1) ∧ 85 = 84 + 1 := by decide +kernel
theorem d_X11_lost_85 : decode cX11_lost 85 = .ok (.iload 8, 2) ∧ 87 = 85 + 2 := by decide +kernel
theorem d_X11_lost_87 : decode cX11_lost 87 = .ok (.invokevirtual 112, 3) ∧ 90 = 87 + 3 := by decide +kernel
theorem d_X11_lost_90 : decode cX11_lost 90 = .ok (.istore 9, 2) ∧ 92 = 90 + 2 := by decide +kernel
theorem d_X11_lost_92 : decode cX11_lost 92 = .ok (.iload_n 3, 1) ∧ 93 = 92 + 1 := by decide +kernel
theorem d_X11_lost_93 : decode cX11_lost 93 = .ok (.iload 8, 2) ∧ 95 = 93 + 2 := by decide +kernel
theorem d_X11_lost_95 : decode cX11_lost 95 = .ok (.ishr, 1) ∧ 96 = 95 + 1 := by decide +kernel
theorem d_X11_lost_96 : decode cX11_lost 96 = .ok (.iconst 1, 1) ∧ 97 = 96 + 1 := by decide +kernel
theorem d_X11_lost_97 : decode cX11_lost 97 = .ok (.iand, 1) ∧ 98 = 97 + 1 := by decide +kernel
theorem d_X11_lost_98 : decode cX11_lost 98 = .ok (.iconst 1, 1) ∧ 99 = 98 + 1 := by decide +kernel
theorem d_X11_lost_99 : decode cX11_lost 99 = .ok (.if_icmp .ne 33, 3) ∧ 102 = 99 + 3 ∧ (99 : Int) + 33 = ((132 : Nat) : Int) := by decide +kernel
theorem d_X11_lost_102 : decode cX11_lost 102 = .ok (.iload 6, 2) ∧ 104 = 102 + 2 := by decide +kernel
theorem d_X11_lost_104 : decode cX11_lost 104 = .ok (.iload 9, 2) ∧ 106 = 104 + 2 := by decide +kernel
theorem d_X11_lost_106 : decode cX11_lost 106 = .ok (.iconst (-1), 1) ∧ 107 = 106 + 1 := by decide +kernel
theorem d_X11_lost_107 : decode cX11_lost 107 = .ok (.if_icmp .eq 8, 3) ∧ 110 = 107 + 3 ∧ (107 : Int) + 8 = ((115 : Nat) : Int) := by decide +kernel
theorem d_X11_lost_110 : decode cX11_lost 110 = .ok (.iload 9, 2) ∧ 112 = 110 + 2 := by decide +kernel
theorem d_X11_lost_112 : decode cX11_lost 112 = .ok (.goto 14, 3) ∧ (112 : Int) + (14) = ((126 : Nat) : Int) := by decide +kernel
theorem d_X11_lost_115 : decode cX11_lost 115 = .ok (.iload 5, 2) ∧ 117 = 115 + 2 := by decide +kernel
theorem d_X11_lost_117 : decode cX11_lost 117 = .ok (.ifCond .eq 8, 3) ∧ 120 = 117 + 3 ∧ (117 : Int) + 8 = ((125 : Nat) : Int) := by decide +kernel
theorem d_X11_lost_120 : decode cX11_lost 120 = .ok (.bipush 99, 2) ∧ 122 = 120 + 2 := by decide +kernel
theorem d_X11_lost_122 : decode cX11_lost 122 = .ok (.goto 4, 3) ∧ (122 : Int) + (4) = ((126 : Nat) : Int) := by decide +kernel
theorem d_X11_lost_125 : decode cX11_lost 125 = .ok (.iconst 0, 1) ∧ 126 = 125 + 1 := by decide +kernel
theorem d_X11_lost_126 : decode cX11_lost 126 = .ok (.iadd, 1) ∧ 127 = 126 + 1 := by decide +kernel
theorem d_X11_lost_127 : decode cX11_lost 127 = .ok (.istore 6, 2) ∧ 129 = 127 + 2 := by decide +kernel
theorem d_X11_lost_129 : decode cX11_lost 129 = .ok (.goto 30, 3) ∧ (129 : Int) + (30) = ((159 : Nat) : Int) := by decide +kernel
theorem d_X11_lost_132 : decode cX11_lost 132 = .ok (.iload 7, 2) ∧ 134 = 132 + 2 := by decide +kernel
theorem d_X11_lost_134 : decode cX11_lost 134 = .ok (.iload 9, 2) ∧ 136 = 134 + 2 := by decide +kernel
theorem d_X11_lost_136 : decode cX11_lost 136 = .ok (.iconst (-1), 1) ∧ 137 = 136 + 1 := by decide +kernel
theorem d_X11_lost_137 : decode cX11_lost 137 = .ok (.if_icmp .eq 8, 3) ∧ 140 = 137 + 3 ∧ (137 : Int) + 8 = ((145 : Nat) : Int) := by decide +kernel
theorem d_X11_lost_140 : decode cX11_lost 140 = .ok (.iload 9, 2) ∧ 142 = 140 + 2 := by decide +kernel
theorem d_X11_lost_142 : decode cX11_lost 142 = .ok (.goto 14, 3) ∧ (142 : Int) + (14) = ((156 : Nat) : Int) := by decide +kernel
theorem d_X11_lost_145 : decode cX11_lost 145 = .ok (.iload 5, 2) ∧ 147 = 145 + 2 := by decide +kernel
theorem d_X11_lost_147 : decode cX11_lost 147 = .ok (.ifCond .eq 7, 3) ∧ 150 = 147 + 3 ∧ (147 : Int) + 7 = ((154 : Nat) : Int) := by decide +kernel
theorem d_X11_lost_150 : decode cX11_lost 150 = .ok (.iconst 0, 1) ∧ 151 = 150 + 1 := by decide +kernel
theorem d_X11_lost_151 : decode cX11_lost 151 = .ok (.goto 5, 3) ∧ (151 : Int) + (5) = ((156 : Nat) : Int) := by decide +kernel
theorem d_X11_lost_154 : decode cX11_lost 154 = .ok (.bipush 99, 2) ∧ 156 = 154 + 2 := by decide +kernel
theorem d_X11_lost_156 : decode cX11_lost 156 = .ok (.iadd, 1) ∧ 157 = 156 + 1 := by decide +kernel
theorem d_X11_lost_157 : decode cX11_lost 157 = .ok (.istore 7, 2) ∧ 159 = 157 + 2 := by decide +kernel
theorem d_X11_lost_159 : decode cX11_lost 159 = .ok (.iinc 8 1, 3) ∧ 162 = 159 + 3 := by decide +kernel
theorem d_X11_lost_162 : decode cX11_lost 162 = .ok (.goto (-90), 3) ∧ (162 : Int) + ((-90)) = ((72 : Nat) : Int) := by decide +kernel
theorem d_X11_lost_165 : decode cX11_lost 165 = .ok (.aload_n 0, 1) ∧ 166 = 165 + 1 := by decide +kernel
theorem d_X11_lost_166 : decode cX11_lost 166 = .ok (.getfield 7, 3) ∧ 169 = 166 + 3 := by decide +kernel
theorem d_X11_lost_169 : decode cX11_lost 169 = .ok (.iconst 0, 1) ∧ 170 = 169 + 1 := by decide +kernel
theorem d_X11_lost_170 : decode cX11_lost 170 = .ok (.iaload, 1) ∧ 171 = 170 + 1 := by decide +kernel
theorem d_X11_lost_171 : decode cX11_lost 171 = .ok (.iload 4, 2) ∧ 173 = 171 + 2 := by decide +kernel
theorem d_X11_lost_173 : decode cX11_lost 173 = .ok (.isub, 1) ∧ 174 = 173 + 1 := by decide +kernel
theorem d_X11_lost_174 : decode cX11_lost 174 = .ok (.istore 8, 2) ∧ 176 = 174 + 2 := by decide +kernel
theorem d_X11_lost_176 : decode cX11_lost 176 = .ok (.aload_n 0, 1) ∧ 177 = 176 + 1 := by decide +kernel
theorem d_X11_lost_177 : decode cX11_lost 177 = .ok (.iload 6, 2) ∧ 179 = 177 + 2 := by decide +kernel
theorem d_X11_lost_179 : decode cX11_lost 179 = .ok (.iload 8, 2) ∧ 181 = 179 + 2 := by decide +kernel
theorem d_X11_lost_181 : decode cX11_lost 181 = .ok (.imul, 1) ∧ 182 = 181 + 1 := by decide +kernel
theorem d_X11_lost_182 : decode cX11_lost 182 = .ok (.iload 7, 2) ∧ 184 = 182 + 2 := by decide +kernel
theorem d_X11_lost_184 : decode cX11_lost 184 = .ok (.iload 4, 2) ∧ 186 = 184 + 2 := by decide +kernel
theorem d_X11_lost_186 : decode cX11_lost 186 = .ok (.imul, 1) ∧ 187 = 186 + 1 := by decide +kernel
theorem d_X11_lost_187 : decode cX11_lost 187 = .ok (.isub, 1) ∧ 188 = 187 + 1 := by decide +kernel
theorem d_X11_lost_188 : decode cX11_lost 188 = .ok (.i2l, 1) ∧ 189 = 188 + 1 := by decide +kernel
theorem d_X11_lost_189 : decode cX11_lost 189 = .ok (.putfield 119, 3) ∧ 192 = 189 + 3 := by decide +kernel
theorem d_X11_lost_192 : decode cX11_lost 192 = .ok (.aload_n 0, 1) ∧ 193 = 192 + 1 := by decide +kernel
theorem d_X11_lost_193 : decode cX11_lost 193 = .ok (.iload_n 1, 1) ∧ 194 = 193 + 1 := by decide +kernel
theorem d_X11_lost_194 : decode cX11_lost 194 = .ok (.iconst 2, 1) ∧ 195 = 194 + 1 := by decide +kernel
theorem d_X11_lost_195 : decode cX11_lost 195 = .ok (.invokevirtual 123, 3) ∧ 198 = 195 + 3 := by decide +kernel
theorem d_X11_lost_198 : decode cX11_lost 198 = .ok (.iconst 1, 1) ∧ 199 = 198 + 1 := by decide +kernel
theorem d_X11_lost_199 : decode cX11_lost 199 = .ok (.if_icmp .ne 12, 3) ∧ 202 = 199 + 3 ∧ (199 : Int) + 12 = ((211 : Nat) : Int) := by decide +kernel
theorem d_X11_lost_202 : decode cX11_lost 202 = .ok (.aload_n 0, 1) ∧ 203 = 202 + 1 := by decide +kernel
theorem d_X11_lost_203 : decode cX11_lost 203 = .ok (.aload_n 0, 1) ∧ 204 = 203 + 1 := by decide +kernel
theorem d_X11_lost_204 : decode cX11_lost 204 = .ok (.getfield 119, 3) ∧ 207 = 204 + 3 := by decide +kernel
theorem d_X11_lost_207 : decode cX11_lost 207 = .ok (.lneg, 1) ∧ 208 = 207 + 1 := by decide +kernel
theorem d_X11_lost_208 : decode cX11_lost 208 = .ok (.putfield 119, 3) ∧ 211 = 208 + 3 := by decide +kernel
theorem d_X11_lost_211 : decode cX11_lost 211 = .ok (.aload_n 0, 1) ∧ 212 = 211 + 1 := by decide +kernel
theorem d_X11_lost_212 : decode cX11_lost 212 = .ok (.iload 4, 2) ∧ 214 = 212 + 2 := by decide +kernel
theorem d_X11_lost_214 : decode cX11_lost 214 = .ok (.iload 8, 2) ∧ 216 = 214 + 2 := by decide +kernel
theorem d_X11_lost_216 : decode cX11_lost 216 = .ok (.imul, 1) ∧ 217 = 216 + 1 := by decide +kernel
theorem d_X11_lost_217 : decode cX11_lost 217 = .ok (.i2l, 1) ∧ 218 = 217 + 1 := by decide +kernel
theorem d_X11_lost_218 : decode cX11_lost 218 = .ok (.putfield 126, 3) ∧ 221 = 218 + 3 := by decide +kernel
theorem d_X11_lost_221 : decode cX11_lost 221 = .ok (.aload_n 0, 1) ∧ 222 = 221 + 1 := by decide +kernel
theorem d_X11_lost_222 : decode cX11_lost 222 = .ok (.invokevirtual 139, 3) ∧ 225 = 222 + 3 := by decide +kernel
theorem d_X11_lost_225 : decode cX11_lost 225 = .ok (.ireturn, 1) := by decide +kernel
theorem d_X11_costs_0 : decode cX11_costs 0 = .ok (.iload_n 1, 1) ∧ 1 = 0 + 1 := by decide +kernel
theorem d_X11_costs_1 : decode cX11_costs 1 = .ok (.iconst 1, 1) ∧ 2 = 1 + 1 := by decide +kernel
theorem d_X11_costs_2 : decode cX11_costs 2 = .ok (.sipush 9999, 3) ∧ 5 = 2 + 3 := by decide +kernel
theorem d_X11_costs_5 : decode cX11_costs 5 = .ok (.invokestatic 101, 3) ∧ 8 = 5 + 3 := by decide +kernel
theorem d_X11_costs_8 : decode cX11_costs 8 = .ok (.ifCond .ne 5, 3) ∧ 11 = 8 + 3 ∧ (8 : Int) + 5 = ((13 : Nat) : Int) := by decide +kernel
theorem d_X11_costs_11 : decode cX11_costs 11 = .ok (.iconst 0, 1) ∧ 12 = 11 + 1 := by decide +kernel
theorem d_X11_costs_12 : decode cX11_costs 12 = .ok (.ireturn, 1) := by decide +kernel
theorem d_X11_costs_13 : decode cX11_costs 13 = .ok (.aload_n 0, 1) ∧ 14 = 13 + 1 := by decide +kernel
theorem d_X11_costs_14 : decode cX11_costs 14 = .ok (.getfield 7, 3) ∧ 17 = 14 + 3 := by decide +kernel
theorem d_X11_costs_17 : decode cX11_costs 17 = .ok (.iconst 5, 1) ∧ 18 = 17 + 1 := by decide +kernel
theorem d_X11_costs_18 : decode cX11_costs 18 = .ok (.iload_n 1, 1) ∧ 19 = 18 + 1 := by decide +kernel
theorem d_X11_costs_19 : decode cX11_costs 19 = .ok (.iastore, 1) ∧ 20 = 19 + 1 := by decide +kernel
theorem d_X11_costs_20 : decode cX11_costs 20 = .ok (.iconst 1, 1) ∧ 21 = 20 + 1 := by decide +kernel
theorem d_X11_costs_21 : decode cX11_costs 21 = .ok (.ireturn, 1) := by decide +kernel
theorem d_X11_back_0 : decode cX11_back 0 = .ok (.iload_n 1, 1) ∧ 1 = 0 + 1 := by decide +kernel
theorem d_X11_back_1 : decode cX11_back 1 = .ok (.ifCond .lt 24, 3) ∧ 4 = 1 + 3 ∧ (1 : Int) + 24 = ((25 : Nat) : Int) := by decide +kernel
theorem d_X11_back_4 : decode cX11_back 4 = .ok (.iload_n 1, 1) ∧ 5 = 4 + 1 := by decide +kernel
theorem d_X11_back_5 : decode cX11_back 5 = .ok (.iconst 1, 1) ∧ 6 = 5 + 1 := by decide +kernel
theorem d_X11_back_6 : decode cX11_back 6 = .ok (.aload_n 0, 1) ∧ 7 = 6 + 1 := by decide +kernel
theorem d_X11_back_7 : decode cX11_back 7 = .ok (.getfield 7, 3) ∧ 10 = 7 + 3 := by decide +kernel
theorem d_X11_back_10 : decode cX11_back 10 = .ok (.iconst 1, 1) ∧ 11 = 10 + 1 := by decide +kernel
theorem d_X11_back_11 : decode cX11_back 11 = .ok (.iaload, 1) ∧ 12 = 11 + 1 := by decide +kernel
theorem d_X11_back_12 : decode cX11_back 12 = .ok (.ishl, 1) ∧ 13 = 12 + 1 := by decide +kernel
theorem d_X11_back_13 : decode cX11_back 13 = .ok (.if_icmp .ge 12, 3) ∧ 16 = 13 + 3 ∧ (13 : Int) + 12 = ((25 : Nat) : Int) := by decide +kernel
theorem d_X11_back_16 : decode cX11_back 16 = .ok (.iload_n 2, 1) ∧ 17 = 16 + 1 := by decide +kernel
theorem d_X11_back_17 : decode cX11_back 17 = .ok (.iconst 0, 1) ∧ 18 = 17 + 1 := by decide +kernel
theorem d_X11_back_18 : decode cX11_back 18 = .ok (.iconst 1, 1) ∧ 19 = 18 + 1 := by decide +kernel
theorem d_X11_back_19 : decode cX11_back 19 = .ok (.invokestatic 101, 3) ∧ 22 = 19 + 3 := by decide +kernel
theorem d_X11_back_22 : decode cX11_back 22 = .ok (.ifCond .ne 6, 3) ∧ 25 = 22 + 3 ∧ (22 : Int) + 6 = ((28 : Nat) : Int) := by decide +kernel
theorem d_X11_back_25 : decode cX11_back 25 = .ok (.ldc 138, 2) ∧ 27 = 25 + 2 := by decide +kernel
theorem d_X11_back_27 : decode cX11_back 27 = .ok (.ireturn, 1) := by decide +kernel
theorem d_X11_back_28 : decode cX11_back 28 = .ok (.iconst (-1), 1) ∧ 29 = 28 + 1 := by decide +kernel
theorem d_X11_back_29 : decode cX11_back 29 = .ok (.istore_n 3, 1) ∧ 30 = 29 + 1 := by decide +kernel
theorem d_X11_back_30 : decode cX11_back 30 = .ok (.iconst 0, 1) ∧ 31 = 30 + 1 := by decide +kernel
theorem d_X11_back_31 : decode cX11_back 31 = .ok (.istore 4, 2) ∧ 33 = 31 + 2 := by decide +kernel
theorem d_X11_back_33 : decode cX11_back 33 = .ok (.iconst 0, 1) ∧ 34 = 33 + 1 := by decide +kernel
theorem d_X11_back_34 : decode cX11_back 34 = .ok (.istore 5, 2) ∧ 36 = 34 + 2 := by decide +kernel
theorem d_X11_back_36 : decode cX11_back 36 = .ok (.iconst 0, 1) ∧ 37 = 36 + 1 := by decide +kernel
theorem d_X11_back_37 : decode cX11_back 37 = .ok (.istore 6, 2) ∧ 39 = 37 + 2 := by decide +kernel
theorem d_X11_back_39 : decode cX11_back 39 = .ok (.iload 6, 2) ∧ 41 = 39 + 2 := by decide +kernel
theorem d_X11_back_41 : decode cX11_back 41 = .ok (.aload_n 0, 1) ∧ 42 = 41 + 1 := by decide +kernel
theorem d_X11_back_42 : decode cX11_back 42 = .ok (.getfield 7, 3) ∧ 45 = 42 + 3 := by decide +kernel
theorem d_X11_back_45 : decode cX11_back 45 = .ok (.iconst 1, 1) ∧ 46 = 45 + 1 := by decide +kernel
theorem d_X11_back_46 : decode cX11_back 46 = .ok (.iaload, 1) ∧ 47 = 46 + 1 := by decide +kernel
theorem d_X11_back_47 : decode cX11_back 47 = .ok (.if_icmp .ge 73, 3) ∧ 50 = 47 + 3 ∧ (47 : Int) + 73 = ((120 : Nat) : Int) := by decide +kernel
theorem d_X11_back_50 : decode cX11_back 50 = .ok (.iload_n 1, 1) ∧ 51 = 50 + 1 := by decide +kernel
theorem d_X11_back_51 : decode cX11_back 51 = .ok (.iload 6, 2) ∧ 53 = 51 + 2 := by decide +kernel
theorem d_X11_back_53 : decode cX11_back 53 = .ok (.ishr, 1) ∧ 54 = 53 + 1 := by decide +kernel
theorem d_X11_back_54 : decode cX11_back 54 = .ok (.iconst 1, 1) ∧ 55 = 54 + 1 := by decide +kernel
theorem d_X11_back_55 : decode cX11_back 55 = .ok (.iand, 1) ∧ 56 = 55 + 1 := by decide +kernel
theorem d_X11_back_56 : decode cX11_back 56 = .ok (.iconst 1, 1) ∧ 57 = 56 + 1 := by decide +kernel
theorem d_X11_back_57 : decode cX11_back 57 = .ok (.if_icmp .ne 57, 3) ∧ 60 = 57 + 3 ∧ (57 : Int) + 57 = ((114 : Nat) : Int) := by decide +kernel
theorem d_X11_back_60 : decode cX11_back 60 = .ok (.aload_n 0, 1) ∧ 61 = 60 + 1 := by decide +kernel
theorem d_X11_back_61 : decode cX11_back 61 = .ok (.iload 6, 2) ∧ 63 = 61 + 2 := by decide +kernel
theorem d_X11_back_63 : decode cX11_back 63 = .ok (.aload_n 0, 1) ∧ 64 = 63 + 1 := by decide +kernel
theorem d_X11_back_64 : decode cX11_back 64 = .ok (.invokevirtual 131, 3) ∧ 67 = 64 + 3 := by decide +kernel
theorem d_X11_back_67 : decode cX11_back 67 = .ok (.iconst 2, 1) ∧ 68 = 67 + 1 := by decide +kernel
theorem d_X11_back_68 : decode cX11_back 68 = .ok (.invokevirtual 135, 3) ∧ 71 = 68 + 3 := by decide +kernel
theorem d_X11_back_71 : decode cX11_back 71 = .ok (.ifCond .eq 43, 3) ∧ 74 = 71 + 3 ∧ (71 : Int) + 43 = ((114 : Nat) : Int) := by decide +kernel
theorem d_X11_back_74 : decode cX11_back 74 = .ok (.aload_n 0, 1) ∧ 75 = 74 + 1 := by decide +kernel
theorem d_X11_back_75 : decode cX11_back 75 = .ok (.iload 6, 2) ∧ 77 = 75 + 2 := by decide +kernel
theorem d_X11_back_77 : decode cX11_back 77 = .ok (.iconst 3, 1) ∧ 78 = 77 + 1 := by decide +kernel
theorem d_X11_back_78 : decode cX11_back 78 = .ok (.invokevirtual 123, 3) ∧ 81 = 78 + 3 := by decide +kernel
theorem d_X11_back_81 : decode cX11_back 81 = .ok (.aload_n 0, 1) ∧ 82 = 81 + 1 := by decide +kernel
theorem d_X11_back_82 : decode cX11_back 82 = .ok (.invokevirtual 139, 3) ∧ 85 = 82 + 3 := by decide +kernel
theorem d_X11_back_85 : decode cX11_back 85 = .ok (.imul, 1) ∧ 86 = 85 + 1 := by decide +kernel
theorem d_X11_back_86 : decode cX11_back 86 = .ok (.istore 7, 2) ∧ 88 = 86 + 2 := by decide +kernel
theorem d_X11_back_88 : decode cX11_back 88 = .ok (.iload 5, 2) ∧ 90 = 88 + 2 := by decide +kernel
theorem d_X11_back_90 : decode cX11_back 90 = .ok (.iload 7, 2) ∧ 92 = 90 + 2 := by decide +kernel
theorem d_X11_back_92 : decode cX11_back 92 = .ok (.iadd, 1) ∧ 93 = 92 + 1 := by decide +kernel
theorem d_X11_back_93 : decode cX11_back 93 = .ok (.istore 5, 2) ∧ 95 = 93 + 2 := by decide +kernel
theorem d_X11_back_95 : decode cX11_back 95 = .ok (.iload_n 3, 1) ∧ 96 = 95 + 1 := by decide +kernel
theorem d_X11_back_96 : decode cX11_back 96 = .ok (.iconst (-1), 1) ∧ 97 = 96 + 1 := by decide +kernel
theorem d_X11_back_97 : decode cX11_back 97 = .ok (.if_icmp .eq 10, 3) ∧ 100 = 97 + 3 ∧ (97 : Int) + 10 = ((107 : Nat) : Int) := by decide +kernel
theorem d_X11_back_100 : decode cX11_back 100 = .ok (.iload 7, 2) ∧ 102 = 100 + 2 := by decide +kernel
theorem d_X11_back_102 : decode cX11_back 102 = .ok (.iload 4, 2) ∧ 104 = 102 + 2 := by decide +kernel
theorem d_X11_back_104 : decode cX11_back 104 = .ok (.if_icmp .le 10, 3) ∧ 107 = 104 + 3 ∧ (104 : Int) + 10 = ((114 : Nat) : Int) := by decide +kernel
theorem d_X11_back_107 : decode cX11_back 107 = .ok (.iload 7, 2) ∧ 109 = 107 + 2 := by decide +kernel
theorem d_X11_back_109 : decode cX11_back 109 = .ok (.istore 4, 2) ∧ 111 = 109 + 2 := by decide +kernel
theorem d_X11_back_111 : decode cX11_back 111 = .ok (.iload 6, 2) ∧ 113 = 111 + 2 := by decide +kernel
theorem d_X11_back_113 : decode cX11_back 113 = .ok (.istore_n 3, 1) ∧ 114 = 113 + 1 := by decide +kernel
theorem d_X11_back_114 : decode cX11_back 114 = .ok (.iinc 6 1, 3) ∧ 117 = 114 + 3 := by decide +kernel
theorem d_X11_back_117 : decode cX11_back 117 = .ok (.goto (-78), 3) ∧ (117 : Int) + ((-78)) = ((39 : Nat) : Int) := by decide +kernel
theorem d_X11_back_120 : decode cX11_back 120 = .ok (.iload_n 3, 1) ∧ 121 = 120 + 1 := by decide +kernel
theorem d_X11_back_121 : decode cX11_back 121 = .ok (.iconst (-1), 1) ∧ 122 = 121 + 1 := by decide +kernel
theorem d_X11_back_122 : decode cX11_back 122 = .ok (.if_icmp .ne 8, 3) ∧ 125 = 122 + 3 ∧ (122 : Int) + 8 = ((130 : Nat) : Int) := by decide +kernel
theorem d_X11_back_125 : decode cX11_back 125 = .ok (.ldc 138, 2) ∧ 127 = 125 + 2 := by decide +kernel
theorem d_X11_back_127 : decode cX11_back 127 = .ok (.goto 20, 3) ∧ (127 : Int) + (20) = ((147 : Nat) : Int) := by decide +kernel
theorem d_X11_back_130 : decode cX11_back 130 = .ok (.iload_n 2, 1) ∧ 131 = 130 + 1 := by decide +kernel
theorem d_X11_back_131 : decode cX11_back 131 = .ok (.ifCond .ne 15, 3) ∧ 134 = 131 + 3 ∧ (131 : Int) + 15 = ((146 : Nat) : Int) := by decide +kernel
theorem d_X11_back_134 : decode cX11_back 134 = .ok (.iload 5, 2) ∧ 136 = 134 + 2 := by decide +kernel
theorem d_X11_back_136 : decode cX11_back 136 = .ok (.aload_n 0, 1) ∧ 137 = 136 + 1 := by decide +kernel
theorem d_X11_back_137 : decode cX11_back 137 = .ok (.getfield 7, 3) ∧ 140 = 137 + 3 := by decide +kernel
theorem d_X11_back_140 : decode cX11_back 140 = .ok (.iconst 5, 1) ∧ 141 = 140 + 1 := by decide +kernel
theorem d_X11_back_141 : decode cX11_back 141 = .ok (.iaload, 1) ∧ 142 = 141 + 1 := by decide +kernel
theorem d_X11_back_142 : decode cX11_back 142 = .ok (.idiv, 1) ∧ 143 = 142 + 1 := by decide +kernel
theorem d_X11_back_143 : decode cX11_back 143 = .ok (.goto 4, 3) ∧ (143 : Int) + (4) = ((147 : Nat) : Int) := by decide +kernel
theorem d_X11_back_146 : decode cX11_back 146 = .ok (.iload_n 3, 1) ∧ 147 = 146 + 1 := by decide +kernel
theorem d_X11_back_147 : decode cX11_back 147 = .ok (.ireturn, 1) := by decide +kernel
theorem d_X11_nextOf_0 : decode cX11_nextOf 0 = .ok (.iconst (-1), 1) ∧ 1 = 0 + 1 := by decide +kernel
theorem d_X11_nextOf_1 : decode cX11_nextOf 1 = .ok (.istore_n 3, 1) ∧ 2 = 1 + 1 := by decide +kernel
theorem d_X11_nextOf_2 : decode cX11_nextOf 2 = .ok (.iconst 0, 1) ∧ 3 = 2 + 1 := by decide +kernel
theorem d_X11_nextOf_3 : decode cX11_nextOf 3 = .ok (.istore 4, 2) ∧ 5 = 3 + 2 := by decide +kernel
theorem d_X11_nextOf_5 : decode cX11_nextOf 5 = .ok (.iload 4, 2) ∧ 7 = 5 + 2 := by decide +kernel
theorem d_X11_nextOf_7 : decode cX11_nextOf 7 = .ok (.aload_n 0, 1) ∧ 8 = 7 + 1 := by decide +kernel
theorem d_X11_nextOf_8 : decode cX11_nextOf 8 = .ok (.getfield 7, 3) ∧ 11 = 8 + 3 := by decide +kernel
theorem d_X11_nextOf_11 : decode cX11_nextOf 11 = .ok (.iconst 1, 1) ∧ 12 = 11 + 1 := by decide +kernel
theorem d_X11_nextOf_12 : decode cX11_nextOf 12 = .ok (.iaload, 1) ∧ 13 = 12 + 1 := by decide +kernel
theorem d_X11_nextOf_13 : decode cX11_nextOf 13 = .ok (.if_icmp .ge 69, 3) ∧ 16 = 13 + 3 ∧ (13 : Int) + 69 = ((82 : Nat) : Int) := by decide +kernel
theorem d_X11_nextOf_16 : decode cX11_nextOf 16 = .ok (.aload_n 0, 1) ∧ 17 = 16 + 1 := by decide +kernel
theorem d_X11_nextOf_17 : decode cX11_nextOf 17 = .ok (.iload 4, 2) ∧ 19 = 17 + 2 := by decide +kernel
theorem d_X11_nextOf_19 : decode cX11_nextOf 19 = .ok (.iconst 0, 1) ∧ 20 = 19 + 1 := by decide +kernel
theorem d_X11_nextOf_20 : decode cX11_nextOf 20 = .ok (.invokevirtual 123, 3) ∧ 23 = 20 + 3 := by decide +kernel
theorem d_X11_nextOf_23 : decode cX11_nextOf 23 = .ok (.iload_n 1, 1) ∧ 24 = 23 + 1 := by decide +kernel
theorem d_X11_nextOf_24 : decode cX11_nextOf 24 = .ok (.if_icmp .ne 22, 3) ∧ 27 = 24 + 3 ∧ (24 : Int) + 22 = ((46 : Nat) : Int) := by decide +kernel
theorem d_X11_nextOf_27 : decode cX11_nextOf 27 = .ok (.iload_n 2, 1) ∧ 28 = 27 + 1 := by decide +kernel
theorem d_X11_nextOf_28 : decode cX11_nextOf 28 = .ok (.iconst (-1), 1) ∧ 29 = 28 + 1 := by decide +kernel
theorem d_X11_nextOf_29 : decode cX11_nextOf 29 = .ok (.if_icmp .eq 13, 3) ∧ 32 = 29 + 3 ∧ (29 : Int) + 13 = ((42 : Nat) : Int) := by decide +kernel
theorem d_X11_nextOf_32 : decode cX11_nextOf 32 = .ok (.aload_n 0, 1) ∧ 33 = 32 + 1 := by decide +kernel
theorem d_X11_nextOf_33 : decode cX11_nextOf 33 = .ok (.iload_n 2, 1) ∧ 34 = 33 + 1 := by decide +kernel
theorem d_X11_nextOf_34 : decode cX11_nextOf 34 = .ok (.iload 4, 2) ∧ 36 = 34 + 2 := by decide +kernel
theorem d_X11_nextOf_36 : decode cX11_nextOf 36 = .ok (.invokevirtual 380, 3) ∧ 39 = 36 + 3 := by decide +kernel
theorem d_X11_nextOf_39 : decode cX11_nextOf 39 = .ok (.ifCond .eq 7, 3) ∧ 42 = 39 + 3 ∧ (39 : Int) + 7 = ((46 : Nat) : Int) := by decide +kernel
theorem d_X11_nextOf_42 : decode cX11_nextOf 42 = .ok (.iconst 1, 1) ∧ 43 = 42 + 1 := by decide +kernel
theorem d_X11_nextOf_43 : decode cX11_nextOf 43 = .ok (.goto 4, 3) ∧ (43 : Int) + (4) = ((47 : Nat) : Int) := by decide +kernel
theorem d_X11_nextOf_46 : decode cX11_nextOf 46 = .ok (.iconst 0, 1) ∧ 47 = 46 + 1 := by decide +kernel
theorem d_X11_nextOf_47 : decode cX11_nextOf 47 = .ok (.istore 5, 2) ∧ 49 = 47 + 2 := by decide +kernel
theorem d_X11_nextOf_49 : decode cX11_nextOf 49 = .ok (.iload 5, 2) ∧ 51 = 49 + 2 := by decide +kernel
theorem d_X11_nextOf_51 : decode cX11_nextOf 51 = .ok (.ifCond .eq 23, 3) ∧ 54 = 51 + 3 ∧ (51 : Int) + 23 = ((74 : Nat) : Int) := by decide +kernel
theorem d_X11_nextOf_54 : decode cX11_nextOf 54 = .ok (.iload_n 3, 1) ∧ 55 = 54 + 1 := by decide +kernel
theorem d_X11_nextOf_55 : decode cX11_nextOf 55 = .ok (.iconst (-1), 1) ∧ 56 = 55 + 1 := by decide +kernel
theorem d_X11_nextOf_56 : decode cX11_nextOf 56 = .ok (.if_icmp .eq 13, 3) ∧ 59 = 56 + 3 ∧ (56 : Int) + 13 = ((69 : Nat) : Int) := by decide +kernel
theorem d_X11_nextOf_59 : decode cX11_nextOf 59 = .ok (.aload_n 0, 1) ∧ 60 = 59 + 1 := by decide +kernel
theorem d_X11_nextOf_60 : decode cX11_nextOf 60 = .ok (.iload 4, 2) ∧ 62 = 60 + 2 := by decide +kernel
theorem d_X11_nextOf_62 : decode cX11_nextOf 62 = .ok (.iload_n 3, 1) ∧ 63 = 62 + 1 := by decide +kernel
theorem d_X11_nextOf_63 : decode cX11_nextOf 63 = .ok (.invokevirtual 380, 3) ∧ 66 = 63 + 3 := by decide +kernel
theorem d_X11_nextOf_66 : decode cX11_nextOf 66 = .ok (.ifCond .eq 8, 3) ∧ 69 = 66 + 3 ∧ (66 : Int) + 8 = ((74 : Nat) : Int) := by decide +kernel
theorem d_X11_nextOf_69 : decode cX11_nextOf 69 = .ok (.iload 4, 2) ∧ 71 = 69 + 2 := by decide +kernel
theorem d_X11_nextOf_71 : decode cX11_nextOf 71 = .ok (.goto 4, 3) ∧ (71 : Int) + (4) = ((75 : Nat) : Int) := by decide +kernel
theorem d_X11_nextOf_74 : decode cX11_nextOf 74 = .ok (.iload_n 3, 1) ∧ 75 = 74 + 1 := by decide +kernel
theorem d_X11_nextOf_75 : decode cX11_nextOf 75 = .ok (.istore_n 3, 1) ∧ 76 = 75 + 1 := by decide +kernel
theorem d_X11_nextOf_76 : decode cX11_nextOf 76 = .ok (.iinc 4 1, 3) ∧ 79 = 76 + 3 := by decide +kernel
theorem d_X11_nextOf_79 : decode cX11_nextOf 79 = .ok (.goto (-74), 3) ∧ (79 : Int) + ((-74)) = ((5 : Nat) : Int) := by decide +kernel
theorem d_X11_nextOf_82 : decode cX11_nextOf 82 = .ok (.iload_n 3, 1) ∧ 83 = 82 + 1 := by decide +kernel
theorem d_X11_nextOf_83 : decode cX11_nextOf 83 = .ok (.ireturn, 1) := by decide +kernel
theorem d_X11_isBefore_0 : decode cX11_isBefore 0 = .ok (.aload_n 0, 1) ∧ 1 = 0 + 1 := by decide +kernel
theorem d_X11_isBefore_1 : decode cX11_isBefore 1 = .ok (.iload_n 1, 1) ∧ 2 = 1 + 1 := by decide +kernel
theorem d_X11_isBefore_2 : decode cX11_isBefore 2 = .ok (.iconst 1, 1) ∧ 3 = 2 + 1 := by decide +kernel
theorem d_X11_isBefore_3 : decode cX11_isBefore 3 = .ok (.invokevirtual 123, 3) ∧ 6 = 3 + 3 := by decide +kernel
theorem d_X11_isBefore_6 : decode cX11_isBefore 6 = .ok (.aload_n 0, 1) ∧ 7 = 6 + 1 := by decide +kernel
theorem d_X11_isBefore_7 : decode cX11_isBefore 7 = .ok (.iload_n 2, 1) ∧ 8 = 7 + 1 := by decide +kernel
theorem d_X11_isBefore_8 : decode cX11_isBefore 8 = .ok (.iconst 1, 1) ∧ 9 = 8 + 1 := by decide +kernel
theorem d_X11_isBefore_9 : decode cX11_isBefore 9 = .ok (.invokevirtual 123, 3) ∧ 12 = 9 + 3 := by decide +kernel
theorem d_X11_isBefore_12 : decode cX11_isBefore 12 = .ok (.if_icmp .lt 23, 3) ∧ 15 = 12 + 3 ∧ (12 : Int) + 23 = ((35 : Nat) : Int) := by decide +kernel
theorem d_X11_isBefore_15 : decode cX11_isBefore 15 = .ok (.aload_n 0, 1) ∧ 16 = 15 + 1 := by decide +kernel
theorem d_X11_isBefore_16 : decode cX11_isBefore 16 = .ok (.iload_n 1, 1) ∧ 17 = 16 + 1 := by decide +kernel
theorem d_X11_isBefore_17 : decode cX11_isBefore 17 = .ok (.iconst 1, 1) ∧ 18 = 17 + 1 := by decide +kernel
theorem d_X11_isBefore_18 : decode cX11_isBefore 18 = .ok (.invokevirtual 123, 3) ∧ 21 = 18 + 3 := by decide +kernel
theorem d_X11_isBefore_21 : decode cX11_isBefore 21 = .ok (.aload_n 0, 1) ∧ 22 = 21 + 1 := by decide +kernel
theorem d_X11_isBefore_22 : decode cX11_isBefore 22 = .ok (.iload_n 2, 1) ∧ 23 = 22 + 1 := by decide +kernel
theorem d_X11_isBefore_23 : decode cX11_isBefore 23 = .ok (.iconst 1, 1) ∧ 24 = 23 + 1 := by decide +kernel
theorem d_X11_isBefore_24 : decode cX11_isBefore 24 = .ok (.invokevirtual 123, 3) ∧ 27 = 24 + 3 := by decide +kernel
theorem d_X11_isBefore_27 : decode cX11_isBefore 27 = .ok (.if_icmp .ne 12, 3) ∧ 30 = 27 + 3 ∧ (27 : Int) + 12 = ((39 : Nat) : Int) := by decide +kernel
theorem d_X11_isBefore_30 : decode cX11_isBefore 30 = .ok (.iload_n 1, 1) ∧ 31 = 30 + 1 := by decide +kernel
theorem d_X11_isBefore_31 : decode cX11_isBefore 31 = .ok (.iload_n 2, 1) ∧ 32 = 31 + 1 := by decide +kernel
theorem d_X11_isBefore_32 : decode cX11_isBefore 32 = .ok (.if_icmp .ge 7, 3) ∧ 35 = 32 + 3 ∧ (32 : Int) + 7 = ((39 : Nat) : Int) := by decide +kernel
theorem d_X11_isBefore_35 : decode cX11_isBefore 35 = .ok (.iconst 1, 1) ∧ 36 = 35 + 1 := by decide +kernel
theorem d_X11_isBefore_36 : decode cX11_isBefore 36 = .ok (.goto 4, 3) ∧ (36 : Int) + (4) = ((40 : Nat) : Int) := by decide +kernel
theorem d_X11_isBefore_39 : decode cX11_isBefore 39 = .ok (.iconst 0, 1) ∧ 40 = 39 + 1 := by decide +kernel
theorem d_X11_isBefore_40 : decode cX11_isBefore 40 = .ok (.ireturn, 1) := by decide +kernel
theorem d_X11_course_0 : decode cX11_course 0 = .ok (.aload_n 0, 1) ∧ 1 = 0 + 1 := by decide +kernel
theorem d_X11_course_1 : decode cX11_course 1 = .ok (.iload_n 1, 1) ∧ 2 = 1 + 1 := by decide +kernel
theorem d_X11_course_2 : decode cX11_course 2 = .ok (.invokevirtual 356, 3) ∧ 5 = 2 + 3 := by decide +kernel
theorem d_X11_course_5 : decode cX11_course 5 = .ok (.ifCond .eq 33, 3) ∧ 8 = 5 + 3 ∧ (5 : Int) + 33 = ((38 : Nat) : Int) := by decide +kernel
theorem d_X11_course_8 : decode cX11_course 8 = .ok (.iload_n 2, 1) ∧ 9 = 8 + 1 := by decide +kernel
theorem d_X11_course_9 : decode cX11_course 9 = .ok (.iconst 0, 1) ∧ 10 = 9 + 1 := by decide +kernel
theorem d_X11_course_10 : decode cX11_course 10 = .ok (.iconst 3, 1) ∧ 11 = 10 + 1 := by decide +kernel
theorem d_X11_course_11 : decode cX11_course 11 = .ok (.invokestatic 101, 3) ∧ 14 = 11 + 3 := by decide +kernel
theorem d_X11_course_14 : decode cX11_course 14 = .ok (.ifCond .eq 24, 3) ∧ 17 = 14 + 3 ∧ (14 : Int) + 24 = ((38 : Nat) : Int) := by decide +kernel
theorem d_X11_course_17 : decode cX11_course 17 = .ok (.iload_n 3, 1) ∧ 18 = 17 + 1 := by decide +kernel
theorem d_X11_course_18 : decode cX11_course 18 = .ok (.iconst 1, 1) ∧ 19 = 18 + 1 := by decide +kernel
theorem d_X11_course_19 : decode cX11_course 19 = .ok (.sipush 1000, 3) ∧ 22 = 19 + 3 := by decide +kernel
theorem d_X11_course_22 : decode cX11_course 22 = .ok (.invokestatic 101, 3) ∧ 25 = 22 + 3 := by decide +kernel
theorem d_X11_course_25 : decode cX11_course 25 = .ok (.ifCond .eq 13, 3) ∧ 28 = 25 + 3 ∧ (25 : Int) + 13 = ((38 : Nat) : Int) := by decide +kernel
theorem d_X11_course_28 : decode cX11_course 28 = .ok (.iload 4, 2) ∧ 30 = 28 + 2 := by decide +kernel
theorem d_X11_course_30 : decode cX11_course 30 = .ok (.iconst 0, 1) ∧ 31 = 30 + 1 := by decide +kernel
theorem d_X11_course_31 : decode cX11_course 31 = .ok (.iconst 2, 1) ∧ 32 = 31 + 1 := by decide +kernel
theorem d_X11_course_32 : decode cX11_course 32 = .ok (.invokestatic 101, 3) ∧ 35 = 32 + 3 := by decide +kernel
theorem d_X11_course_35 : decode cX11_course 35 = .ok (.ifCond .ne 5, 3) ∧ 38 = 35 + 3 ∧ (35 : Int) + 5 = ((40 : Nat) : Int) := by decide +kernel
theorem d_X11_course_38 : decode cX11_course 38 = .ok (.iconst (-1), 1) ∧ 39 = 38 + 1 := by decide +kernel
theorem d_X11_course_39 : decode cX11_course 39 = .ok (.ireturn, 1) := by decide +kernel
theorem d_X11_course_40 : decode cX11_course 40 = .ok (.aload_n 0, 1) ∧ 41 = 40 + 1 := by decide +kernel
theorem d_X11_course_41 : decode cX11_course 41 = .ok (.iload_n 1, 1) ∧ 42 = 41 + 1 := by decide +kernel
theorem d_X11_course_42 : decode cX11_course 42 = .ok (.invokevirtual 359, 3) ∧ 45 = 42 + 3 := by decide +kernel
theorem d_X11_course_45 : decode cX11_course 45 = .ok (.iconst 0, 1) ∧ 46 = 45 + 1 := by decide +kernel
theorem d_X11_course_46 : decode cX11_course 46 = .ok (.istore 5, 2) ∧ 48 = 46 + 2 := by decide +kernel
theorem d_X11_course_48 : decode cX11_course 48 = .ok (.iconst (-1), 1) ∧ 49 = 48 + 1 := by decide +kernel
theorem d_X11_course_49 : decode cX11_course 49 = .ok (.istore 6, 2) ∧ 51 = 49 + 2 := by decide +kernel
theorem d_X11_course_51 : decode cX11_course 51 = .ok (.iconst (-1), 1) ∧ 52 = 51 + 1 := by decide +kernel
theorem d_X11_course_52 : decode cX11_course 52 = .ok (.istore 7, 2) ∧ 54 = 52 + 2 := by decide +kernel
theorem d_X11_course_54 : decode cX11_course 54 = .ok (.iconst 0, 1) ∧ 55 = 54 + 1 := by decide +kernel
theorem d_X11_course_55 : decode cX11_course 55 = .ok (.istore 8, 2) ∧ 57 = 55 + 2 := by decide +kernel
theorem d_X11_course_57 : decode cX11_course 57 = .ok (.aload_n 0, 1) ∧ 58 = 57 + 1 := by decide +kernel
theorem d_X11_course_58 : decode cX11_course 58 = .ok (.iload_n 2, 1) ∧ 59 = 58 + 1 := by decide +kernel
theorem d_X11_course_59 : decode cX11_course 59 = .ok (.iconst (-1), 1) ∧ 60 = 59 + 1 := by decide +kernel
theorem d_X11_course_60 : decode cX11_course 60 = .ok (.invokevirtual 383, 3) ∧ 63 = 60 + 3 := by decide +kernel
theorem d_X11_course_63 : decode cX11_course 63 = .ok (.istore 9, 2) ∧ 65 = 63 + 2 := by decide +kernel
theorem d_X11_course_65 : decode cX11_course 65 = .ok (.iload 9, 2) ∧ 67 = 65 + 2 := by decide +kernel
theorem d_X11_course_67 : decode cX11_course 67 = .ok (.iconst (-1), 1) ∧ 68 = 67 + 1 := by decide +kernel
theorem d_X11_course_68 : decode cX11_course 68 = .ok (.if_icmp .eq 84, 3) ∧ 71 = 68 + 3 ∧ (68 : Int) + 84 = ((152 : Nat) : Int) := by decide +kernel
theorem d_X11_course_71 : decode cX11_course 71 = .ok (.aload_n 0, 1) ∧ 72 = 71 + 1 := by decide +kernel
theorem d_X11_course_72 : decode cX11_course 72 = .ok (.aload_n 0, 1) ∧ 73 = 72 + 1 := by decide +kernel
theorem d_X11_course_73 : decode cX11_course 73 = .ok (.iload 9, 2) ∧ 75 = 73 + 2 := by decide +kernel
theorem d_X11_course_75 : decode cX11_course 75 = .ok (.aload_n 0, 1) ∧ 76 = 75 + 1 := by decide +kernel
theorem d_X11_course_76 : decode cX11_course 76 = .ok (.invokevirtual 131, 3) ∧ 79 = 76 + 3 := by decide +kernel
theorem d_X11_course_79 : decode cX11_course 79 = .ok (.invokevirtual 362, 3) ∧ 82 = 79 + 3 := by decide +kernel
theorem d_X11_course_82 : decode cX11_course 82 = .ok (.iload_n 3, 1) ∧ 83 = 82 + 1 := by decide +kernel
theorem d_X11_course_83 : decode cX11_course 83 = .ok (.invokevirtual 365, 3) ∧ 86 = 83 + 3 := by decide +kernel
theorem d_X11_course_86 : decode cX11_course 86 = .ok (.ifCond .eq 36, 3) ∧ 89 = 86 + 3 ∧ (86 : Int) + 36 = ((122 : Nat) : Int) := by decide +kernel
theorem d_X11_course_89 : decode cX11_course 89 = .ok (.iload 6, 2) ∧ 91 = 89 + 2 := by decide +kernel
theorem d_X11_course_91 : decode cX11_course 91 = .ok (.iconst (-1), 1) ∧ 92 = 91 + 1 := by decide +kernel
theorem d_X11_course_92 : decode cX11_course 92 = .ok (.if_icmp .eq 14, 3) ∧ 95 = 92 + 3 ∧ (92 : Int) + 14 = ((106 : Nat) : Int) := by decide +kernel
theorem d_X11_course_95 : decode cX11_course 95 = .ok (.iload 7, 2) ∧ 97 = 95 + 2 := by decide +kernel
theorem d_X11_course_97 : decode cX11_course 97 = .ok (.iconst (-1), 1) ∧ 98 = 97 + 1 := by decide +kernel
theorem d_X11_course_98 : decode cX11_course 98 = .ok (.if_icmp .ne 8, 3) ∧ 101 = 98 + 3 ∧ (98 : Int) + 8 = ((106 : Nat) : Int) := by decide +kernel
theorem d_X11_course_101 : decode cX11_course 101 = .ok (.iload 8, 2) ∧ 103 = 101 + 2 := by decide +kernel
theorem d_X11_course_103 : decode cX11_course 103 = .ok (.goto 5, 3) ∧ (103 : Int) + (5) = ((108 : Nat) : Int) := by decide +kernel
theorem d_X11_course_106 : decode cX11_course 106 = .ok (.iload 7, 2) ∧ 108 = 106 + 2 := by decide +kernel
theorem d_X11_course_108 : decode cX11_course 108 = .ok (.istore 7, 2) ∧ 110 = 108 + 2 := by decide +kernel
theorem d_X11_course_110 : decode cX11_course 110 = .ok (.iload 5, 2) ∧ 112 = 110 + 2 := by decide +kernel
theorem d_X11_course_112 : decode cX11_course 112 = .ok (.iconst 1, 1) ∧ 113 = 112 + 1 := by decide +kernel
theorem d_X11_course_113 : decode cX11_course 113 = .ok (.iload 8, 2) ∧ 115 = 113 + 2 := by decide +kernel
theorem d_X11_course_115 : decode cX11_course 115 = .ok (.ishl, 1) ∧ 116 = 115 + 1 := by decide +kernel
theorem d_X11_course_116 : decode cX11_course 116 = .ok (.ior, 1) ∧ 117 = 116 + 1 := by decide +kernel
theorem d_X11_course_117 : decode cX11_course 117 = .ok (.istore 5, 2) ∧ 119 = 117 + 2 := by decide +kernel
theorem d_X11_course_119 : decode cX11_course 119 = .ok (.goto 18, 3) ∧ (119 : Int) + (18) = ((137 : Nat) : Int) := by decide +kernel
theorem d_X11_course_122 : decode cX11_course 122 = .ok (.iload 5, 2) ∧ 124 = 122 + 2 := by decide +kernel
theorem d_X11_course_124 : decode cX11_course 124 = .ok (.ifCond .eq 13, 3) ∧ 127 = 124 + 3 ∧ (124 : Int) + 13 = ((137 : Nat) : Int) := by decide +kernel
theorem d_X11_course_127 : decode cX11_course 127 = .ok (.iload 6, 2) ∧ 129 = 127 + 2 := by decide +kernel
theorem d_X11_course_129 : decode cX11_course 129 = .ok (.iconst (-1), 1) ∧ 130 = 129 + 1 := by decide +kernel
theorem d_X11_course_130 : decode cX11_course 130 = .ok (.if_icmp .ne 7, 3) ∧ 133 = 130 + 3 ∧ (130 : Int) + 7 = ((137 : Nat) : Int) := by decide +kernel
theorem d_X11_course_133 : decode cX11_course 133 = .ok (.iload 8, 2) ∧ 135 = 133 + 2 := by decide +kernel
theorem d_X11_course_135 : decode cX11_course 135 = .ok (.istore 6, 2) ∧ 137 = 135 + 2 := by decide +kernel
theorem d_X11_course_137 : decode cX11_course 137 = .ok (.iinc 8 1, 3) ∧ 140 = 137 + 3 := by decide +kernel
theorem d_X11_course_140 : decode cX11_course 140 = .ok (.aload_n 0, 1) ∧ 141 = 140 + 1 := by decide +kernel
theorem d_X11_course_141 : decode cX11_course 141 = .ok (.iload_n 2, 1) ∧ 142 = 141 + 1 := by decide +kernel
theorem d_X11_course_142 : decode cX11_course 142 = .ok (.iload 9, 2) ∧ 144 = 142 + 2 := by decide +kernel
theorem d_X11_course_144 : decode cX11_course 144 = .ok (.invokevirtual 383, 3) ∧ 147 = 144 + 3 := by decide +kernel
theorem d_X11_course_147 : decode cX11_course 147 = .ok (.istore 9, 2) ∧ 149 = 147 + 2 := by decide +kernel
theorem d_X11_course_149 : decode cX11_course 149 = .ok (.goto (-84), 3) ∧ (149 : Int) + ((-84)) = ((65 : Nat) : Int) := by decide +kernel
theorem d_X11_course_152 : decode cX11_course 152 = .ok (.iload 4, 2) ∧ 154 = 152 + 2 := by decide +kernel
theorem d_X11_course_154 : decode cX11_course 154 = .ok (.ifCond .ne 8, 3) ∧ 157 = 154 + 3 ∧ (154 : Int) + 8 = ((162 : Nat) : Int) := by decide +kernel
theorem d_X11_course_157 : decode cX11_course 157 = .ok (.iload 5, 2) ∧ 159 = 157 + 2 := by decide +kernel
theorem d_X11_course_159 : decode cX11_course 159 = .ok (.goto 16, 3) ∧ (159 : Int) + (16) = ((175 : Nat) : Int) := by decide +kernel
theorem d_X11_course_162 : decode cX11_course 162 = .ok (.iload 4, 2) ∧ 164 = 162 + 2 := by decide +kernel
theorem d_X11_course_164 : decode cX11_course 164 = .ok (.iconst 1, 1) ∧ 165 = 164 + 1 := by decide +kernel
theorem d_X11_course_165 : decode cX11_course 165 = .ok (.if_icmp .ne 8, 3) ∧ 168 = 165 + 3 ∧ (165 : Int) + 8 = ((173 : Nat) : Int) := by decide +kernel
theorem d_X11_course_168 : decode cX11_course 168 = .ok (.iload 6, 2) ∧ 170 = 168 + 2 := by decide +kernel
theorem d_X11_course_170 : decode cX11_course 170 = .ok (.goto 5, 3) ∧ (170 : Int) + (5) = ((175 : Nat) : Int) := by decide +kernel
theorem d_X11_course_173 : decode cX11_course 173 = .ok (.iload 7, 2) ∧ 175 = 173 + 2 := by decide +kernel
theorem d_X11_course_175 : decode cX11_course 175 = .ok (.ireturn, 1) := by decide +kernel
theorem d_X11_link_0 : decode cX11_link 0 = .ok (.aload_n 0, 1) ∧ 1 = 0 + 1 := by decide +kernel
theorem d_X11_link_1 : decode cX11_link 1 = .ok (.iload_n 1, 1) ∧ 2 = 1 + 1 := by decide +kernel
theorem d_X11_link_2 : decode cX11_link 2 = .ok (.invokevirtual 109, 3) ∧ 5 = 2 + 3 := by decide +kernel
theorem d_X11_link_5 : decode cX11_link 5 = .ok (.ifCond .eq 37, 3) ∧ 8 = 5 + 3 ∧ (5 : Int) + 37 = ((42 : Nat) : Int) := by decide +kernel
theorem d_X11_link_8 : decode cX11_link 8 = .ok (.aload_n 0, 1) ∧ 9 = 8 + 1 := by decide +kernel
theorem d_X11_link_9 : decode cX11_link 9 = .ok (.iload_n 2, 1) ∧ 10 = 9 + 1 := by decide +kernel
theorem d_X11_link_10 : decode cX11_link 10 = .ok (.invokevirtual 109, 3) ∧ 13 = 10 + 3 := by decide +kernel
theorem d_X11_link_13 : decode cX11_link 13 = .ok (.ifCond .eq 29, 3) ∧ 16 = 13 + 3 ∧ (13 : Int) + 29 = ((42 : Nat) : Int) := by decide +kernel
theorem d_X11_link_16 : decode cX11_link 16 = .ok (.aload_n 0, 1) ∧ 17 = 16 + 1 := by decide +kernel
theorem d_X11_link_17 : decode cX11_link 17 = .ok (.iload_n 1, 1) ∧ 18 = 17 + 1 := by decide +kernel
theorem d_X11_link_18 : decode cX11_link 18 = .ok (.iconst 1, 1) ∧ 19 = 18 + 1 := by decide +kernel
theorem d_X11_link_19 : decode cX11_link 19 = .ok (.invokevirtual 123, 3) ∧ 22 = 19 + 3 := by decide +kernel
theorem d_X11_link_22 : decode cX11_link 22 = .ok (.aload_n 0, 1) ∧ 23 = 22 + 1 := by decide +kernel
theorem d_X11_link_23 : decode cX11_link 23 = .ok (.iload_n 2, 1) ∧ 24 = 23 + 1 := by decide +kernel
theorem d_X11_link_24 : decode cX11_link 24 = .ok (.iconst 1, 1) ∧ 25 = 24 + 1 := by decide +kernel
theorem d_X11_link_25 : decode cX11_link 25 = .ok (.invokevirtual 123, 3) ∧ 28 = 25 + 3 := by decide +kernel
theorem d_X11_link_28 : decode cX11_link 28 = .ok (.if_icmp .ge 14, 3) ∧ 31 = 28 + 3 ∧ (28 : Int) + 14 = ((42 : Nat) : Int) := by decide +kernel
theorem d_X11_link_31 : decode cX11_link 31 = .ok (.aload_n 0, 1) ∧ 32 = 31 + 1 := by decide +kernel
theorem d_X11_link_32 : decode cX11_link 32 = .ok (.getfield 7, 3) ∧ 35 = 32 + 3 := by decide +kernel
theorem d_X11_link_35 : decode cX11_link 35 = .ok (.iconst 3, 1) ∧ 36 = 35 + 1 := by decide +kernel
theorem d_X11_link_36 : decode cX11_link 36 = .ok (.iaload, 1) ∧ 37 = 36 + 1 := by decide +kernel
theorem d_X11_link_37 : decode cX11_link 37 = .ok (.bipush 20, 2) ∧ 39 = 37 + 2 := by decide +kernel
theorem d_X11_link_39 : decode cX11_link 39 = .ok (.if_icmp .ne 5, 3) ∧ 42 = 39 + 3 ∧ (39 : Int) + 5 = ((44 : Nat) : Int) := by decide +kernel
theorem d_X11_link_42 : decode cX11_link 42 = .ok (.iconst (-1), 1) ∧ 43 = 42 + 1 := by decide +kernel
theorem d_X11_link_43 : decode cX11_link 43 = .ok (.ireturn, 1) := by decide +kernel
theorem d_X11_link_44 : decode cX11_link 44 = .ok (.iconst 0, 1) ∧ 45 = 44 + 1 := by decide +kernel
theorem d_X11_link_45 : decode cX11_link 45 = .ok (.istore_n 3, 1) ∧ 46 = 45 + 1 := by decide +kernel
theorem d_X11_link_46 : decode cX11_link 46 = .ok (.iload_n 3, 1) ∧ 47 = 46 + 1 := by decide +kernel
theorem d_X11_link_47 : decode cX11_link 47 = .ok (.aload_n 0, 1) ∧ 48 = 47 + 1 := by decide +kernel
theorem d_X11_link_48 : decode cX11_link 48 = .ok (.getfield 7, 3) ∧ 51 = 48 + 3 := by decide +kernel
theorem d_X11_link_51 : decode cX11_link 51 = .ok (.iconst 3, 1) ∧ 52 = 51 + 1 := by decide +kernel
theorem d_X11_link_52 : decode cX11_link 52 = .ok (.iaload, 1) ∧ 53 = 52 + 1 := by decide +kernel
theorem d_X11_link_53 : decode cX11_link 53 = .ok (.if_icmp .ge 45, 3) ∧ 56 = 53 + 3 ∧ (53 : Int) + 45 = ((98 : Nat) : Int) := by decide +kernel
theorem d_X11_link_56 : decode cX11_link 56 = .ok (.aload_n 0, 1) ∧ 57 = 56 + 1 := by decide +kernel
theorem d_X11_link_57 : decode cX11_link 57 = .ok (.getfield 7, 3) ∧ 60 = 57 + 3 := by decide +kernel
theorem d_X11_link_60 : decode cX11_link 60 = .ok (.sipush 320, 3) ∧ 63 = 60 + 3 := by decide +kernel
theorem d_X11_link_63 : decode cX11_link 63 = .ok (.iconst 2, 1) ∧ 64 = 63 + 1 := by decide +kernel
theorem d_X11_link_64 : decode cX11_link 64 = .ok (.iload_n 3, 1) ∧ 65 = 64 + 1 := by decide +kernel
theorem d_X11_link_65 : decode cX11_link 65 = .ok (.imul, 1) ∧ 66 = 65 + 1 := by decide +kernel
theorem d_X11_link_66 : decode cX11_link 66 = .ok (.iadd, 1) ∧ 67 = 66 + 1 := by decide +kernel
theorem d_X11_link_67 : decode cX11_link 67 = .ok (.iaload, 1) ∧ 68 = 67 + 1 := by decide +kernel
theorem d_X11_link_68 : decode cX11_link 68 = .ok (.iload_n 1, 1) ∧ 69 = 68 + 1 := by decide +kernel
theorem d_X11_link_69 : decode cX11_link 69 = .ok (.if_icmp .ne 23, 3) ∧ 72 = 69 + 3 ∧ (69 : Int) + 23 = ((92 : Nat) : Int) := by decide +kernel
theorem d_X11_link_72 : decode cX11_link 72 = .ok (.aload_n 0, 1) ∧ 73 = 72 + 1 := by decide +kernel
theorem d_X11_link_73 : decode cX11_link 73 = .ok (.getfield 7, 3) ∧ 76 = 73 + 3 := by decide +kernel
theorem d_X11_link_76 : decode cX11_link 76 = .ok (.sipush 320, 3) ∧ 79 = 76 + 3 := by decide +kernel
theorem d_X11_link_79 : decode cX11_link 79 = .ok (.iconst 2, 1) ∧ 80 = 79 + 1 := by decide +kernel
theorem d_X11_link_80 : decode cX11_link 80 = .ok (.iload_n 3, 1) ∧ 81 = 80 + 1 := by decide +kernel
theorem d_X11_link_81 : decode cX11_link 81 = .ok (.imul, 1) ∧ 82 = 81 + 1 := by decide +kernel
theorem d_X11_link_82 : decode cX11_link 82 = .ok (.iadd, 1) ∧ 83 = 82 + 1 := by decide +kernel
theorem d_X11_link_83 : decode cX11_link 83 = .ok (.iconst 1, 1) ∧ 84 = 83 + 1 := by decide +kernel
theorem d_X11_link_84 : decode cX11_link 84 = .ok (.iadd, 1) ∧ 85 = 84 + 1 := by decide +kernel
theorem d_X11_link_85 : decode cX11_link 85 = .ok (.iaload, 1) ∧ 86 = 85 + 1 := by decide +kernel
theorem d_X11_link_86 : decode cX11_link 86 = .ok (.iload_n 2, 1) ∧ 87 = 86 + 1 := by decide +kernel
theorem d_X11_link_87 : decode cX11_link 87 = .ok (.if_icmp .ne 5, 3) ∧ 90 = 87 + 3 ∧ (87 : Int) + 5 = ((92 : Nat) : Int) := by decide +kernel
theorem d_X11_link_90 : decode cX11_link 90 = .ok (.iconst (-1), 1) ∧ 91 = 90 + 1 := by decide +kernel
theorem d_X11_link_91 : decode cX11_link 91 = .ok (.ireturn, 1) := by decide +kernel
theorem d_X11_link_92 : decode cX11_link 92 = .ok (.iinc 3 1, 3) ∧ 95 = 92 + 3 := by decide +kernel
theorem d_X11_link_95 : decode cX11_link 95 = .ok (.goto (-49), 3) ∧ (95 : Int) + ((-49)) = ((46 : Nat) : Int) := by decide +kernel
theorem d_X11_link_98 : decode cX11_link 98 = .ok (.aload_n 0, 1) ∧ 99 = 98 + 1 := by decide +kernel
theorem d_X11_link_99 : decode cX11_link 99 = .ok (.getfield 7, 3) ∧ 102 = 99 + 3 := by decide +kernel
theorem d_X11_link_102 : decode cX11_link 102 = .ok (.sipush 320, 3) ∧ 105 = 102 + 3 := by decide +kernel
theorem d_X11_link_105 : decode cX11_link 105 = .ok (.iconst 2, 1) ∧ 106 = 105 + 1 := by decide +kernel
theorem d_X11_link_106 : decode cX11_link 106 = .ok (.aload_n 0, 1) ∧ 107 = 106 + 1 := by decide +kernel
theorem d_X11_link_107 : decode cX11_link 107 = .ok (.getfield 7, 3) ∧ 110 = 107 + 3 := by decide +kernel
theorem d_X11_link_110 : decode cX11_link 110 = .ok (.iconst 3, 1) ∧ 111 = 110 + 1 := by decide +kernel
theorem d_X11_link_111 : decode cX11_link 111 = .ok (.iaload, 1) ∧ 112 = 111 + 1 := by decide +kernel
theorem d_X11_link_112 : decode cX11_link 112 = .ok (.imul, 1) ∧ 113 = 112 + 1 := by decide +kernel
theorem d_X11_link_113 : decode cX11_link 113 = .ok (.iadd, 1) ∧ 114 = 113 + 1 := by decide +kernel
theorem d_X11_link_114 : decode cX11_link 114 = .ok (.iload_n 1, 1) ∧ 115 = 114 + 1 := by decide +kernel
theorem d_X11_link_115 : decode cX11_link 115 = .ok (.iastore, 1) ∧ 116 = 115 + 1 := by decide +kernel
theorem d_X11_link_116 : decode cX11_link 116 = .ok (.aload_n 0, 1) ∧ 117 = 116 + 1 := by decide +kernel
theorem d_X11_link_117 : decode cX11_link 117 = .ok (.getfield 7, 3) ∧ 120 = 117 + 3 := by decide +kernel
theorem d_X11_link_120 : decode cX11_link 120 = .ok (.sipush 320, 3) ∧ 123 = 120 + 3 := by decide +kernel
theorem d_X11_link_123 : decode cX11_link 123 = .ok (.iconst 2, 1) ∧ 124 = 123 + 1 := by decide +kernel
theorem d_X11_link_124 : decode cX11_link 124 = .ok (.aload_n 0, 1) ∧ 125 = 124 + 1 := by decide +kernel
theorem d_X11_link_125 : decode cX11_link 125 = .ok (.getfield 7, 3) ∧ 128 = 125 + 3 := by decide +kernel
theorem d_X11_link_128 : decode cX11_link 128 = .ok (.iconst 3, 1) ∧ 129 = 128 + 1 := by decide +kernel
theorem d_X11_link_129 : decode cX11_link 129 = .ok (.iaload, 1) ∧ 130 = 129 + 1 := by decide +kernel
theorem d_X11_link_130 : decode cX11_link 130 = .ok (.imul, 1) ∧ 131 = 130 + 1 := by decide +kernel
theorem d_X11_link_131 : decode cX11_link 131 = .ok (.iadd, 1) ∧ 132 = 131 + 1 := by decide +kernel
theorem d_X11_link_132 : decode cX11_link 132 = .ok (.iconst 1, 1) ∧ 133 = 132 + 1 := by decide +kernel
theorem d_X11_link_133 : decode cX11_link 133 = .ok (.iadd, 1) ∧ 134 = 133 + 1 := by decide +kernel
theorem d_X11_link_134 : decode cX11_link 134 = .ok (.iload_n 2, 1) ∧ 135 = 134 + 1 := by decide +kernel
theorem d_X11_link_135 : decode cX11_link 135 = .ok (.iastore, 1) ∧ 136 = 135 + 1 := by decide +kernel
theorem d_X11_link_136 : decode cX11_link 136 = .ok (.aload_n 0, 1) ∧ 137 = 136 + 1 := by decide +kernel
theorem d_X11_link_137 : decode cX11_link 137 = .ok (.getfield 7, 3) ∧ 140 = 137 + 3 := by decide +kernel
theorem d_X11_link_140 : decode cX11_link 140 = .ok (.iconst 3, 1) ∧ 141 = 140 + 1 := by decide +kernel
theorem d_X11_link_141 : decode cX11_link 141 = .ok (.dup2, 1) ∧ 142 = 141 + 1 := by decide +kernel
theorem d_X11_link_142 : decode cX11_link 142 = .ok (.iaload, 1) ∧ 143 = 142 + 1 := by decide +kernel
theorem d_X11_link_143 : decode cX11_link 143 = .ok (.iconst 1, 1) ∧ 144 = 143 + 1 := by decide +kernel
theorem d_X11_link_144 : decode cX11_link 144 = .ok (.iadd, 1) ∧ 145 = 144 + 1 := by decide +kernel
theorem d_X11_link_145 : decode cX11_link 145 = .ok (.iastore, 1) ∧ 146 = 145 + 1 := by decide +kernel
theorem d_X11_link_146 : decode cX11_link 146 = .ok (.aload_n 0, 1) ∧ 147 = 146 + 1 := by decide +kernel
theorem d_X11_link_147 : decode cX11_link 147 = .ok (.getfield 7, 3) ∧ 150 = 147 + 3 := by decide +kernel
theorem d_X11_link_150 : decode cX11_link 150 = .ok (.iconst 3, 1) ∧ 151 = 150 + 1 := by decide +kernel
theorem d_X11_link_151 : decode cX11_link 151 = .ok (.iaload, 1) ∧ 152 = 151 + 1 := by decide +kernel
theorem d_X11_link_152 : decode cX11_link 152 = .ok (.ireturn, 1) := by decide +kernel
theorem d_X11_ways_0 : decode cX11_ways 0 = .ok (.aload_n 0, 1) ∧ 1 = 0 + 1 := by decide +kernel
theorem d_X11_ways_1 : decode cX11_ways 1 = .ok (.iload_n 1, 1) ∧ 2 = 1 + 1 := by decide +kernel
theorem d_X11_ways_2 : decode cX11_ways 2 = .ok (.invokevirtual 109, 3) ∧ 5 = 2 + 3 := by decide +kernel
theorem d_X11_ways_5 : decode cX11_ways 5 = .ok (.ifCond .eq 20, 3) ∧ 8 = 5 + 3 ∧ (5 : Int) + 20 = ((25 : Nat) : Int) := by decide +kernel
theorem d_X11_ways_8 : decode cX11_ways 8 = .ok (.aload_n 0, 1) ∧ 9 = 8 + 1 := by decide +kernel
theorem d_X11_ways_9 : decode cX11_ways 9 = .ok (.iload_n 2, 1) ∧ 10 = 9 + 1 := by decide +kernel
theorem d_X11_ways_10 : decode cX11_ways 10 = .ok (.invokevirtual 109, 3) ∧ 13 = 10 + 3 := by decide +kernel
theorem d_X11_ways_13 : decode cX11_ways 13 = .ok (.ifCond .eq 12, 3) ∧ 16 = 13 + 3 ∧ (13 : Int) + 12 = ((25 : Nat) : Int) := by decide +kernel
theorem d_X11_ways_16 : decode cX11_ways 16 = .ok (.iload_n 3, 1) ∧ 17 = 16 + 1 := by decide +kernel
theorem d_X11_ways_17 : decode cX11_ways 17 = .ok (.iconst 0, 1) ∧ 18 = 17 + 1 := by decide +kernel
theorem d_X11_ways_18 : decode cX11_ways 18 = .ok (.iconst 1, 1) ∧ 19 = 18 + 1 := by decide +kernel
theorem d_X11_ways_19 : decode cX11_ways 19 = .ok (.invokestatic 101, 3) ∧ 22 = 19 + 3 := by decide +kernel
theorem d_X11_ways_22 : decode cX11_ways 22 = .ok (.ifCond .ne 5, 3) ∧ 25 = 22 + 3 ∧ (22 : Int) + 5 = ((27 : Nat) : Int) := by decide +kernel
theorem d_X11_ways_25 : decode cX11_ways 25 = .ok (.iconst (-1), 1) ∧ 26 = 25 + 1 := by decide +kernel
theorem d_X11_ways_26 : decode cX11_ways 26 = .ok (.ireturn, 1) := by decide +kernel
theorem d_X11_ways_27 : decode cX11_ways 27 = .ok (.iconst 0, 1) ∧ 28 = 27 + 1 := by decide +kernel
theorem d_X11_ways_28 : decode cX11_ways 28 = .ok (.istore 4, 2) ∧ 30 = 28 + 2 := by decide +kernel
theorem d_X11_ways_30 : decode cX11_ways 30 = .ok (.iload 4, 2) ∧ 32 = 30 + 2 := by decide +kernel
theorem d_X11_ways_32 : decode cX11_ways 32 = .ok (.bipush 12, 2) ∧ 34 = 32 + 2 := by decide +kernel
theorem d_X11_ways_34 : decode cX11_ways 34 = .ok (.if_icmp .ge 27, 3) ∧ 37 = 34 + 3 ∧ (34 : Int) + 27 = ((61 : Nat) : Int) := by decide +kernel
theorem d_X11_ways_37 : decode cX11_ways 37 = .ok (.aload_n 0, 1) ∧ 38 = 37 + 1 := by decide +kernel
theorem d_X11_ways_38 : decode cX11_ways 38 = .ok (.getfield 91, 3) ∧ 41 = 38 + 3 := by decide +kernel
theorem d_X11_ways_41 : decode cX11_ways 41 = .ok (.iload 4, 2) ∧ 43 = 41 + 2 := by decide +kernel
theorem d_X11_ways_43 : decode cX11_ways 43 = .ok (.iload 4, 2) ∧ 45 = 43 + 2 := by decide +kernel
theorem d_X11_ways_45 : decode cX11_ways 45 = .ok (.iload_n 1, 1) ∧ 46 = 45 + 1 := by decide +kernel
theorem d_X11_ways_46 : decode cX11_ways 46 = .ok (.if_icmp .ne 7, 3) ∧ 49 = 46 + 3 ∧ (46 : Int) + 7 = ((53 : Nat) : Int) := by decide +kernel
theorem d_X11_ways_49 : decode cX11_ways 49 = .ok (.iconst 1, 1) ∧ 50 = 49 + 1 := by decide +kernel
theorem d_X11_ways_50 : decode cX11_ways 50 = .ok (.goto 4, 3) ∧ (50 : Int) + (4) = ((54 : Nat) : Int) := by decide +kernel
theorem d_X11_ways_53 : decode cX11_ways 53 = .ok (.iconst 0, 1) ∧ 54 = 53 + 1 := by decide +kernel
theorem d_X11_ways_54 : decode cX11_ways 54 = .ok (.iastore, 1) ∧ 55 = 54 + 1 := by decide +kernel
theorem d_X11_ways_55 : decode cX11_ways 55 = .ok (.iinc 4 1, 3) ∧ 58 = 55 + 3 := by decide +kernel
theorem d_X11_ways_58 : decode cX11_ways 58 = .ok (.goto (-28), 3) ∧ (58 : Int) + ((-28)) = ((30 : Nat) : Int) := by decide +kernel
theorem d_X11_ways_61 : decode cX11_ways 61 = .ok (.iconst (-1), 1) ∧ 62 = 61 + 1 := by decide +kernel
theorem d_X11_ways_62 : decode cX11_ways 62 = .ok (.istore 4, 2) ∧ 64 = 62 + 2 := by decide +kernel
theorem d_X11_ways_64 : decode cX11_ways 64 = .ok (.iconst 0, 1) ∧ 65 = 64 + 1 := by decide +kernel
theorem d_X11_ways_65 : decode cX11_ways 65 = .ok (.istore 5, 2) ∧ 67 = 65 + 2 := by decide +kernel
theorem d_X11_ways_67 : decode cX11_ways 67 = .ok (.iconst 0, 1) ∧ 68 = 67 + 1 := by decide +kernel
theorem d_X11_ways_68 : decode cX11_ways 68 = .ok (.istore 6, 2) ∧ 70 = 68 + 2 := by decide +kernel
theorem d_X11_ways_70 : decode cX11_ways 70 = .ok (.iload 6, 2) ∧ 72 = 70 + 2 := by decide +kernel
theorem d_X11_ways_72 : decode cX11_ways 72 = .ok (.bipush 12, 2) ∧ 74 = 72 + 2 := by decide +kernel
theorem d_X11_ways_74 : decode cX11_ways 74 = .ok (.if_icmp .ge 180, 3) ∧ 77 = 74 + 3 ∧ (74 : Int) + 180 = ((254 : Nat) : Int) := by decide +kernel
theorem d_X11_ways_77 : decode cX11_ways 77 = .ok (.iload 4, 2) ∧ 79 = 77 + 2 := by decide +kernel
theorem d_X11_ways_79 : decode cX11_ways 79 = .ok (.iconst (-1), 1) ∧ 80 = 79 + 1 := by decide +kernel
theorem d_X11_ways_80 : decode cX11_ways 80 = .ok (.if_icmp .ne 17, 3) ∧ 83 = 80 + 3 ∧ (80 : Int) + 17 = ((97 : Nat) : Int) := by decide +kernel
theorem d_X11_ways_83 : decode cX11_ways 83 = .ok (.aload_n 0, 1) ∧ 84 = 83 + 1 := by decide +kernel
theorem d_X11_ways_84 : decode cX11_ways 84 = .ok (.getfield 91, 3) ∧ 87 = 84 + 3 := by decide +kernel
theorem d_X11_ways_87 : decode cX11_ways 87 = .ok (.iload_n 2, 1) ∧ 88 = 87 + 1 := by decide +kernel
theorem d_X11_ways_88 : decode cX11_ways 88 = .ok (.iaload, 1) ∧ 89 = 88 + 1 := by decide +kernel
theorem d_X11_ways_89 : decode cX11_ways 89 = .ok (.ifCond .le 8, 3) ∧ 92 = 89 + 3 ∧ (89 : Int) + 8 = ((97 : Nat) : Int) := by decide +kernel
theorem d_X11_ways_92 : decode cX11_ways 92 = .ok (.iload 6, 2) ∧ 94 = 92 + 2 := by decide +kernel
theorem d_X11_ways_94 : decode cX11_ways 94 = .ok (.goto 5, 3) ∧ (94 : Int) + (5) = ((99 : Nat) : Int) := by decide +kernel
theorem d_X11_ways_97 : decode cX11_ways 97 = .ok (.iload 4, 2) ∧ 99 = 97 + 2 := by decide +kernel
theorem d_X11_ways_99 : decode cX11_ways 99 = .ok (.istore 4, 2) ∧ 101 = 99 + 2 := by decide +kernel
theorem d_X11_ways_101 : decode cX11_ways 101 = .ok (.ldc_w 386, 3) ∧ 104 = 101 + 3 := by decide +kernel
theorem d_X11_ways_104 : decode cX11_ways 104 = .ok (.iload 5, 2) ∧ 106 = 104 + 2 := by decide +kernel
theorem d_X11_ways_106 : decode cX11_ways 106 = .ok (.aload_n 0, 1) ∧ 107 = 106 + 1 := by decide +kernel
theorem d_X11_ways_107 : decode cX11_ways 107 = .ok (.getfield 91, 3) ∧ 110 = 107 + 3 := by decide +kernel
theorem d_X11_ways_110 : decode cX11_ways 110 = .ok (.iload_n 2, 1) ∧ 111 = 110 + 1 := by decide +kernel
theorem d_X11_ways_111 : decode cX11_ways 111 = .ok (.iaload, 1) ∧ 112 = 111 + 1 := by decide +kernel
theorem d_X11_ways_112 : decode cX11_ways 112 = .ok (.iadd, 1) ∧ 113 = 112 + 1 := by decide +kernel
theorem d_X11_ways_113 : decode cX11_ways 113 = .ok (.invokestatic 377, 3) ∧ 116 = 113 + 3 := by decide +kernel
theorem d_X11_ways_116 : decode cX11_ways 116 = .ok (.istore 5, 2) ∧ 118 = 116 + 2 := by decide +kernel
theorem d_X11_ways_118 : decode cX11_ways 118 = .ok (.iconst 0, 1) ∧ 119 = 118 + 1 := by decide +kernel
theorem d_X11_ways_119 : decode cX11_ways 119 = .ok (.istore 7, 2) ∧ 121 = 119 + 2 := by decide +kernel
theorem d_X11_ways_121 : decode cX11_ways 121 = .ok (.iload 7, 2) ∧ 123 = 121 + 2 := by decide +kernel
theorem d_X11_ways_123 : decode cX11_ways 123 = .ok (.bipush 12, 2) ∧ 125 = 123 + 2 := by decide +kernel
theorem d_X11_ways_125 : decode cX11_ways 125 = .ok (.if_icmp .ge 17, 3) ∧ 128 = 125 + 3 ∧ (125 : Int) + 17 = ((142 : Nat) : Int) := by decide +kernel
theorem d_X11_ways_128 : decode cX11_ways 128 = .ok (.aload_n 0, 1) ∧ 129 = 128 + 1 := by decide +kernel
theorem d_X11_ways_129 : decode cX11_ways 129 = .ok (.getfield 94, 3) ∧ 132 = 129 + 3 := by decide +kernel
theorem d_X11_ways_132 : decode cX11_ways 132 = .ok (.iload 7, 2) ∧ 134 = 132 + 2 := by decide +kernel
theorem d_X11_ways_134 : decode cX11_ways 134 = .ok (.iconst 0, 1) ∧ 135 = 134 + 1 := by decide +kernel
theorem d_X11_ways_135 : decode cX11_ways 135 = .ok (.iastore, 1) ∧ 136 = 135 + 1 := by decide +kernel
theorem d_X11_ways_136 : decode cX11_ways 136 = .ok (.iinc 7 1, 3) ∧ 139 = 136 + 3 := by decide +kernel
theorem d_X11_ways_139 : decode cX11_ways 139 = .ok (.goto (-18), 3) ∧ (139 : Int) + ((-18)) = ((121 : Nat) : Int) := by decide +kernel
theorem d_X11_ways_142 : decode cX11_ways 142 = .ok (.iconst 0, 1) ∧ 143 = 142 + 1 := by decide +kernel
theorem d_X11_ways_143 : decode cX11_ways 143 = .ok (.istore 7, 2) ∧ 145 = 143 + 2 := by decide +kernel
theorem d_X11_ways_145 : decode cX11_ways 145 = .ok (.iload 7, 2) ∧ 147 = 145 + 2 := by decide +kernel
theorem d_X11_ways_147 : decode cX11_ways 147 = .ok (.aload_n 0, 1) ∧ 148 = 147 + 1 := by decide +kernel
theorem d_X11_ways_148 : decode cX11_ways 148 = .ok (.getfield 7, 3) ∧ 151 = 148 + 3 := by decide +kernel
theorem d_X11_ways_151 : decode cX11_ways 151 = .ok (.iconst 3, 1) ∧ 152 = 151 + 1 := by decide +kernel
theorem d_X11_ways_152 : decode cX11_ways 152 = .ok (.iaload, 1) ∧ 153 = 152 + 1 := by decide +kernel
theorem d_X11_ways_153 : decode cX11_ways 153 = .ok (.if_icmp .ge 65, 3) ∧ 156 = 153 + 3 ∧ (153 : Int) + 65 = ((218 : Nat) : Int) := by decide +kernel
theorem d_X11_ways_156 : decode cX11_ways 156 = .ok (.aload_n 0, 1) ∧ 157 = 156 + 1 := by decide +kernel
theorem d_X11_ways_157 : decode cX11_ways 157 = .ok (.getfield 7, 3) ∧ 160 = 157 + 3 := by decide +kernel
theorem d_X11_ways_160 : decode cX11_ways 160 = .ok (.sipush 320, 3) ∧ 163 = 160 + 3 := by decide +kernel
theorem d_X11_ways_163 : decode cX11_ways 163 = .ok (.iconst 2, 1) ∧ 164 = 163 + 1 := by decide +kernel
theorem d_X11_ways_164 : decode cX11_ways 164 = .ok (.iload 7, 2) ∧ 166 = 164 + 2 := by decide +kernel
theorem d_X11_ways_166 : decode cX11_ways 166 = .ok (.imul, 1) ∧ 167 = 166 + 1 := by decide +kernel
theorem d_X11_ways_167 : decode cX11_ways 167 = .ok (.iadd, 1) ∧ 168 = 167 + 1 := by decide +kernel
theorem d_X11_ways_168 : decode cX11_ways 168 = .ok (.iconst 1, 1) ∧ 169 = 168 + 1 := by decide +kernel
theorem d_X11_ways_169 : decode cX11_ways 169 = .ok (.iadd, 1) ∧ 170 = 169 + 1 := by decide +kernel
theorem d_X11_ways_170 : decode cX11_ways 170 = .ok (.iaload, 1) ∧ 171 = 170 + 1 := by decide +kernel
theorem d_X11_ways_171 : decode cX11_ways 171 = .ok (.istore 8, 2) ∧ 173 = 171 + 2 := by decide +kernel
theorem d_X11_ways_173 : decode cX11_ways 173 = .ok (.aload_n 0, 1) ∧ 174 = 173 + 1 := by decide +kernel
theorem d_X11_ways_174 : decode cX11_ways 174 = .ok (.getfield 94, 3) ∧ 177 = 174 + 3 := by decide +kernel
theorem d_X11_ways_177 : decode cX11_ways 177 = .ok (.iload 8, 2) ∧ 179 = 177 + 2 := by decide +kernel
theorem d_X11_ways_179 : decode cX11_ways 179 = .ok (.ldc_w 386, 3) ∧ 182 = 179 + 3 := by decide +kernel
theorem d_X11_ways_182 : decode cX11_ways 182 = .ok (.aload_n 0, 1) ∧ 183 = 182 + 1 := by decide +kernel
theorem d_X11_ways_183 : decode cX11_ways 183 = .ok (.getfield 94, 3) ∧ 186 = 183 + 3 := by decide +kernel
theorem d_X11_ways_186 : decode cX11_ways 186 = .ok (.iload 8, 2) ∧ 188 = 186 + 2 := by decide +kernel
theorem d_X11_ways_188 : decode cX11_ways 188 = .ok (.iaload, 1) ∧ 189 = 188 + 1 := by decide +kernel
theorem d_X11_ways_189 : decode cX11_ways 189 = .ok (.aload_n 0, 1) ∧ 190 = 189 + 1 := by decide +kernel
theorem d_X11_ways_190 : decode cX11_ways 190 = .ok (.getfield 91, 3) ∧ 193 = 190 + 3 := by decide +kernel
theorem d_X11_ways_193 : decode cX11_ways 193 = .ok (.aload_n 0, 1) ∧ 194 = 193 + 1 := by decide +kernel
theorem d_X11_ways_194 : decode cX11_ways 194 = .ok (.getfield 7, 3) ∧ 197 = 194 + 3 := by decide +kernel
theorem d_X11_ways_197 : decode cX11_ways 197 = .ok (.sipush 320, 3) ∧ 200 = 197 + 3 := by decide +kernel
theorem d_X11_ways_200 : decode cX11_ways 200 = .ok (.iconst 2, 1) ∧ 201 = 200 + 1 := by decide +kernel
theorem d_X11_ways_201 : decode cX11_ways 201 = .ok (.iload 7, 2) ∧ 203 = 201 + 2 := by decide +kernel
theorem d_X11_ways_203 : decode cX11_ways 203 = .ok (.imul, 1) ∧ 204 = 203 + 1 := by decide +kernel
theorem d_X11_ways_204 : decode cX11_ways 204 = .ok (.iadd, 1) ∧ 205 = 204 + 1 := by decide +kernel
theorem d_X11_ways_205 : decode cX11_ways 205 = .ok (.iaload, 1) ∧ 206 = 205 + 1 := by decide +kernel
theorem d_X11_ways_206 : decode cX11_ways 206 = .ok (.iaload, 1) ∧ 207 = 206 + 1 := by decide +kernel
theorem d_X11_ways_207 : decode cX11_ways 207 = .ok (.iadd, 1) ∧ 208 = 207 + 1 := by decide +kernel
theorem d_X11_ways_208 : decode cX11_ways 208 = .ok (.invokestatic 377, 3) ∧ 211 = 208 + 3 := by decide +kernel
theorem d_X11_ways_211 : decode cX11_ways 211 = .ok (.iastore, 1) ∧ 212 = 211 + 1 := by decide +kernel
theorem d_X11_ways_212 : decode cX11_ways 212 = .ok (.iinc 7 1, 3) ∧ 215 = 212 + 3 := by decide +kernel
theorem d_X11_ways_215 : decode cX11_ways 215 = .ok (.goto (-70), 3) ∧ (215 : Int) + ((-70)) = ((145 : Nat) : Int) := by decide +kernel
theorem d_X11_ways_218 : decode cX11_ways 218 = .ok (.iconst 0, 1) ∧ 219 = 218 + 1 := by decide +kernel
theorem d_X11_ways_219 : decode cX11_ways 219 = .ok (.istore 7, 2) ∧ 221 = 219 + 2 := by decide +kernel
theorem d_X11_ways_221 : decode cX11_ways 221 = .ok (.iload 7, 2) ∧ 223 = 221 + 2 := by decide +kernel
theorem d_X11_ways_223 : decode cX11_ways 223 = .ok (.bipush 12, 2) ∧ 225 = 223 + 2 := by decide +kernel
theorem d_X11_ways_225 : decode cX11_ways 225 = .ok (.if_icmp .ge 23, 3) ∧ 228 = 225 + 3 ∧ (225 : Int) + 23 = ((248 : Nat) : Int) := by decide +kernel
theorem d_X11_ways_228 : decode cX11_ways 228 = .ok (.aload_n 0, 1) ∧ 229 = 228 + 1 := by decide +kernel
theorem d_X11_ways_229 : decode cX11_ways 229 = .ok (.getfield 91, 3) ∧ 232 = 229 + 3 := by decide +kernel
theorem d_X11_ways_232 : decode cX11_ways 232 = .ok (.iload 7, 2) ∧ 234 = 232 + 2 := by decide +kernel
theorem d_X11_ways_234 : decode cX11_ways 234 = .ok (.aload_n 0, 1) ∧ 235 = 234 + 1 := by decide +kernel
theorem d_X11_ways_235 : decode cX11_ways 235 = .ok (.getfield 94, 3) ∧ 238 = 235 + 3 := by decide +kernel
theorem d_X11_ways_238 : decode cX11_ways 238 = .ok (.iload 7, 2) ∧ 240 = 238 + 2 := by decide +kernel
theorem d_X11_ways_240 : decode cX11_ways 240 = .ok (.iaload, 1) ∧ 241 = 240 + 1 := by decide +kernel
theorem d_X11_ways_241 : decode cX11_ways 241 = .ok (.iastore, 1) ∧ 242 = 241 + 1 := by decide +kernel
theorem d_X11_ways_242 : decode cX11_ways 242 = .ok (.iinc 7 1, 3) ∧ 245 = 242 + 3 := by decide +kernel
theorem d_X11_ways_245 : decode cX11_ways 245 = .ok (.goto (-24), 3) ∧ (245 : Int) + ((-24)) = ((221 : Nat) : Int) := by decide +kernel
theorem d_X11_ways_248 : decode cX11_ways 248 = .ok (.iinc 6 1, 3) ∧ 251 = 248 + 3 := by decide +kernel
theorem d_X11_ways_251 : decode cX11_ways 251 = .ok (.goto (-181), 3) ∧ (251 : Int) + ((-181)) = ((70 : Nat) : Int) := by decide +kernel
theorem d_X11_ways_254 : decode cX11_ways 254 = .ok (.iload_n 3, 1) ∧ 255 = 254 + 1 := by decide +kernel
theorem d_X11_ways_255 : decode cX11_ways 255 = .ok (.ifCond .ne 8, 3) ∧ 258 = 255 + 3 ∧ (255 : Int) + 8 = ((263 : Nat) : Int) := by decide +kernel
theorem d_X11_ways_258 : decode cX11_ways 258 = .ok (.iload 4, 2) ∧ 260 = 258 + 2 := by decide +kernel
theorem d_X11_ways_260 : decode cX11_ways 260 = .ok (.goto 5, 3) ∧ (260 : Int) + (5) = ((265 : Nat) : Int) := by decide +kernel
theorem d_X11_ways_263 : decode cX11_ways 263 = .ok (.iload 5, 2) ∧ 265 = 263 + 2 := by decide +kernel
theorem d_X11_ways_265 : decode cX11_ways 265 = .ok (.ireturn, 1) := by decide +kernel
theorem d_X11_gaps_0 : decode cX11_gaps 0 = .ok (.aload_n 0, 1) ∧ 1 = 0 + 1 := by decide +kernel
theorem d_X11_gaps_1 : decode cX11_gaps 1 = .ok (.iload_n 1, 1) ∧ 2 = 1 + 1 := by decide +kernel
theorem d_X11_gaps_2 : decode cX11_gaps 2 = .ok (.iload_n 2, 1) ∧ 3 = 2 + 1 := by decide +kernel
theorem d_X11_gaps_3 : decode cX11_gaps 3 = .ok (.iconst 0, 1) ∧ 4 = 3 + 1 := by decide +kernel
theorem d_X11_gaps_4 : decode cX11_gaps 4 = .ok (.invokevirtual 135, 3) ∧ 7 = 4 + 3 := by decide +kernel
theorem d_X11_gaps_7 : decode cX11_gaps 7 = .ok (.ifCond .ne 5, 3) ∧ 10 = 7 + 3 ∧ (7 : Int) + 5 = ((12 : Nat) : Int) := by decide +kernel
theorem d_X11_gaps_10 : decode cX11_gaps 10 = .ok (.iconst 0, 1) ∧ 11 = 10 + 1 := by decide +kernel
theorem d_X11_gaps_11 : decode cX11_gaps 11 = .ok (.ireturn, 1) := by decide +kernel
theorem d_X11_gaps_12 : decode cX11_gaps 12 = .ok (.aload_n 0, 1) ∧ 13 = 12 + 1 := by decide +kernel
theorem d_X11_gaps_13 : decode cX11_gaps 13 = .ok (.getfield 119, 3) ∧ 16 = 13 + 3 := by decide +kernel
theorem d_X11_gaps_16 : decode cX11_gaps 16 = .ok (.lstore_n 3, 1) ∧ 17 = 16 + 1 := by decide +kernel
theorem d_X11_gaps_17 : decode cX11_gaps 17 = .ok (.aload_n 0, 1) ∧ 18 = 17 + 1 := by decide +kernel
theorem d_X11_gaps_18 : decode cX11_gaps 18 = .ok (.getfield 126, 3) ∧ 21 = 18 + 3 := by decide +kernel
theorem d_X11_gaps_21 : decode cX11_gaps 21 = .ok (.lstore 5, 2) ∧ 23 = 21 + 2 := by decide +kernel
theorem d_X11_gaps_23 : decode cX11_gaps 23 = .ok (.aload_n 0, 1) ∧ 24 = 23 + 1 := by decide +kernel
theorem d_X11_gaps_24 : decode cX11_gaps 24 = .ok (.iload_n 1, 1) ∧ 25 = 24 + 1 := by decide +kernel
theorem d_X11_gaps_25 : decode cX11_gaps 25 = .ok (.iload_n 2, 1) ∧ 26 = 25 + 1 := by decide +kernel
theorem d_X11_gaps_26 : decode cX11_gaps 26 = .ok (.iconst 1, 1) ∧ 27 = 26 + 1 := by decide +kernel
theorem d_X11_gaps_27 : decode cX11_gaps 27 = .ok (.invokevirtual 135, 3) ∧ 30 = 27 + 3 := by decide +kernel
theorem d_X11_gaps_30 : decode cX11_gaps 30 = .ok (.ifCond .ne 5, 3) ∧ 33 = 30 + 3 ∧ (30 : Int) + 5 = ((35 : Nat) : Int) := by decide +kernel
theorem d_X11_gaps_33 : decode cX11_gaps 33 = .ok (.iconst 0, 1) ∧ 34 = 33 + 1 := by decide +kernel
theorem d_X11_gaps_34 : decode cX11_gaps 34 = .ok (.ireturn, 1) := by decide +kernel
theorem d_X11_gaps_35 : decode cX11_gaps 35 = .ok (.aload_n 0, 1) ∧ 36 = 35 + 1 := by decide +kernel
theorem d_X11_gaps_36 : decode cX11_gaps 36 = .ok (.lload_n 3, 1) ∧ 37 = 36 + 1 := by decide +kernel
theorem d_X11_gaps_37 : decode cX11_gaps 37 = .ok (.aload_n 0, 1) ∧ 38 = 37 + 1 := by decide +kernel
theorem d_X11_gaps_38 : decode cX11_gaps 38 = .ok (.getfield 126, 3) ∧ 41 = 38 + 3 := by decide +kernel
theorem d_X11_gaps_41 : decode cX11_gaps 41 = .ok (.lmul, 1) ∧ 42 = 41 + 1 := by decide +kernel
theorem d_X11_gaps_42 : decode cX11_gaps 42 = .ok (.aload_n 0, 1) ∧ 43 = 42 + 1 := by decide +kernel
theorem d_X11_gaps_43 : decode cX11_gaps 43 = .ok (.getfield 119, 3) ∧ 46 = 43 + 3 := by decide +kernel
theorem d_X11_gaps_46 : decode cX11_gaps 46 = .ok (.lload 5, 2) ∧ 48 = 46 + 2 := by decide +kernel
theorem d_X11_gaps_48 : decode cX11_gaps 48 = .ok (.lmul, 1) ∧ 49 = 48 + 1 := by decide +kernel
theorem d_X11_gaps_49 : decode cX11_gaps 49 = .ok (.lsub, 1) ∧ 50 = 49 + 1 := by decide +kernel
theorem d_X11_gaps_50 : decode cX11_gaps 50 = .ok (.invokestatic 353, 3) ∧ 53 = 50 + 3 := by decide +kernel
theorem d_X11_gaps_53 : decode cX11_gaps 53 = .ok (.putfield 387, 3) ∧ 56 = 53 + 3 := by decide +kernel
theorem d_X11_gaps_56 : decode cX11_gaps 56 = .ok (.aload_n 0, 1) ∧ 57 = 56 + 1 := by decide +kernel
theorem d_X11_gaps_57 : decode cX11_gaps 57 = .ok (.lload 5, 2) ∧ 59 = 57 + 2 := by decide +kernel
theorem d_X11_gaps_59 : decode cX11_gaps 59 = .ok (.aload_n 0, 1) ∧ 60 = 59 + 1 := by decide +kernel
theorem d_X11_gaps_60 : decode cX11_gaps 60 = .ok (.getfield 126, 3) ∧ 63 = 60 + 3 := by decide +kernel
theorem d_X11_gaps_63 : decode cX11_gaps 63 = .ok (.lmul, 1) ∧ 64 = 63 + 1 := by decide +kernel
theorem d_X11_gaps_64 : decode cX11_gaps 64 = .ok (.putfield 390, 3) ∧ 67 = 64 + 3 := by decide +kernel
theorem d_X11_gaps_67 : decode cX11_gaps 67 = .ok (.iconst 1, 1) ∧ 68 = 67 + 1 := by decide +kernel
theorem d_X11_gaps_68 : decode cX11_gaps 68 = .ok (.ireturn, 1) := by decide +kernel
theorem d_X11_gap_0 : decode cX11_gap 0 = .ok (.aload_n 0, 1) ∧ 1 = 0 + 1 := by decide +kernel
theorem d_X11_gap_1 : decode cX11_gap 1 = .ok (.iload_n 1, 1) ∧ 2 = 1 + 1 := by decide +kernel
theorem d_X11_gap_2 : decode cX11_gap 2 = .ok (.invokevirtual 356, 3) ∧ 5 = 2 + 3 := by decide +kernel
theorem d_X11_gap_5 : decode cX11_gap 5 = .ok (.ifCond .eq 11, 3) ∧ 8 = 5 + 3 ∧ (5 : Int) + 11 = ((16 : Nat) : Int) := by decide +kernel
theorem d_X11_gap_8 : decode cX11_gap 8 = .ok (.aload_n 0, 1) ∧ 9 = 8 + 1 := by decide +kernel
theorem d_X11_gap_9 : decode cX11_gap 9 = .ok (.iload_n 2, 1) ∧ 10 = 9 + 1 := by decide +kernel
theorem d_X11_gap_10 : decode cX11_gap 10 = .ok (.invokevirtual 109, 3) ∧ 13 = 10 + 3 := by decide +kernel
theorem d_X11_gap_13 : decode cX11_gap 13 = .ok (.ifCond .ne 5, 3) ∧ 16 = 13 + 3 ∧ (13 : Int) + 5 = ((18 : Nat) : Int) := by decide +kernel
theorem d_X11_gap_16 : decode cX11_gap 16 = .ok (.iconst (-1), 1) ∧ 17 = 16 + 1 := by decide +kernel
theorem d_X11_gap_17 : decode cX11_gap 17 = .ok (.ireturn, 1) := by decide +kernel
theorem d_X11_gap_18 : decode cX11_gap 18 = .ok (.aload_n 0, 1) ∧ 19 = 18 + 1 := by decide +kernel
theorem d_X11_gap_19 : decode cX11_gap 19 = .ok (.iload_n 1, 1) ∧ 20 = 19 + 1 := by decide +kernel
theorem d_X11_gap_20 : decode cX11_gap 20 = .ok (.invokevirtual 359, 3) ∧ 23 = 20 + 3 := by decide +kernel
theorem d_X11_gap_23 : decode cX11_gap 23 = .ok (.aload_n 0, 1) ∧ 24 = 23 + 1 := by decide +kernel
theorem d_X11_gap_24 : decode cX11_gap 24 = .ok (.getfield 343, 3) ∧ 27 = 24 + 3 := by decide +kernel
theorem d_X11_gap_27 : decode cX11_gap 27 = .ok (.ifCond .eq 15, 3) ∧ 30 = 27 + 3 ∧ (27 : Int) + 15 = ((42 : Nat) : Int) := by decide +kernel
theorem d_X11_gap_30 : decode cX11_gap 30 = .ok (.aload_n 0, 1) ∧ 31 = 30 + 1 := by decide +kernel
theorem d_X11_gap_31 : decode cX11_gap 31 = .ok (.iload_n 2, 1) ∧ 32 = 31 + 1 := by decide +kernel
theorem d_X11_gap_32 : decode cX11_gap 32 = .ok (.aload_n 0, 1) ∧ 33 = 32 + 1 := by decide +kernel
theorem d_X11_gap_33 : decode cX11_gap 33 = .ok (.invokevirtual 131, 3) ∧ 36 = 33 + 3 := by decide +kernel
theorem d_X11_gap_36 : decode cX11_gap 36 = .ok (.invokevirtual 393, 3) ∧ 39 = 36 + 3 := by decide +kernel
theorem d_X11_gap_39 : decode cX11_gap 39 = .ok (.ifCond .ne 5, 3) ∧ 42 = 39 + 3 ∧ (39 : Int) + 5 = ((44 : Nat) : Int) := by decide +kernel
theorem d_X11_gap_42 : decode cX11_gap 42 = .ok (.iconst (-1), 1) ∧ 43 = 42 + 1 := by decide +kernel
theorem d_X11_gap_43 : decode cX11_gap 43 = .ok (.ireturn, 1) := by decide +kernel
theorem d_X11_gap_44 : decode cX11_gap 44 = .ok (.aload_n 0, 1) ∧ 45 = 44 + 1 := by decide +kernel
theorem d_X11_gap_45 : decode cX11_gap 45 = .ok (.getfield 387, 3) ∧ 48 = 45 + 3 := by decide +kernel
theorem d_X11_gap_48 : decode cX11_gap 48 = .ok (.lstore_n 3, 1) ∧ 49 = 48 + 1 := by decide +kernel
theorem d_X11_gap_49 : decode cX11_gap 49 = .ok (.aload_n 0, 1) ∧ 50 = 49 + 1 := by decide +kernel
theorem d_X11_gap_50 : decode cX11_gap 50 = .ok (.getfield 390, 3) ∧ 53 = 50 + 3 := by decide +kernel
theorem d_X11_gap_53 : decode cX11_gap 53 = .ok (.lstore 5, 2) ∧ 55 = 53 + 2 := by decide +kernel
theorem d_X11_gap_55 : decode cX11_gap 55 = .ok (.iconst 0, 1) ∧ 56 = 55 + 1 := by decide +kernel
theorem d_X11_gap_56 : decode cX11_gap 56 = .ok (.istore 7, 2) ∧ 58 = 56 + 2 := by decide +kernel
theorem d_X11_gap_58 : decode cX11_gap 58 = .ok (.iconst 0, 1) ∧ 59 = 58 + 1 := by decide +kernel
theorem d_X11_gap_59 : decode cX11_gap 59 = .ok (.istore 8, 2) ∧ 61 = 59 + 2 := by decide +kernel
theorem d_X11_gap_61 : decode cX11_gap 61 = .ok (.iload 8, 2) ∧ 63 = 61 + 2 := by decide +kernel
theorem d_X11_gap_63 : decode cX11_gap 63 = .ok (.aload_n 0, 1) ∧ 64 = 63 + 1 := by decide +kernel
theorem d_X11_gap_64 : decode cX11_gap 64 = .ok (.getfield 343, 3) ∧ 67 = 64 + 3 := by decide +kernel
theorem d_X11_gap_67 : decode cX11_gap 67 = .ok (.if_icmp .ge 51, 3) ∧ 70 = 67 + 3 ∧ (67 : Int) + 51 = ((118 : Nat) : Int) := by decide +kernel
theorem d_X11_gap_70 : decode cX11_gap 70 = .ok (.iload 7, 2) ∧ 72 = 70 + 2 := by decide +kernel
theorem d_X11_gap_72 : decode cX11_gap 72 = .ok (.aload_n 0, 1) ∧ 73 = 72 + 1 := by decide +kernel
theorem d_X11_gap_73 : decode cX11_gap 73 = .ok (.iload_n 2, 1) ∧ 74 = 73 + 1 := by decide +kernel
theorem d_X11_gap_74 : decode cX11_gap 74 = .ok (.aload_n 0, 1) ∧ 75 = 74 + 1 := by decide +kernel
theorem d_X11_gap_75 : decode cX11_gap 75 = .ok (.getfield 79, 3) ∧ 78 = 75 + 3 := by decide +kernel
theorem d_X11_gap_78 : decode cX11_gap 78 = .ok (.iload 8, 2) ∧ 80 = 78 + 2 := by decide +kernel
theorem d_X11_gap_80 : decode cX11_gap 80 = .ok (.iaload, 1) ∧ 81 = 80 + 1 := by decide +kernel
theorem d_X11_gap_81 : decode cX11_gap 81 = .ok (.invokevirtual 393, 3) ∧ 84 = 81 + 3 := by decide +kernel
theorem d_X11_gap_84 : decode cX11_gap 84 = .ok (.ifCond .eq 24, 3) ∧ 87 = 84 + 3 ∧ (84 : Int) + 24 = ((108 : Nat) : Int) := by decide +kernel
theorem d_X11_gap_87 : decode cX11_gap 87 = .ok (.aload_n 0, 1) ∧ 88 = 87 + 1 := by decide +kernel
theorem d_X11_gap_88 : decode cX11_gap 88 = .ok (.getfield 387, 3) ∧ 91 = 88 + 3 := by decide +kernel
theorem d_X11_gap_91 : decode cX11_gap 91 = .ok (.lload 5, 2) ∧ 93 = 91 + 2 := by decide +kernel
theorem d_X11_gap_93 : decode cX11_gap 93 = .ok (.lmul, 1) ∧ 94 = 93 + 1 := by decide +kernel
theorem d_X11_gap_94 : decode cX11_gap 94 = .ok (.lload_n 3, 1) ∧ 95 = 94 + 1 := by decide +kernel
theorem d_X11_gap_95 : decode cX11_gap 95 = .ok (.aload_n 0, 1) ∧ 96 = 95 + 1 := by decide +kernel
theorem d_X11_gap_96 : decode cX11_gap 96 = .ok (.getfield 390, 3) ∧ 99 = 96 + 3 := by decide +kernel
theorem d_X11_gap_99 : decode cX11_gap 99 = .ok (.lmul, 1) ∧ 100 = 99 + 1 := by decide +kernel
theorem d_X11_gap_100 : decode cX11_gap 100 = .ok (.lcmp, 1) ∧ 101 = 100 + 1 := by decide +kernel
theorem d_X11_gap_101 : decode cX11_gap 101 = .ok (.ifCond .lt 7, 3) ∧ 104 = 101 + 3 ∧ (101 : Int) + 7 = ((108 : Nat) : Int) := by decide +kernel
theorem d_X11_gap_104 : decode cX11_gap 104 = .ok (.iconst 1, 1) ∧ 105 = 104 + 1 := by decide +kernel
theorem d_X11_gap_105 : decode cX11_gap 105 = .ok (.goto 4, 3) ∧ (105 : Int) + (4) = ((109 : Nat) : Int) := by decide +kernel
theorem d_X11_gap_108 : decode cX11_gap 108 = .ok (.iconst 0, 1) ∧ 109 = 108 + 1 := by decide +kernel
theorem d_X11_gap_109 : decode cX11_gap 109 = .ok (.iadd, 1) ∧ 110 = 109 + 1 := by decide +kernel
theorem d_X11_gap_110 : decode cX11_gap 110 = .ok (.istore 7, 2) ∧ 112 = 110 + 2 := by decide +kernel
theorem d_X11_gap_112 : decode cX11_gap 112 = .ok (.iinc 8 1, 3) ∧ 115 = 112 + 3 := by decide +kernel
theorem d_X11_gap_115 : decode cX11_gap 115 = .ok (.goto (-54), 3) ∧ (115 : Int) + ((-54)) = ((61 : Nat) : Int) := by decide +kernel
theorem d_X11_gap_118 : decode cX11_gap 118 = .ok (.iload 7, 2) ∧ 120 = 118 + 2 := by decide +kernel
theorem d_X11_gap_120 : decode cX11_gap 120 = .ok (.ireturn, 1) := by decide +kernel
theorem d_X11_step_0 : decode cX11_step 0 = .ok (.iload_n 1, 1) ∧ 1 = 0 + 1 := by decide +kernel
theorem d_X11_step_1 : decode cX11_step 1 = .ok (.bipush (-100), 2) ∧ 3 = 1 + 2 := by decide +kernel
theorem d_X11_step_3 : decode cX11_step 3 = .ok (.sipush 200, 3) ∧ 6 = 3 + 3 := by decide +kernel
theorem d_X11_step_6 : decode cX11_step 6 = .ok (.invokestatic 101, 3) ∧ 9 = 6 + 3 := by decide +kernel
theorem d_X11_step_9 : decode cX11_step 9 = .ok (.ifCond .eq 25, 3) ∧ 12 = 9 + 3 ∧ (9 : Int) + 25 = ((34 : Nat) : Int) := by decide +kernel
theorem d_X11_step_12 : decode cX11_step 12 = .ok (.iload_n 2, 1) ∧ 13 = 12 + 1 := by decide +kernel
theorem d_X11_step_13 : decode cX11_step 13 = .ok (.iload_n 1, 1) ∧ 14 = 13 + 1 := by decide +kernel
theorem d_X11_step_14 : decode cX11_step 14 = .ok (.sipush 200, 3) ∧ 17 = 14 + 3 := by decide +kernel
theorem d_X11_step_17 : decode cX11_step 17 = .ok (.invokestatic 101, 3) ∧ 20 = 17 + 3 := by decide +kernel
theorem d_X11_step_20 : decode cX11_step 20 = .ok (.ifCond .eq 14, 3) ∧ 23 = 20 + 3 ∧ (20 : Int) + 14 = ((34 : Nat) : Int) := by decide +kernel
theorem d_X11_step_23 : decode cX11_step 23 = .ok (.aload_n 0, 1) ∧ 24 = 23 + 1 := by decide +kernel
theorem d_X11_step_24 : decode cX11_step 24 = .ok (.getfield 7, 3) ∧ 27 = 24 + 3 := by decide +kernel
theorem d_X11_step_27 : decode cX11_step 27 = .ok (.iconst 4, 1) ∧ 28 = 27 + 1 := by decide +kernel
theorem d_X11_step_28 : decode cX11_step 28 = .ok (.iaload, 1) ∧ 29 = 28 + 1 := by decide +kernel
theorem d_X11_step_29 : decode cX11_step 29 = .ok (.bipush 8, 2) ∧ 31 = 29 + 2 := by decide +kernel
theorem d_X11_step_31 : decode cX11_step 31 = .ok (.if_icmp .ne 5, 3) ∧ 34 = 31 + 3 ∧ (31 : Int) + 5 = ((36 : Nat) : Int) := by decide +kernel
theorem d_X11_step_34 : decode cX11_step 34 = .ok (.iconst (-1), 1) ∧ 35 = 34 + 1 := by decide +kernel
theorem d_X11_step_35 : decode cX11_step 35 = .ok (.ireturn, 1) := by decide +kernel
theorem d_X11_step_36 : decode cX11_step 36 = .ok (.aload_n 0, 1) ∧ 37 = 36 + 1 := by decide +kernel
theorem d_X11_step_37 : decode cX11_step 37 = .ok (.getfield 7, 3) ∧ 40 = 37 + 3 := by decide +kernel
theorem d_X11_step_40 : decode cX11_step 40 = .ok (.sipush 360, 3) ∧ 43 = 40 + 3 := by decide +kernel
theorem d_X11_step_43 : decode cX11_step 43 = .ok (.iconst 2, 1) ∧ 44 = 43 + 1 := by decide +kernel
theorem d_X11_step_44 : decode cX11_step 44 = .ok (.aload_n 0, 1) ∧ 45 = 44 + 1 := by decide +kernel
theorem d_X11_step_45 : decode cX11_step 45 = .ok (.getfield 7, 3) ∧ 48 = 45 + 3 := by decide +kernel
theorem d_X11_step_48 : decode cX11_step 48 = .ok (.iconst 4, 1) ∧ 49 = 48 + 1 := by decide +kernel
theorem d_X11_step_49 : decode cX11_step 49 = .ok (.iaload, 1) ∧ 50 = 49 + 1 := by decide +kernel
theorem d_X11_step_50 : decode cX11_step 50 = .ok (.imul, 1) ∧ 51 = 50 + 1 := by decide +kernel
theorem d_X11_step_51 : decode cX11_step 51 = .ok (.iadd, 1) ∧ 52 = 51 + 1 := by decide +kernel
theorem d_X11_step_52 : decode cX11_step 52 = .ok (.iload_n 1, 1) ∧ 53 = 52 + 1 := by decide +kernel
theorem d_X11_step_53 : decode cX11_step 53 = .ok (.iastore, 1) ∧ 54 = 53 + 1 := by decide +kernel
theorem d_X11_step_54 : decode cX11_step 54 = .ok (.aload_n 0, 1) ∧ 55 = 54 + 1 := by decide +kernel
theorem d_X11_step_55 : decode cX11_step 55 = .ok (.getfield 7, 3) ∧ 58 = 55 + 3 := by decide +kernel
theorem d_X11_step_58 : decode cX11_step 58 = .ok (.sipush 360, 3) ∧ 61 = 58 + 3 := by decide +kernel
theorem d_X11_step_61 : decode cX11_step 61 = .ok (.iconst 2, 1) ∧ 62 = 61 + 1 := by decide +kernel
theorem d_X11_step_62 : decode cX11_step 62 = .ok (.aload_n 0, 1) ∧ 63 = 62 + 1 := by decide +kernel
theorem d_X11_step_63 : decode cX11_step 63 = .ok (.getfield 7, 3) ∧ 66 = 63 + 3 := by decide +kernel
theorem d_X11_step_66 : decode cX11_step 66 = .ok (.iconst 4, 1) ∧ 67 = 66 + 1 := by decide +kernel
theorem d_X11_step_67 : decode cX11_step 67 = .ok (.iaload, 1) ∧ 68 = 67 + 1 := by decide +kernel
theorem d_X11_step_68 : decode cX11_step 68 = .ok (.imul, 1) ∧ 69 = 68 + 1 := by decide +kernel
theorem d_X11_step_69 : decode cX11_step 69 = .ok (.iadd, 1) ∧ 70 = 69 + 1 := by decide +kernel
theorem d_X11_step_70 : decode cX11_step 70 = .ok (.iconst 1, 1) ∧ 71 = 70 + 1 := by decide +kernel
theorem d_X11_step_71 : decode cX11_step 71 = .ok (.iadd, 1) ∧ 72 = 71 + 1 := by decide +kernel
theorem d_X11_step_72 : decode cX11_step 72 = .ok (.iload_n 2, 1) ∧ 73 = 72 + 1 := by decide +kernel
theorem d_X11_step_73 : decode cX11_step 73 = .ok (.iastore, 1) ∧ 74 = 73 + 1 := by decide +kernel
theorem d_X11_step_74 : decode cX11_step 74 = .ok (.aload_n 0, 1) ∧ 75 = 74 + 1 := by decide +kernel
theorem d_X11_step_75 : decode cX11_step 75 = .ok (.getfield 7, 3) ∧ 78 = 75 + 3 := by decide +kernel
theorem d_X11_step_78 : decode cX11_step 78 = .ok (.iconst 4, 1) ∧ 79 = 78 + 1 := by decide +kernel
theorem d_X11_step_79 : decode cX11_step 79 = .ok (.dup2, 1) ∧ 80 = 79 + 1 := by decide +kernel
theorem d_X11_step_80 : decode cX11_step 80 = .ok (.iaload, 1) ∧ 81 = 80 + 1 := by decide +kernel
theorem d_X11_step_81 : decode cX11_step 81 = .ok (.iconst 1, 1) ∧ 82 = 81 + 1 := by decide +kernel
theorem d_X11_step_82 : decode cX11_step 82 = .ok (.iadd, 1) ∧ 83 = 82 + 1 := by decide +kernel
theorem d_X11_step_83 : decode cX11_step 83 = .ok (.iastore, 1) ∧ 84 = 83 + 1 := by decide +kernel
theorem d_X11_step_84 : decode cX11_step 84 = .ok (.aload_n 0, 1) ∧ 85 = 84 + 1 := by decide +kernel
theorem d_X11_step_85 : decode cX11_step 85 = .ok (.getfield 7, 3) ∧ 88 = 85 + 3 := by decide +kernel
theorem d_X11_step_88 : decode cX11_step 88 = .ok (.iconst 4, 1) ∧ 89 = 88 + 1 := by decide +kernel
theorem d_X11_step_89 : decode cX11_step 89 = .ok (.iaload, 1) ∧ 90 = 89 + 1 := by decide +kernel
theorem d_X11_step_90 : decode cX11_step 90 = .ok (.ireturn, 1) := by decide +kernel
theorem d_X11_land_0 : decode cX11_land 0 = .ok (.aload_n 0, 1) ∧ 1 = 0 + 1 := by decide +kernel
theorem d_X11_land_1 : decode cX11_land 1 = .ok (.iload_n 1, 1) ∧ 2 = 1 + 1 := by decide +kernel
theorem d_X11_land_2 : decode cX11_land 2 = .ok (.invokevirtual 109, 3) ∧ 5 = 2 + 3 := by decide +kernel
theorem d_X11_land_5 : decode cX11_land 5 = .ok (.ifCond .eq 16, 3) ∧ 8 = 5 + 3 ∧ (5 : Int) + 16 = ((21 : Nat) : Int) := by decide +kernel
theorem d_X11_land_8 : decode cX11_land 8 = .ok (.aload_n 0, 1) ∧ 9 = 8 + 1 := by decide +kernel
theorem d_X11_land_9 : decode cX11_land 9 = .ok (.iload_n 1, 1) ∧ 10 = 9 + 1 := by decide +kernel
theorem d_X11_land_10 : decode cX11_land 10 = .ok (.aload_n 0, 1) ∧ 11 = 10 + 1 := by decide +kernel
theorem d_X11_land_11 : decode cX11_land 11 = .ok (.invokevirtual 131, 3) ∧ 14 = 11 + 3 := by decide +kernel
theorem d_X11_land_14 : decode cX11_land 14 = .ok (.iconst 2, 1) ∧ 15 = 14 + 1 := by decide +kernel
theorem d_X11_land_15 : decode cX11_land 15 = .ok (.invokevirtual 135, 3) ∧ 18 = 15 + 3 := by decide +kernel
theorem d_X11_land_18 : decode cX11_land 18 = .ok (.ifCond .ne 6, 3) ∧ 21 = 18 + 3 ∧ (18 : Int) + 6 = ((24 : Nat) : Int) := by decide +kernel
theorem d_X11_land_21 : decode cX11_land 21 = .ok (.ldc 138, 2) ∧ 23 = 21 + 2 := by decide +kernel
theorem d_X11_land_23 : decode cX11_land 23 = .ok (.ireturn, 1) := by decide +kernel
theorem d_X11_land_24 : decode cX11_land 24 = .ok (.aload_n 0, 1) ∧ 25 = 24 + 1 := by decide +kernel
theorem d_X11_land_25 : decode cX11_land 25 = .ok (.invokevirtual 139, 3) ∧ 28 = 25 + 3 := by decide +kernel
theorem d_X11_land_28 : decode cX11_land 28 = .ok (.istore_n 3, 1) ∧ 29 = 28 + 1 := by decide +kernel
theorem d_X11_land_29 : decode cX11_land 29 = .ok (.iload_n 3, 1) ∧ 30 = 29 + 1 := by decide +kernel
theorem d_X11_land_30 : decode cX11_land 30 = .ok (.istore 4, 2) ∧ 32 = 30 + 2 := by decide +kernel
theorem d_X11_land_32 : decode cX11_land 32 = .ok (.iconst 0, 1) ∧ 33 = 32 + 1 := by decide +kernel
theorem d_X11_land_33 : decode cX11_land 33 = .ok (.istore 5, 2) ∧ 35 = 33 + 2 := by decide +kernel
theorem d_X11_land_35 : decode cX11_land 35 = .ok (.iload 5, 2) ∧ 37 = 35 + 2 := by decide +kernel
theorem d_X11_land_37 : decode cX11_land 37 = .ok (.aload_n 0, 1) ∧ 38 = 37 + 1 := by decide +kernel
theorem d_X11_land_38 : decode cX11_land 38 = .ok (.getfield 7, 3) ∧ 41 = 38 + 3 := by decide +kernel
theorem d_X11_land_41 : decode cX11_land 41 = .ok (.iconst 4, 1) ∧ 42 = 41 + 1 := by decide +kernel
theorem d_X11_land_42 : decode cX11_land 42 = .ok (.iaload, 1) ∧ 43 = 42 + 1 := by decide +kernel
theorem d_X11_land_43 : decode cX11_land 43 = .ok (.if_icmp .ge 112, 3) ∧ 46 = 43 + 3 ∧ (43 : Int) + 112 = ((155 : Nat) : Int) := by decide +kernel
theorem d_X11_land_46 : decode cX11_land 46 = .ok (.aload_n 0, 1) ∧ 47 = 46 + 1 := by decide +kernel
theorem d_X11_land_47 : decode cX11_land 47 = .ok (.getfield 7, 3) ∧ 50 = 47 + 3 := by decide +kernel
theorem d_X11_land_50 : decode cX11_land 50 = .ok (.sipush 360, 3) ∧ 53 = 50 + 3 := by decide +kernel
theorem d_X11_land_53 : decode cX11_land 53 = .ok (.iconst 2, 1) ∧ 54 = 53 + 1 := by decide +kernel
theorem d_X11_land_54 : decode cX11_land 54 = .ok (.iload 5, 2) ∧ 56 = 54 + 2 := by decide +kernel
theorem d_X11_land_56 : decode cX11_land 56 = .ok (.imul, 1) ∧ 57 = 56 + 1 := by decide +kernel
theorem d_X11_land_57 : decode cX11_land 57 = .ok (.iadd, 1) ∧ 58 = 57 + 1 := by decide +kernel
theorem d_X11_land_58 : decode cX11_land 58 = .ok (.iaload, 1) ∧ 59 = 58 + 1 := by decide +kernel
theorem d_X11_land_59 : decode cX11_land 59 = .ok (.istore 6, 2) ∧ 61 = 59 + 2 := by decide +kernel
theorem d_X11_land_61 : decode cX11_land 61 = .ok (.aload_n 0, 1) ∧ 62 = 61 + 1 := by decide +kernel
theorem d_X11_land_62 : decode cX11_land 62 = .ok (.getfield 7, 3) ∧ 65 = 62 + 3 := by decide +kernel
theorem d_X11_land_65 : decode cX11_land 65 = .ok (.sipush 360, 3) ∧ 68 = 65 + 3 := by decide +kernel
theorem d_X11_land_68 : decode cX11_land 68 = .ok (.iconst 2, 1) ∧ 69 = 68 + 1 := by decide +kernel
theorem d_X11_land_69 : decode cX11_land 69 = .ok (.iload 5, 2) ∧ 71 = 69 + 2 := by decide +kernel
theorem d_X11_land_71 : decode cX11_land 71 = .ok (.imul, 1) ∧ 72 = 71 + 1 := by decide +kernel
theorem d_X11_land_72 : decode cX11_land 72 = .ok (.iadd, 1) ∧ 73 = 72 + 1 := by decide +kernel
theorem d_X11_land_73 : decode cX11_land 73 = .ok (.iconst 1, 1) ∧ 74 = 73 + 1 := by decide +kernel
theorem d_X11_land_74 : decode cX11_land 74 = .ok (.iadd, 1) ∧ 75 = 74 + 1 := by decide +kernel
theorem d_X11_land_75 : decode cX11_land 75 = .ok (.iaload, 1) ∧ 76 = 75 + 1 := by decide +kernel
theorem d_X11_land_76 : decode cX11_land 76 = .ok (.istore 7, 2) ∧ 78 = 76 + 2 := by decide +kernel
theorem d_X11_land_78 : decode cX11_land 78 = .ok (.iload_n 3, 1) ∧ 79 = 78 + 1 := by decide +kernel
theorem d_X11_land_79 : decode cX11_land 79 = .ok (.iload 6, 2) ∧ 81 = 79 + 2 := by decide +kernel
theorem d_X11_land_81 : decode cX11_land 81 = .ok (.invokestatic 396, 3) ∧ 84 = 81 + 3 := by decide +kernel
theorem d_X11_land_84 : decode cX11_land 84 = .ok (.istore 8, 2) ∧ 86 = 84 + 2 := by decide +kernel
theorem d_X11_land_86 : decode cX11_land 86 = .ok (.iload_n 3, 1) ∧ 87 = 86 + 1 := by decide +kernel
theorem d_X11_land_87 : decode cX11_land 87 = .ok (.iload 7, 2) ∧ 89 = 87 + 2 := by decide +kernel
theorem d_X11_land_89 : decode cX11_land 89 = .ok (.invokestatic 396, 3) ∧ 92 = 89 + 3 := by decide +kernel
theorem d_X11_land_92 : decode cX11_land 92 = .ok (.istore 9, 2) ∧ 94 = 92 + 2 := by decide +kernel
theorem d_X11_land_94 : decode cX11_land 94 = .ok (.iload 4, 2) ∧ 96 = 94 + 2 := by decide +kernel
theorem d_X11_land_96 : decode cX11_land 96 = .ok (.iload 6, 2) ∧ 98 = 96 + 2 := by decide +kernel
theorem d_X11_land_98 : decode cX11_land 98 = .ok (.invokestatic 396, 3) ∧ 101 = 98 + 3 := by decide +kernel
theorem d_X11_land_101 : decode cX11_land 101 = .ok (.istore 10, 2) ∧ 103 = 101 + 2 := by decide +kernel
theorem d_X11_land_103 : decode cX11_land 103 = .ok (.iload 4, 2) ∧ 105 = 103 + 2 := by decide +kernel
theorem d_X11_land_105 : decode cX11_land 105 = .ok (.iload 7, 2) ∧ 107 = 105 + 2 := by decide +kernel
theorem d_X11_land_107 : decode cX11_land 107 = .ok (.invokestatic 396, 3) ∧ 110 = 107 + 3 := by decide +kernel
theorem d_X11_land_110 : decode cX11_land 110 = .ok (.istore 11, 2) ∧ 112 = 110 + 2 := by decide +kernel
theorem d_X11_land_112 : decode cX11_land 112 = .ok (.iload 8, 2) ∧ 114 = 112 + 2 := by decide +kernel
theorem d_X11_land_114 : decode cX11_land 114 = .ok (.iload 9, 2) ∧ 116 = 114 + 2 := by decide +kernel
theorem d_X11_land_116 : decode cX11_land 116 = .ok (.invokestatic 377, 3) ∧ 119 = 116 + 3 := by decide +kernel
theorem d_X11_land_119 : decode cX11_land 119 = .ok (.iload 10, 2) ∧ 121 = 119 + 2 := by decide +kernel
theorem d_X11_land_121 : decode cX11_land 121 = .ok (.iload 11, 2) ∧ 123 = 121 + 2 := by decide +kernel
theorem d_X11_land_123 : decode cX11_land 123 = .ok (.invokestatic 377, 3) ∧ 126 = 123 + 3 := by decide +kernel
theorem d_X11_land_126 : decode cX11_land 126 = .ok (.invokestatic 377, 3) ∧ 129 = 126 + 3 := by decide +kernel
theorem d_X11_land_129 : decode cX11_land 129 = .ok (.istore_n 3, 1) ∧ 130 = 129 + 1 := by decide +kernel
theorem d_X11_land_130 : decode cX11_land 130 = .ok (.iload 8, 2) ∧ 132 = 130 + 2 := by decide +kernel
theorem d_X11_land_132 : decode cX11_land 132 = .ok (.iload 9, 2) ∧ 134 = 132 + 2 := by decide +kernel
theorem d_X11_land_134 : decode cX11_land 134 = .ok (.invokestatic 374, 3) ∧ 137 = 134 + 3 := by decide +kernel
theorem d_X11_land_137 : decode cX11_land 137 = .ok (.iload 10, 2) ∧ 139 = 137 + 2 := by decide +kernel
theorem d_X11_land_139 : decode cX11_land 139 = .ok (.iload 11, 2) ∧ 141 = 139 + 2 := by decide +kernel
theorem d_X11_land_141 : decode cX11_land 141 = .ok (.invokestatic 374, 3) ∧ 144 = 141 + 3 := by decide +kernel
theorem d_X11_land_144 : decode cX11_land 144 = .ok (.invokestatic 374, 3) ∧ 147 = 144 + 3 := by decide +kernel
theorem d_X11_land_147 : decode cX11_land 147 = .ok (.istore 4, 2) ∧ 149 = 147 + 2 := by decide +kernel
theorem d_X11_land_149 : decode cX11_land 149 = .ok (.iinc 5 1, 3) ∧ 152 = 149 + 3 := by decide +kernel
theorem d_X11_land_152 : decode cX11_land 152 = .ok (.goto (-117), 3) ∧ (152 : Int) + ((-117)) = ((35 : Nat) : Int) := by decide +kernel
theorem d_X11_land_155 : decode cX11_land 155 = .ok (.iload_n 2, 1) ∧ 156 = 155 + 1 := by decide +kernel
theorem d_X11_land_156 : decode cX11_land 156 = .ok (.ifCond .eq 8, 3) ∧ 159 = 156 + 3 ∧ (156 : Int) + 8 = ((164 : Nat) : Int) := by decide +kernel
theorem d_X11_land_159 : decode cX11_land 159 = .ok (.iload 4, 2) ∧ 161 = 159 + 2 := by decide +kernel
theorem d_X11_land_161 : decode cX11_land 161 = .ok (.goto 4, 3) ∧ (161 : Int) + (4) = ((165 : Nat) : Int) := by decide +kernel
theorem d_X11_land_164 : decode cX11_land 164 = .ok (.iload_n 3, 1) ∧ 165 = 164 + 1 := by decide +kernel
theorem d_X11_land_165 : decode cX11_land 165 = .ok (.ireturn, 1) := by decide +kernel
theorem d_X11_part_0 : decode cX11_part 0 = .ok (.iload_n 0, 1) ∧ 1 = 0 + 1 := by decide +kernel
theorem d_X11_part_1 : decode cX11_part 1 = .ok (.i2l, 1) ∧ 2 = 1 + 1 := by decide +kernel
theorem d_X11_part_2 : decode cX11_part 2 = .ok (.iload_n 1, 1) ∧ 3 = 2 + 1 := by decide +kernel
theorem d_X11_part_3 : decode cX11_part 3 = .ok (.i2l, 1) ∧ 4 = 3 + 1 := by decide +kernel
theorem d_X11_part_4 : decode cX11_part 4 = .ok (.lmul, 1) ∧ 5 = 4 + 1 := by decide +kernel
theorem d_X11_part_5 : decode cX11_part 5 = .ok (.ldc2_w 399, 3) ∧ 8 = 5 + 3 := by decide +kernel
theorem d_X11_part_8 : decode cX11_part 8 = .ok (.ldiv, 1) ∧ 9 = 8 + 1 := by decide +kernel
theorem d_X11_part_9 : decode cX11_part 9 = .ok (.l2i, 1) ∧ 10 = 9 + 1 := by decide +kernel
theorem d_X11_part_10 : decode cX11_part 10 = .ok (.ireturn, 1) := by decide +kernel
theorem d_X11_live_0 : decode cX11_live 0 = .ok (.aload_n 0, 1) ∧ 1 = 0 + 1 := by decide +kernel
theorem d_X11_live_1 : decode cX11_live 1 = .ok (.iload_n 1, 1) ∧ 2 = 1 + 1 := by decide +kernel
theorem d_X11_live_2 : decode cX11_live 2 = .ok (.invokevirtual 356, 3) ∧ 5 = 2 + 3 := by decide +kernel
theorem d_X11_live_5 : decode cX11_live 5 = .ok (.ifCond .eq 22, 3) ∧ 8 = 5 + 3 ∧ (5 : Int) + 22 = ((27 : Nat) : Int) := by decide +kernel
theorem d_X11_live_8 : decode cX11_live 8 = .ok (.aload_n 0, 1) ∧ 9 = 8 + 1 := by decide +kernel
theorem d_X11_live_9 : decode cX11_live 9 = .ok (.iload_n 2, 1) ∧ 10 = 9 + 1 := by decide +kernel
theorem d_X11_live_10 : decode cX11_live 10 = .ok (.invokevirtual 109, 3) ∧ 13 = 10 + 3 := by decide +kernel
theorem d_X11_live_13 : decode cX11_live 13 = .ok (.ifCond .eq 14, 3) ∧ 16 = 13 + 3 ∧ (13 : Int) + 14 = ((27 : Nat) : Int) := by decide +kernel
theorem d_X11_live_16 : decode cX11_live 16 = .ok (.iload_n 3, 1) ∧ 17 = 16 + 1 := by decide +kernel
theorem d_X11_live_17 : decode cX11_live 17 = .ok (.iconst 0, 1) ∧ 18 = 17 + 1 := by decide +kernel
theorem d_X11_live_18 : decode cX11_live 18 = .ok (.sipush 9999, 3) ∧ 21 = 18 + 3 := by decide +kernel
theorem d_X11_live_21 : decode cX11_live 21 = .ok (.invokestatic 101, 3) ∧ 24 = 21 + 3 := by decide +kernel
theorem d_X11_live_24 : decode cX11_live 24 = .ok (.ifCond .ne 5, 3) ∧ 27 = 24 + 3 ∧ (24 : Int) + 5 = ((29 : Nat) : Int) := by decide +kernel
theorem d_X11_live_27 : decode cX11_live 27 = .ok (.iconst (-1), 1) ∧ 28 = 27 + 1 := by decide +kernel
theorem d_X11_live_28 : decode cX11_live 28 = .ok (.ireturn, 1) := by decide +kernel
theorem d_X11_live_29 : decode cX11_live 29 = .ok (.iconst 0, 1) ∧ 30 = 29 + 1 := by decide +kernel
theorem d_X11_live_30 : decode cX11_live 30 = .ok (.istore 4, 2) ∧ 32 = 30 + 2 := by decide +kernel
theorem d_X11_live_32 : decode cX11_live 32 = .ok (.iconst (-1), 1) ∧ 33 = 32 + 1 := by decide +kernel
theorem d_X11_live_33 : decode cX11_live 33 = .ok (.istore 5, 2) ∧ 35 = 33 + 2 := by decide +kernel
theorem d_X11_live_35 : decode cX11_live 35 = .ok (.iconst 0, 1) ∧ 36 = 35 + 1 := by decide +kernel
theorem d_X11_live_36 : decode cX11_live 36 = .ok (.istore 6, 2) ∧ 38 = 36 + 2 := by decide +kernel
theorem d_X11_live_38 : decode cX11_live 38 = .ok (.iload 6, 2) ∧ 40 = 38 + 2 := by decide +kernel
theorem d_X11_live_40 : decode cX11_live 40 = .ok (.aload_n 0, 1) ∧ 41 = 40 + 1 := by decide +kernel
theorem d_X11_live_41 : decode cX11_live 41 = .ok (.getfield 27, 3) ∧ 44 = 41 + 3 := by decide +kernel
theorem d_X11_live_44 : decode cX11_live 44 = .ok (.iload_n 1, 1) ∧ 45 = 44 + 1 := by decide +kernel
theorem d_X11_live_45 : decode cX11_live 45 = .ok (.iaload, 1) ∧ 46 = 45 + 1 := by decide +kernel
theorem d_X11_live_46 : decode cX11_live 46 = .ok (.if_icmp .ge 73, 3) ∧ 49 = 46 + 3 ∧ (46 : Int) + 73 = ((119 : Nat) : Int) := by decide +kernel
theorem d_X11_live_49 : decode cX11_live 49 = .ok (.iload 4, 2) ∧ 51 = 49 + 2 := by decide +kernel
theorem d_X11_live_51 : decode cX11_live 51 = .ok (.ifCond .ne 20, 3) ∧ 54 = 51 + 3 ∧ (51 : Int) + 20 = ((71 : Nat) : Int) := by decide +kernel
theorem d_X11_live_54 : decode cX11_live 54 = .ok (.aload_n 0, 1) ∧ 55 = 54 + 1 := by decide +kernel
theorem d_X11_live_55 : decode cX11_live 55 = .ok (.getfield 30, 3) ∧ 58 = 55 + 3 := by decide +kernel
theorem d_X11_live_58 : decode cX11_live 58 = .ok (.bipush 10, 2) ∧ 60 = 58 + 2 := by decide +kernel
theorem d_X11_live_60 : decode cX11_live 60 = .ok (.iload_n 1, 1) ∧ 61 = 60 + 1 := by decide +kernel
theorem d_X11_live_61 : decode cX11_live 61 = .ok (.imul, 1) ∧ 62 = 61 + 1 := by decide +kernel
theorem d_X11_live_62 : decode cX11_live 62 = .ok (.iload 6, 2) ∧ 64 = 62 + 2 := by decide +kernel
theorem d_X11_live_64 : decode cX11_live 64 = .ok (.iadd, 1) ∧ 65 = 64 + 1 := by decide +kernel
theorem d_X11_live_65 : decode cX11_live 65 = .ok (.iaload, 1) ∧ 66 = 65 + 1 := by decide +kernel
theorem d_X11_live_66 : decode cX11_live 66 = .ok (.bipush 6, 2) ∧ 68 = 66 + 2 := by decide +kernel
theorem d_X11_live_68 : decode cX11_live 68 = .ok (.if_icmp .ne 7, 3) ∧ 71 = 68 + 3 ∧ (68 : Int) + 7 = ((75 : Nat) : Int) := by decide +kernel
theorem d_X11_live_71 : decode cX11_live 71 = .ok (.iconst 1, 1) ∧ 72 = 71 + 1 := by decide +kernel
theorem d_X11_live_72 : decode cX11_live 72 = .ok (.goto 4, 3) ∧ (72 : Int) + (4) = ((76 : Nat) : Int) := by decide +kernel
theorem d_X11_live_75 : decode cX11_live 75 = .ok (.iconst 0, 1) ∧ 76 = 75 + 1 := by decide +kernel
theorem d_X11_live_76 : decode cX11_live 76 = .ok (.istore 4, 2) ∧ 78 = 76 + 2 := by decide +kernel
theorem d_X11_live_78 : decode cX11_live 78 = .ok (.aload_n 0, 1) ∧ 79 = 78 + 1 := by decide +kernel
theorem d_X11_live_79 : decode cX11_live 79 = .ok (.getfield 30, 3) ∧ 82 = 79 + 3 := by decide +kernel
theorem d_X11_live_82 : decode cX11_live 82 = .ok (.bipush 10, 2) ∧ 84 = 82 + 2 := by decide +kernel
theorem d_X11_live_84 : decode cX11_live 84 = .ok (.iload_n 1, 1) ∧ 85 = 84 + 1 := by decide +kernel
theorem d_X11_live_85 : decode cX11_live 85 = .ok (.imul, 1) ∧ 86 = 85 + 1 := by decide +kernel
theorem d_X11_live_86 : decode cX11_live 86 = .ok (.iload 6, 2) ∧ 88 = 86 + 2 := by decide +kernel
theorem d_X11_live_88 : decode cX11_live 88 = .ok (.iadd, 1) ∧ 89 = 88 + 1 := by decide +kernel
theorem d_X11_live_89 : decode cX11_live 89 = .ok (.iaload, 1) ∧ 90 = 89 + 1 := by decide +kernel
theorem d_X11_live_90 : decode cX11_live 90 = .ok (.iconst 2, 1) ∧ 91 = 90 + 1 := by decide +kernel
theorem d_X11_live_91 : decode cX11_live 91 = .ok (.if_icmp .ne 18, 3) ∧ 94 = 91 + 3 ∧ (91 : Int) + 18 = ((109 : Nat) : Int) := by decide +kernel
theorem d_X11_live_94 : decode cX11_live 94 = .ok (.aload_n 0, 1) ∧ 95 = 94 + 1 := by decide +kernel
theorem d_X11_live_95 : decode cX11_live 95 = .ok (.getfield 36, 3) ∧ 98 = 95 + 3 := by decide +kernel
theorem d_X11_live_98 : decode cX11_live 98 = .ok (.bipush 10, 2) ∧ 100 = 98 + 2 := by decide +kernel
theorem d_X11_live_100 : decode cX11_live 100 = .ok (.iload_n 1, 1) ∧ 101 = 100 + 1 := by decide +kernel
theorem d_X11_live_101 : decode cX11_live 101 = .ok (.imul, 1) ∧ 102 = 101 + 1 := by decide +kernel
theorem d_X11_live_102 : decode cX11_live 102 = .ok (.iload 6, 2) ∧ 104 = 102 + 2 := by decide +kernel
theorem d_X11_live_104 : decode cX11_live 104 = .ok (.iadd, 1) ∧ 105 = 104 + 1 := by decide +kernel
theorem d_X11_live_105 : decode cX11_live 105 = .ok (.iaload, 1) ∧ 106 = 105 + 1 := by decide +kernel
theorem d_X11_live_106 : decode cX11_live 106 = .ok (.goto 5, 3) ∧ (106 : Int) + (5) = ((111 : Nat) : Int) := by decide +kernel
theorem d_X11_live_109 : decode cX11_live 109 = .ok (.iload 5, 2) ∧ 111 = 109 + 2 := by decide +kernel
theorem d_X11_live_111 : decode cX11_live 111 = .ok (.istore 5, 2) ∧ 113 = 111 + 2 := by decide +kernel
theorem d_X11_live_113 : decode cX11_live 113 = .ok (.iinc 6 1, 3) ∧ 116 = 113 + 3 := by decide +kernel
theorem d_X11_live_116 : decode cX11_live 116 = .ok (.goto (-78), 3) ∧ (116 : Int) + ((-78)) = ((38 : Nat) : Int) := by decide +kernel
theorem d_X11_live_119 : decode cX11_live 119 = .ok (.iload_n 3, 1) ∧ 120 = 119 + 1 := by decide +kernel
theorem d_X11_live_120 : decode cX11_live 120 = .ok (.bipush 7, 2) ∧ 122 = 120 + 2 := by decide +kernel
theorem d_X11_live_122 : decode cX11_live 122 = .ok (.imul, 1) ∧ 123 = 122 + 1 := by decide +kernel
theorem d_X11_live_123 : decode cX11_live 123 = .ok (.bipush 11, 2) ∧ 125 = 123 + 2 := by decide +kernel
theorem d_X11_live_125 : decode cX11_live 125 = .ok (.iadd, 1) ∧ 126 = 125 + 1 := by decide +kernel
theorem d_X11_live_126 : decode cX11_live 126 = .ok (.istore 6, 2) ∧ 128 = 126 + 2 := by decide +kernel
theorem d_X11_live_128 : decode cX11_live 128 = .ok (.iconst 0, 1) ∧ 129 = 128 + 1 := by decide +kernel
theorem d_X11_live_129 : decode cX11_live 129 = .ok (.istore 7, 2) ∧ 131 = 129 + 2 := by decide +kernel
theorem d_X11_live_131 : decode cX11_live 131 = .ok (.iconst 0, 1) ∧ 132 = 131 + 1 := by decide +kernel
theorem d_X11_live_132 : decode cX11_live 132 = .ok (.istore 8, 2) ∧ 134 = 132 + 2 := by decide +kernel
theorem d_X11_live_134 : decode cX11_live 134 = .ok (.iload 8, 2) ∧ 136 = 134 + 2 := by decide +kernel
theorem d_X11_live_136 : decode cX11_live 136 = .ok (.aload_n 0, 1) ∧ 137 = 136 + 1 := by decide +kernel
theorem d_X11_live_137 : decode cX11_live 137 = .ok (.getfield 7, 3) ∧ 140 = 137 + 3 := by decide +kernel
theorem d_X11_live_140 : decode cX11_live 140 = .ok (.iconst 0, 1) ∧ 141 = 140 + 1 := by decide +kernel
theorem d_X11_live_141 : decode cX11_live 141 = .ok (.iaload, 1) ∧ 142 = 141 + 1 := by decide +kernel
theorem d_X11_live_142 : decode cX11_live 142 = .ok (.if_icmp .ge 148, 3) ∧ 145 = 142 + 3 ∧ (142 : Int) + 148 = ((290 : Nat) : Int) := by decide +kernel
theorem d_X11_live_145 : decode cX11_live 145 = .ok (.aload_n 0, 1) ∧ 146 = 145 + 1 := by decide +kernel
theorem d_X11_live_146 : decode cX11_live 146 = .ok (.iconst 0, 1) ∧ 147 = 146 + 1 := by decide +kernel
theorem d_X11_live_147 : decode cX11_live 147 = .ok (.iload 8, 2) ∧ 149 = 147 + 2 := by decide +kernel
theorem d_X11_live_149 : decode cX11_live 149 = .ok (.invokevirtual 333, 3) ∧ 152 = 149 + 3 := by decide +kernel
theorem d_X11_live_152 : decode cX11_live 152 = .ok (.aload_n 0, 1) ∧ 153 = 152 + 1 := by decide +kernel
theorem d_X11_live_153 : decode cX11_live 153 = .ok (.getfield 72, 3) ∧ 156 = 153 + 3 := by decide +kernel
theorem d_X11_live_156 : decode cX11_live 156 = .ok (.bipush 8, 2) ∧ 158 = 156 + 2 := by decide +kernel
theorem d_X11_live_158 : decode cX11_live 158 = .ok (.aload_n 0, 1) ∧ 159 = 158 + 1 := by decide +kernel
theorem d_X11_live_159 : decode cX11_live 159 = .ok (.getfield 7, 3) ∧ 162 = 159 + 3 := by decide +kernel
theorem d_X11_live_162 : decode cX11_live 162 = .ok (.bipush 80, 2) ∧ 164 = 162 + 2 := by decide +kernel
theorem d_X11_live_164 : decode cX11_live 164 = .ok (.iload 8, 2) ∧ 166 = 164 + 2 := by decide +kernel
theorem d_X11_live_166 : decode cX11_live 166 = .ok (.iadd, 1) ∧ 167 = 166 + 1 := by decide +kernel
theorem d_X11_live_167 : decode cX11_live 167 = .ok (.iaload, 1) ∧ 168 = 167 + 1 := by decide +kernel
theorem d_X11_live_168 : decode cX11_live 168 = .ok (.iastore, 1) ∧ 169 = 168 + 1 := by decide +kernel
theorem d_X11_live_169 : decode cX11_live 169 = .ok (.aload_n 0, 1) ∧ 170 = 169 + 1 := by decide +kernel
theorem d_X11_live_170 : decode cX11_live 170 = .ok (.getfield 72, 3) ∧ 173 = 170 + 3 := by decide +kernel
theorem d_X11_live_173 : decode cX11_live 173 = .ok (.bipush 9, 2) ∧ 175 = 173 + 2 := by decide +kernel
theorem d_X11_live_175 : decode cX11_live 175 = .ok (.aload_n 0, 1) ∧ 176 = 175 + 1 := by decide +kernel
theorem d_X11_live_176 : decode cX11_live 176 = .ok (.iload_n 2, 1) ∧ 177 = 176 + 1 := by decide +kernel
theorem d_X11_live_177 : decode cX11_live 177 = .ok (.iconst 1, 1) ∧ 178 = 177 + 1 := by decide +kernel
theorem d_X11_live_178 : decode cX11_live 178 = .ok (.invokevirtual 123, 3) ∧ 181 = 178 + 3 := by decide +kernel
theorem d_X11_live_181 : decode cX11_live 181 = .ok (.iastore, 1) ∧ 182 = 181 + 1 := by decide +kernel
theorem d_X11_live_182 : decode cX11_live 182 = .ok (.aload_n 0, 1) ∧ 183 = 182 + 1 := by decide +kernel
theorem d_X11_live_183 : decode cX11_live 183 = .ok (.getfield 72, 3) ∧ 186 = 183 + 3 := by decide +kernel
theorem d_X11_live_186 : decode cX11_live 186 = .ok (.bipush 10, 2) ∧ 188 = 186 + 2 := by decide +kernel
theorem d_X11_live_188 : decode cX11_live 188 = .ok (.iload 6, 2) ∧ 190 = 188 + 2 := by decide +kernel
theorem d_X11_live_190 : decode cX11_live 190 = .ok (.bipush 100, 2) ∧ 192 = 190 + 2 := by decide +kernel
theorem d_X11_live_192 : decode cX11_live 192 = .ok (.irem, 1) ∧ 193 = 192 + 1 := by decide +kernel
theorem d_X11_live_193 : decode cX11_live 193 = .ok (.iastore, 1) ∧ 194 = 193 + 1 := by decide +kernel
theorem d_X11_live_194 : decode cX11_live 194 = .ok (.iconst (-1), 1) ∧ 195 = 194 + 1 := by decide +kernel
theorem d_X11_live_195 : decode cX11_live 195 = .ok (.istore 9, 2) ∧ 197 = 195 + 2 := by decide +kernel
theorem d_X11_live_197 : decode cX11_live 197 = .ok (.iload 4, 2) ∧ 199 = 197 + 2 := by decide +kernel
theorem d_X11_live_199 : decode cX11_live 199 = .ok (.ifCond .eq 13, 3) ∧ 202 = 199 + 3 ∧ (199 : Int) + 13 = ((212 : Nat) : Int) := by decide +kernel
theorem d_X11_live_202 : decode cX11_live 202 = .ok (.aload_n 0, 1) ∧ 203 = 202 + 1 := by decide +kernel
theorem d_X11_live_203 : decode cX11_live 203 = .ok (.iload_n 1, 1) ∧ 204 = 203 + 1 := by decide +kernel
theorem d_X11_live_204 : decode cX11_live 204 = .ok (.bipush 6, 2) ∧ 206 = 204 + 2 := by decide +kernel
theorem d_X11_live_206 : decode cX11_live 206 = .ok (.invokevirtual 336, 3) ∧ 209 = 206 + 3 := by decide +kernel
theorem d_X11_live_209 : decode cX11_live 209 = .ok (.ifCond .eq 43, 3) ∧ 212 = 209 + 3 ∧ (209 : Int) + 43 = ((252 : Nat) : Int) := by decide +kernel
theorem d_X11_live_212 : decode cX11_live 212 = .ok (.iload 5, 2) ∧ 214 = 212 + 2 := by decide +kernel
theorem d_X11_live_214 : decode cX11_live 214 = .ok (.iconst (-1), 1) ∧ 215 = 214 + 1 := by decide +kernel
theorem d_X11_live_215 : decode cX11_live 215 = .ok (.if_icmp .ne 7, 3) ∧ 218 = 215 + 3 ∧ (215 : Int) + 7 = ((222 : Nat) : Int) := by decide +kernel
theorem d_X11_live_218 : decode cX11_live 218 = .ok (.iconst 0, 1) ∧ 219 = 218 + 1 := by decide +kernel
theorem d_X11_live_219 : decode cX11_live 219 = .ok (.goto 10, 3) ∧ (219 : Int) + (10) = ((229 : Nat) : Int) := by decide +kernel
theorem d_X11_live_222 : decode cX11_live 222 = .ok (.aload_n 0, 1) ∧ 223 = 222 + 1 := by decide +kernel
theorem d_X11_live_223 : decode cX11_live 223 = .ok (.iload 5, 2) ∧ 225 = 223 + 2 := by decide +kernel
theorem d_X11_live_225 : decode cX11_live 225 = .ok (.invokevirtual 329, 3) ∧ 228 = 225 + 3 := by decide +kernel
theorem d_X11_live_228 : decode cX11_live 228 = .ok (.l2i, 1) ∧ 229 = 228 + 1 := by decide +kernel
theorem d_X11_live_229 : decode cX11_live 229 = .ok (.istore 10, 2) ∧ 231 = 229 + 2 := by decide +kernel
theorem d_X11_live_231 : decode cX11_live 231 = .ok (.iload 10, 2) ∧ 233 = 231 + 2 := by decide +kernel
theorem d_X11_live_233 : decode cX11_live 233 = .ok (.ifCond .ge 7, 3) ∧ 236 = 233 + 3 ∧ (233 : Int) + 7 = ((240 : Nat) : Int) := by decide +kernel
theorem d_X11_live_236 : decode cX11_live 236 = .ok (.iconst 0, 1) ∧ 237 = 236 + 1 := by decide +kernel
theorem d_X11_live_237 : decode cX11_live 237 = .ok (.goto 10, 3) ∧ (237 : Int) + (10) = ((247 : Nat) : Int) := by decide +kernel
theorem d_X11_live_240 : decode cX11_live 240 = .ok (.bipush 99, 2) ∧ 242 = 240 + 2 := by decide +kernel
theorem d_X11_live_242 : decode cX11_live 242 = .ok (.iload 10, 2) ∧ 244 = 242 + 2 := by decide +kernel
theorem d_X11_live_244 : decode cX11_live 244 = .ok (.invokestatic 377, 3) ∧ 247 = 244 + 3 := by decide +kernel
theorem d_X11_live_247 : decode cX11_live 247 = .ok (.istore 9, 2) ∧ 249 = 247 + 2 := by decide +kernel
theorem d_X11_live_249 : decode cX11_live 249 = .ok (.iinc 7 1, 3) ∧ 252 = 249 + 3 := by decide +kernel
theorem d_X11_live_252 : decode cX11_live 252 = .ok (.aload_n 0, 1) ∧ 253 = 252 + 1 := by decide +kernel
theorem d_X11_live_253 : decode cX11_live 253 = .ok (.getfield 7, 3) ∧ 256 = 253 + 3 := by decide +kernel
theorem d_X11_live_256 : decode cX11_live 256 = .ok (.sipush 150, 3) ∧ 259 = 256 + 3 := by decide +kernel
theorem d_X11_live_259 : decode cX11_live 259 = .ok (.bipush 14, 2) ∧ 261 = 259 + 2 := by decide +kernel
theorem d_X11_live_261 : decode cX11_live 261 = .ok (.iload_n 2, 1) ∧ 262 = 261 + 1 := by decide +kernel
theorem d_X11_live_262 : decode cX11_live 262 = .ok (.imul, 1) ∧ 263 = 262 + 1 := by decide +kernel
theorem d_X11_live_263 : decode cX11_live 263 = .ok (.iadd, 1) ∧ 264 = 263 + 1 := by decide +kernel
theorem d_X11_live_264 : decode cX11_live 264 = .ok (.iload 8, 2) ∧ 266 = 264 + 2 := by decide +kernel
theorem d_X11_live_266 : decode cX11_live 266 = .ok (.iadd, 1) ∧ 267 = 266 + 1 := by decide +kernel
theorem d_X11_live_267 : decode cX11_live 267 = .ok (.iload 9, 2) ∧ 269 = 267 + 2 := by decide +kernel
theorem d_X11_live_269 : decode cX11_live 269 = .ok (.iastore, 1) ∧ 270 = 269 + 1 := by decide +kernel
theorem d_X11_live_270 : decode cX11_live 270 = .ok (.iload 6, 2) ∧ 272 = 270 + 2 := by decide +kernel
theorem d_X11_live_272 : decode cX11_live 272 = .ok (.sipush 171, 3) ∧ 275 = 272 + 3 := by decide +kernel
theorem d_X11_live_275 : decode cX11_live 275 = .ok (.imul, 1) ∧ 276 = 275 + 1 := by decide +kernel
theorem d_X11_live_276 : decode cX11_live 276 = .ok (.iconst 5, 1) ∧ 277 = 276 + 1 := by decide +kernel
theorem d_X11_live_277 : decode cX11_live 277 = .ok (.iadd, 1) ∧ 278 = 277 + 1 := by decide +kernel
theorem d_X11_live_278 : decode cX11_live 278 = .ok (.sipush 30323, 3) ∧ 281 = 278 + 3 := by decide +kernel
theorem d_X11_live_281 : decode cX11_live 281 = .ok (.irem, 1) ∧ 282 = 281 + 1 := by decide +kernel
theorem d_X11_live_282 : decode cX11_live 282 = .ok (.istore 6, 2) ∧ 284 = 282 + 2 := by decide +kernel
theorem d_X11_live_284 : decode cX11_live 284 = .ok (.iinc 8 1, 3) ∧ 287 = 284 + 3 := by decide +kernel
theorem d_X11_live_287 : decode cX11_live 287 = .ok (.goto (-153), 3) ∧ (287 : Int) + ((-153)) = ((134 : Nat) : Int) := by decide +kernel
theorem d_X11_live_290 : decode cX11_live 290 = .ok (.iload 7, 2) ∧ 292 = 290 + 2 := by decide +kernel
theorem d_X11_live_292 : decode cX11_live 292 = .ok (.ireturn, 1) := by decide +kernel
theorem d_X11_image_0 : decode cX11_image 0 = .ok (.aload_n 0, 1) ∧ 1 = 0 + 1 := by decide +kernel
theorem d_X11_image_1 : decode cX11_image 1 = .ok (.iconst 1, 1) ∧ 2 = 1 + 1 := by decide +kernel
theorem d_X11_image_2 : decode cX11_image 2 = .ok (.invokevirtual 97, 3) ∧ 5 = 2 + 3 := by decide +kernel
theorem d_X11_image_5 : decode cX11_image 5 = .ok (.aload_n 0, 1) ∧ 6 = 5 + 1 := by decide +kernel
theorem d_X11_image_6 : decode cX11_image 6 = .ok (.getfield 7, 3) ∧ 9 = 6 + 3 := by decide +kernel
theorem d_X11_image_9 : decode cX11_image 9 = .ok (.iconst 0, 1) ∧ 10 = 9 + 1 := by decide +kernel
theorem d_X11_image_10 : decode cX11_image 10 = .ok (.iaload, 1) ∧ 11 = 10 + 1 := by decide +kernel
theorem d_X11_image_11 : decode cX11_image 11 = .ok (.ireturn, 1) := by decide +kernel
theorem d_X11_again_0 : decode cX11_again 0 = .ok (.aload_n 0, 1) ∧ 1 = 0 + 1 := by decide +kernel
theorem d_X11_again_1 : decode cX11_again 1 = .ok (.iconst 0, 1) ∧ 2 = 1 + 1 := by decide +kernel
theorem d_X11_again_2 : decode cX11_again 2 = .ok (.invokevirtual 97, 3) ∧ 5 = 2 + 3 := by decide +kernel
theorem d_X11_again_5 : decode cX11_again 5 = .ok (.aload_n 0, 1) ∧ 6 = 5 + 1 := by decide +kernel
theorem d_X11_again_6 : decode cX11_again 6 = .ok (.getfield 7, 3) ∧ 9 = 6 + 3 := by decide +kernel
theorem d_X11_again_9 : decode cX11_again 9 = .ok (.iconst 0, 1) ∧ 10 = 9 + 1 := by decide +kernel
theorem d_X11_again_10 : decode cX11_again 10 = .ok (.iaload, 1) ∧ 11 = 10 + 1 := by decide +kernel
theorem d_X11_again_11 : decode cX11_again 11 = .ok (.ireturn, 1) := by decide +kernel
theorem d_X11_about_0 : decode cX11_about 0 = .ok (.iload_n 1, 1) ∧ 1 = 0 + 1 := by decide +kernel
theorem d_X11_about_1 : decode cX11_about 1 = .ok (.iconst 0, 1) ∧ 2 = 1 + 1 := by decide +kernel
theorem d_X11_about_2 : decode cX11_about 2 = .ok (.iconst 5, 1) ∧ 3 = 2 + 1 := by decide +kernel
theorem d_X11_about_3 : decode cX11_about 3 = .ok (.invokestatic 101, 3) ∧ 6 = 3 + 3 := by decide +kernel
theorem d_X11_about_6 : decode cX11_about 6 = .ok (.ifCond .eq 10, 3) ∧ 9 = 6 + 3 ∧ (6 : Int) + 10 = ((16 : Nat) : Int) := by decide +kernel
theorem d_X11_about_9 : decode cX11_about 9 = .ok (.aload_n 0, 1) ∧ 10 = 9 + 1 := by decide +kernel
theorem d_X11_about_10 : decode cX11_about 10 = .ok (.getfield 7, 3) ∧ 13 = 10 + 3 := by decide +kernel
theorem d_X11_about_13 : decode cX11_about 13 = .ok (.iload_n 1, 1) ∧ 14 = 13 + 1 := by decide +kernel
theorem d_X11_about_14 : decode cX11_about 14 = .ok (.iaload, 1) ∧ 15 = 14 + 1 := by decide +kernel
theorem d_X11_about_15 : decode cX11_about 15 = .ok (.ireturn, 1) := by decide +kernel
theorem d_X11_about_16 : decode cX11_about 16 = .ok (.iload_n 1, 1) ∧ 17 = 16 + 1 := by decide +kernel
theorem d_X11_about_17 : decode cX11_about 17 = .ok (.bipush 6, 2) ∧ 19 = 17 + 2 := by decide +kernel
theorem d_X11_about_19 : decode cX11_about 19 = .ok (.if_icmp .ne 10, 3) ∧ 22 = 19 + 3 ∧ (19 : Int) + 10 = ((29 : Nat) : Int) := by decide +kernel
theorem d_X11_about_22 : decode cX11_about 22 = .ok (.aload_n 0, 1) ∧ 23 = 22 + 1 := by decide +kernel
theorem d_X11_about_23 : decode cX11_about 23 = .ok (.getfield 142, 3) ∧ 26 = 23 + 3 := by decide +kernel
theorem d_X11_about_26 : decode cX11_about 26 = .ok (.goto 30, 3) ∧ (26 : Int) + (30) = ((56 : Nat) : Int) := by decide +kernel
theorem d_X11_about_29 : decode cX11_about 29 = .ok (.iload_n 1, 1) ∧ 30 = 29 + 1 := by decide +kernel
theorem d_X11_about_30 : decode cX11_about 30 = .ok (.bipush 7, 2) ∧ 32 = 30 + 2 := by decide +kernel
theorem d_X11_about_32 : decode cX11_about 32 = .ok (.if_icmp .ne 10, 3) ∧ 35 = 32 + 3 ∧ (32 : Int) + 10 = ((42 : Nat) : Int) := by decide +kernel
theorem d_X11_about_35 : decode cX11_about 35 = .ok (.aload_n 0, 1) ∧ 36 = 35 + 1 := by decide +kernel
theorem d_X11_about_36 : decode cX11_about 36 = .ok (.invokevirtual 131, 3) ∧ 39 = 36 + 3 := by decide +kernel
theorem d_X11_about_39 : decode cX11_about 39 = .ok (.goto 17, 3) ∧ (39 : Int) + (17) = ((56 : Nat) : Int) := by decide +kernel
theorem d_X11_about_42 : decode cX11_about 42 = .ok (.iload_n 1, 1) ∧ 43 = 42 + 1 := by decide +kernel
theorem d_X11_about_43 : decode cX11_about 43 = .ok (.bipush 8, 2) ∧ 45 = 43 + 2 := by decide +kernel
theorem d_X11_about_45 : decode cX11_about 45 = .ok (.if_icmp .ne 10, 3) ∧ 48 = 45 + 3 ∧ (45 : Int) + 10 = ((55 : Nat) : Int) := by decide +kernel
theorem d_X11_about_48 : decode cX11_about 48 = .ok (.aload_n 0, 1) ∧ 49 = 48 + 1 := by decide +kernel
theorem d_X11_about_49 : decode cX11_about 49 = .ok (.invokevirtual 371, 3) ∧ 52 = 49 + 3 := by decide +kernel
theorem d_X11_about_52 : decode cX11_about 52 = .ok (.goto 4, 3) ∧ (52 : Int) + (4) = ((56 : Nat) : Int) := by decide +kernel
theorem d_X11_about_55 : decode cX11_about 55 = .ok (.iconst (-1), 1) ∧ 56 = 55 + 1 := by decide +kernel
theorem d_X11_about_56 : decode cX11_about 56 = .ok (.ireturn, 1) := by decide +kernel
theorem d_J6_bitCount_0f7a4_0 : decode cJ6_bitCount_0f7a4 0 = .ok (.iload_n 0, 1) ∧ 1 = 0 + 1 := by decide +kernel
theorem d_J6_bitCount_0f7a4_1 : decode cJ6_bitCount_0f7a4 1 = .ok (.iload_n 0, 1) ∧ 2 = 1 + 1 := by decide +kernel
theorem d_J6_bitCount_0f7a4_2 : decode cJ6_bitCount_0f7a4 2 = .ok (.iconst 1, 1) ∧ 3 = 2 + 1 := by decide +kernel
theorem d_J6_bitCount_0f7a4_3 : decode cJ6_bitCount_0f7a4 3 = .ok (.iushr, 1) ∧ 4 = 3 + 1 := by decide +kernel
theorem d_J6_bitCount_0f7a4_4 : decode cJ6_bitCount_0f7a4 4 = .ok (.ldc_w 265, 3) ∧ 7 = 4 + 3 := by decide +kernel
theorem d_J6_bitCount_0f7a4_7 : decode cJ6_bitCount_0f7a4 7 = .ok (.iand, 1) ∧ 8 = 7 + 1 := by decide +kernel
theorem d_J6_bitCount_0f7a4_8 : decode cJ6_bitCount_0f7a4 8 = .ok (.isub, 1) ∧ 9 = 8 + 1 := by decide +kernel
theorem d_J6_bitCount_0f7a4_9 : decode cJ6_bitCount_0f7a4 9 = .ok (.istore_n 0, 1) ∧ 10 = 9 + 1 := by decide +kernel
theorem d_J6_bitCount_0f7a4_10 : decode cJ6_bitCount_0f7a4 10 = .ok (.iload_n 0, 1) ∧ 11 = 10 + 1 := by decide +kernel
theorem d_J6_bitCount_0f7a4_11 : decode cJ6_bitCount_0f7a4 11 = .ok (.ldc_w 266, 3) ∧ 14 = 11 + 3 := by decide +kernel
theorem d_J6_bitCount_0f7a4_14 : decode cJ6_bitCount_0f7a4 14 = .ok (.iand, 1) ∧ 15 = 14 + 1 := by decide +kernel
theorem d_J6_bitCount_0f7a4_15 : decode cJ6_bitCount_0f7a4 15 = .ok (.iload_n 0, 1) ∧ 16 = 15 + 1 := by decide +kernel
theorem d_J6_bitCount_0f7a4_16 : decode cJ6_bitCount_0f7a4 16 = .ok (.iconst 2, 1) ∧ 17 = 16 + 1 := by decide +kernel
theorem d_J6_bitCount_0f7a4_17 : decode cJ6_bitCount_0f7a4 17 = .ok (.iushr, 1) ∧ 18 = 17 + 1 := by decide +kernel
theorem d_J6_bitCount_0f7a4_18 : decode cJ6_bitCount_0f7a4 18 = .ok (.ldc_w 266, 3) ∧ 21 = 18 + 3 := by decide +kernel
theorem d_J6_bitCount_0f7a4_21 : decode cJ6_bitCount_0f7a4 21 = .ok (.iand, 1) ∧ 22 = 21 + 1 := by decide +kernel
theorem d_J6_bitCount_0f7a4_22 : decode cJ6_bitCount_0f7a4 22 = .ok (.iadd, 1) ∧ 23 = 22 + 1 := by decide +kernel
theorem d_J6_bitCount_0f7a4_23 : decode cJ6_bitCount_0f7a4 23 = .ok (.istore_n 0, 1) ∧ 24 = 23 + 1 := by decide +kernel
theorem d_J6_bitCount_0f7a4_24 : decode cJ6_bitCount_0f7a4 24 = .ok (.iload_n 0, 1) ∧ 25 = 24 + 1 := by decide +kernel
theorem d_J6_bitCount_0f7a4_25 : decode cJ6_bitCount_0f7a4 25 = .ok (.iload_n 0, 1) ∧ 26 = 25 + 1 := by decide +kernel
theorem d_J6_bitCount_0f7a4_26 : decode cJ6_bitCount_0f7a4 26 = .ok (.iconst 4, 1) ∧ 27 = 26 + 1 := by decide +kernel
theorem d_J6_bitCount_0f7a4_27 : decode cJ6_bitCount_0f7a4 27 = .ok (.iushr, 1) ∧ 28 = 27 + 1 := by decide +kernel
theorem d_J6_bitCount_0f7a4_28 : decode cJ6_bitCount_0f7a4 28 = .ok (.iadd, 1) ∧ 29 = 28 + 1 := by decide +kernel
theorem d_J6_bitCount_0f7a4_29 : decode cJ6_bitCount_0f7a4 29 = .ok (.ldc_w 267, 3) ∧ 32 = 29 + 3 := by decide +kernel
theorem d_J6_bitCount_0f7a4_32 : decode cJ6_bitCount_0f7a4 32 = .ok (.iand, 1) ∧ 33 = 32 + 1 := by decide +kernel
theorem d_J6_bitCount_0f7a4_33 : decode cJ6_bitCount_0f7a4 33 = .ok (.istore_n 0, 1) ∧ 34 = 33 + 1 := by decide +kernel
theorem d_J6_bitCount_0f7a4_34 : decode cJ6_bitCount_0f7a4 34 = .ok (.iload_n 0, 1) ∧ 35 = 34 + 1 := by decide +kernel
theorem d_J6_bitCount_0f7a4_35 : decode cJ6_bitCount_0f7a4 35 = .ok (.iload_n 0, 1) ∧ 36 = 35 + 1 := by decide +kernel
theorem d_J6_bitCount_0f7a4_36 : decode cJ6_bitCount_0f7a4 36 = .ok (.bipush 8, 2) ∧ 38 = 36 + 2 := by decide +kernel
theorem d_J6_bitCount_0f7a4_38 : decode cJ6_bitCount_0f7a4 38 = .ok (.iushr, 1) ∧ 39 = 38 + 1 := by decide +kernel
theorem d_J6_bitCount_0f7a4_39 : decode cJ6_bitCount_0f7a4 39 = .ok (.iadd, 1) ∧ 40 = 39 + 1 := by decide +kernel
theorem d_J6_bitCount_0f7a4_40 : decode cJ6_bitCount_0f7a4 40 = .ok (.istore_n 0, 1) ∧ 41 = 40 + 1 := by decide +kernel
theorem d_J6_bitCount_0f7a4_41 : decode cJ6_bitCount_0f7a4 41 = .ok (.iload_n 0, 1) ∧ 42 = 41 + 1 := by decide +kernel
theorem d_J6_bitCount_0f7a4_42 : decode cJ6_bitCount_0f7a4 42 = .ok (.iload_n 0, 1) ∧ 43 = 42 + 1 := by decide +kernel
theorem d_J6_bitCount_0f7a4_43 : decode cJ6_bitCount_0f7a4 43 = .ok (.bipush 16, 2) ∧ 45 = 43 + 2 := by decide +kernel
theorem d_J6_bitCount_0f7a4_45 : decode cJ6_bitCount_0f7a4 45 = .ok (.iushr, 1) ∧ 46 = 45 + 1 := by decide +kernel
theorem d_J6_bitCount_0f7a4_46 : decode cJ6_bitCount_0f7a4 46 = .ok (.iadd, 1) ∧ 47 = 46 + 1 := by decide +kernel
theorem d_J6_bitCount_0f7a4_47 : decode cJ6_bitCount_0f7a4 47 = .ok (.istore_n 0, 1) ∧ 48 = 47 + 1 := by decide +kernel
theorem d_J6_bitCount_0f7a4_48 : decode cJ6_bitCount_0f7a4 48 = .ok (.iload_n 0, 1) ∧ 49 = 48 + 1 := by decide +kernel
theorem d_J6_bitCount_0f7a4_49 : decode cJ6_bitCount_0f7a4 49 = .ok (.bipush 63, 2) ∧ 51 = 49 + 2 := by decide +kernel
theorem d_J6_bitCount_0f7a4_51 : decode cJ6_bitCount_0f7a4 51 = .ok (.iand, 1) ∧ 52 = 51 + 1 := by decide +kernel
theorem d_J6_bitCount_0f7a4_52 : decode cJ6_bitCount_0f7a4 52 = .ok (.ireturn, 1) := by decide +kernel
theorem d_J9_floorDiv_7cf53_0 : decode cJ9_floorDiv_7cf53 0 = .ok (.iload_n 0, 1) ∧ 1 = 0 + 1 := by decide +kernel
theorem d_J9_floorDiv_7cf53_1 : decode cJ9_floorDiv_7cf53 1 = .ok (.iload_n 1, 1) ∧ 2 = 1 + 1 := by decide +kernel
theorem d_J9_floorDiv_7cf53_2 : decode cJ9_floorDiv_7cf53 2 = .ok (.idiv, 1) ∧ 3 = 2 + 1 := by decide +kernel
theorem d_J9_floorDiv_7cf53_3 : decode cJ9_floorDiv_7cf53 3 = .ok (.istore_n 2, 1) ∧ 4 = 3 + 1 := by decide +kernel
theorem d_J9_floorDiv_7cf53_4 : decode cJ9_floorDiv_7cf53 4 = .ok (.iload_n 0, 1) ∧ 5 = 4 + 1 := by decide +kernel
theorem d_J9_floorDiv_7cf53_5 : decode cJ9_floorDiv_7cf53 5 = .ok (.iload_n 1, 1) ∧ 6 = 5 + 1 := by decide +kernel
theorem d_J9_floorDiv_7cf53_6 : decode cJ9_floorDiv_7cf53 6 = .ok (.ixor, 1) ∧ 7 = 6 + 1 := by decide +kernel
theorem d_J9_floorDiv_7cf53_7 : decode cJ9_floorDiv_7cf53 7 = .ok (.ifCond .ge 14, 3) ∧ 10 = 7 + 3 ∧ (7 : Int) + 14 = ((21 : Nat) : Int) := by decide +kernel
theorem d_J9_floorDiv_7cf53_10 : decode cJ9_floorDiv_7cf53 10 = .ok (.iload_n 2, 1) ∧ 11 = 10 + 1 := by decide +kernel
theorem d_J9_floorDiv_7cf53_11 : decode cJ9_floorDiv_7cf53 11 = .ok (.iload_n 1, 1) ∧ 12 = 11 + 1 := by decide +kernel
theorem d_J9_floorDiv_7cf53_12 : decode cJ9_floorDiv_7cf53 12 = .ok (.imul, 1) ∧ 13 = 12 + 1 := by decide +kernel
theorem d_J9_floorDiv_7cf53_13 : decode cJ9_floorDiv_7cf53 13 = .ok (.iload_n 0, 1) ∧ 14 = 13 + 1 := by decide +kernel
theorem d_J9_floorDiv_7cf53_14 : decode cJ9_floorDiv_7cf53 14 = .ok (.if_icmp .eq 7, 3) ∧ 17 = 14 + 3 ∧ (14 : Int) + 7 = ((21 : Nat) : Int) := by decide +kernel
theorem d_J9_floorDiv_7cf53_17 : decode cJ9_floorDiv_7cf53 17 = .ok (.iload_n 2, 1) ∧ 18 = 17 + 1 := by decide +kernel
theorem d_J9_floorDiv_7cf53_18 : decode cJ9_floorDiv_7cf53 18 = .ok (.iconst 1, 1) ∧ 19 = 18 + 1 := by decide +kernel
theorem d_J9_floorDiv_7cf53_19 : decode cJ9_floorDiv_7cf53 19 = .ok (.isub, 1) ∧ 20 = 19 + 1 := by decide +kernel
theorem d_J9_floorDiv_7cf53_20 : decode cJ9_floorDiv_7cf53 20 = .ok (.ireturn, 1) := by decide +kernel
theorem d_J9_floorDiv_7cf53_21 : decode cJ9_floorDiv_7cf53 21 = .ok (.iload_n 2, 1) ∧ 22 = 21 + 1 := by decide +kernel
theorem d_J9_floorDiv_7cf53_22 : decode cJ9_floorDiv_7cf53 22 = .ok (.ireturn, 1) := by decide +kernel
theorem d_J9_abs_0f7a4_0 : decode cJ9_abs_0f7a4 0 = .ok (.iload_n 0, 1) ∧ 1 = 0 + 1 := by decide +kernel
theorem d_J9_abs_0f7a4_1 : decode cJ9_abs_0f7a4 1 = .ok (.ifCond .ge 8, 3) ∧ 4 = 1 + 3 ∧ (1 : Int) + 8 = ((9 : Nat) : Int) := by decide +kernel
theorem d_J9_abs_0f7a4_4 : decode cJ9_abs_0f7a4 4 = .ok (.iload_n 0, 1) ∧ 5 = 4 + 1 := by decide +kernel
theorem d_J9_abs_0f7a4_5 : decode cJ9_abs_0f7a4 5 = .ok (.ineg, 1) ∧ 6 = 5 + 1 := by decide +kernel
theorem d_J9_abs_0f7a4_6 : decode cJ9_abs_0f7a4 6 = .ok (.goto 4, 3) ∧ (6 : Int) + (4) = ((10 : Nat) : Int) := by decide +kernel
theorem d_J9_abs_0f7a4_9 : decode cJ9_abs_0f7a4 9 = .ok (.iload_n 0, 1) ∧ 10 = 9 + 1 := by decide +kernel
theorem d_J9_abs_0f7a4_10 : decode cJ9_abs_0f7a4 10 = .ok (.ireturn, 1) := by decide +kernel
theorem d_J9_abs_067f4_0 : decode cJ9_abs_067f4 0 = .ok (.lload_n 0, 1) ∧ 1 = 0 + 1 := by decide +kernel
theorem d_J9_abs_067f4_1 : decode cJ9_abs_067f4 1 = .ok (.lconst 0, 1) ∧ 2 = 1 + 1 := by decide +kernel
theorem d_J9_abs_067f4_2 : decode cJ9_abs_067f4 2 = .ok (.lcmp, 1) ∧ 3 = 2 + 1 := by decide +kernel
theorem d_J9_abs_067f4_3 : decode cJ9_abs_067f4 3 = .ok (.ifCond .ge 8, 3) ∧ 6 = 3 + 3 ∧ (3 : Int) + 8 = ((11 : Nat) : Int) := by decide +kernel
theorem d_J9_abs_067f4_6 : decode cJ9_abs_067f4 6 = .ok (.lload_n 0, 1) ∧ 7 = 6 + 1 := by decide +kernel
theorem d_J9_abs_067f4_7 : decode cJ9_abs_067f4 7 = .ok (.lneg, 1) ∧ 8 = 7 + 1 := by decide +kernel
theorem d_J9_abs_067f4_8 : decode cJ9_abs_067f4 8 = .ok (.goto 4, 3) ∧ (8 : Int) + (4) = ((12 : Nat) : Int) := by decide +kernel
theorem d_J9_abs_067f4_11 : decode cJ9_abs_067f4 11 = .ok (.lload_n 0, 1) ∧ 12 = 11 + 1 := by decide +kernel
theorem d_J9_abs_067f4_12 : decode cJ9_abs_067f4 12 = .ok (.lreturn, 1) := by decide +kernel
theorem d_J9_max_7cf53_0 : decode cJ9_max_7cf53 0 = .ok (.iload_n 0, 1) ∧ 1 = 0 + 1 := by decide +kernel
theorem d_J9_max_7cf53_1 : decode cJ9_max_7cf53 1 = .ok (.iload_n 1, 1) ∧ 2 = 1 + 1 := by decide +kernel
theorem d_J9_max_7cf53_2 : decode cJ9_max_7cf53 2 = .ok (.if_icmp .lt 7, 3) ∧ 5 = 2 + 3 ∧ (2 : Int) + 7 = ((9 : Nat) : Int) := by decide +kernel
theorem d_J9_max_7cf53_5 : decode cJ9_max_7cf53 5 = .ok (.iload_n 0, 1) ∧ 6 = 5 + 1 := by decide +kernel
theorem d_J9_max_7cf53_6 : decode cJ9_max_7cf53 6 = .ok (.goto 4, 3) ∧ (6 : Int) + (4) = ((10 : Nat) : Int) := by decide +kernel
theorem d_J9_max_7cf53_9 : decode cJ9_max_7cf53 9 = .ok (.iload_n 1, 1) ∧ 10 = 9 + 1 := by decide +kernel
theorem d_J9_max_7cf53_10 : decode cJ9_max_7cf53 10 = .ok (.ireturn, 1) := by decide +kernel
theorem d_J9_max_f86c9_0 : decode cJ9_max_f86c9 0 = .ok (.lload_n 0, 1) ∧ 1 = 0 + 1 := by decide +kernel
theorem d_J9_max_f86c9_1 : decode cJ9_max_f86c9 1 = .ok (.lload_n 2, 1) ∧ 2 = 1 + 1 := by decide +kernel
theorem d_J9_max_f86c9_2 : decode cJ9_max_f86c9 2 = .ok (.lcmp, 1) ∧ 3 = 2 + 1 := by decide +kernel
theorem d_J9_max_f86c9_3 : decode cJ9_max_f86c9 3 = .ok (.ifCond .lt 7, 3) ∧ 6 = 3 + 3 ∧ (3 : Int) + 7 = ((10 : Nat) : Int) := by decide +kernel
theorem d_J9_max_f86c9_6 : decode cJ9_max_f86c9 6 = .ok (.lload_n 0, 1) ∧ 7 = 6 + 1 := by decide +kernel
theorem d_J9_max_f86c9_7 : decode cJ9_max_f86c9 7 = .ok (.goto 4, 3) ∧ (7 : Int) + (4) = ((11 : Nat) : Int) := by decide +kernel
theorem d_J9_max_f86c9_10 : decode cJ9_max_f86c9 10 = .ok (.lload_n 2, 1) ∧ 11 = 10 + 1 := by decide +kernel
theorem d_J9_max_f86c9_11 : decode cJ9_max_f86c9 11 = .ok (.lreturn, 1) := by decide +kernel
theorem d_J9_min_7cf53_0 : decode cJ9_min_7cf53 0 = .ok (.iload_n 0, 1) ∧ 1 = 0 + 1 := by decide +kernel
theorem d_J9_min_7cf53_1 : decode cJ9_min_7cf53 1 = .ok (.iload_n 1, 1) ∧ 2 = 1 + 1 := by decide +kernel
theorem d_J9_min_7cf53_2 : decode cJ9_min_7cf53 2 = .ok (.if_icmp .gt 7, 3) ∧ 5 = 2 + 3 ∧ (2 : Int) + 7 = ((9 : Nat) : Int) := by decide +kernel
theorem d_J9_min_7cf53_5 : decode cJ9_min_7cf53 5 = .ok (.iload_n 0, 1) ∧ 6 = 5 + 1 := by decide +kernel
theorem d_J9_min_7cf53_6 : decode cJ9_min_7cf53 6 = .ok (.goto 4, 3) ∧ (6 : Int) + (4) = ((10 : Nat) : Int) := by decide +kernel
theorem d_J9_min_7cf53_9 : decode cJ9_min_7cf53 9 = .ok (.iload_n 1, 1) ∧ 10 = 9 + 1 := by decide +kernel
theorem d_J9_min_7cf53_10 : decode cJ9_min_7cf53 10 = .ok (.ireturn, 1) := by decide +kernel
theorem d_J9_min_f86c9_0 : decode cJ9_min_f86c9 0 = .ok (.lload_n 0, 1) ∧ 1 = 0 + 1 := by decide +kernel
theorem d_J9_min_f86c9_1 : decode cJ9_min_f86c9 1 = .ok (.lload_n 2, 1) ∧ 2 = 1 + 1 := by decide +kernel
theorem d_J9_min_f86c9_2 : decode cJ9_min_f86c9 2 = .ok (.lcmp, 1) ∧ 3 = 2 + 1 := by decide +kernel
theorem d_J9_min_f86c9_3 : decode cJ9_min_f86c9 3 = .ok (.ifCond .gt 7, 3) ∧ 6 = 3 + 3 ∧ (3 : Int) + 7 = ((10 : Nat) : Int) := by decide +kernel
theorem d_J9_min_f86c9_6 : decode cJ9_min_f86c9 6 = .ok (.lload_n 0, 1) ∧ 7 = 6 + 1 := by decide +kernel
theorem d_J9_min_f86c9_7 : decode cJ9_min_f86c9 7 = .ok (.goto 4, 3) ∧ (7 : Int) + (4) = ((11 : Nat) : Int) := by decide +kernel
theorem d_J9_min_f86c9_10 : decode cJ9_min_f86c9 10 = .ok (.lload_n 2, 1) ∧ 11 = 10 + 1 := by decide +kernel
theorem d_J9_min_f86c9_11 : decode cJ9_min_f86c9 11 = .ok (.lreturn, 1) := by decide +kernel
theorem d_J0_length_8abf5_0 : decode cJ0_length_8abf5 0 = .ok (.aload_n 0, 1) ∧ 1 = 0 + 1 := by decide +kernel
theorem d_J0_length_8abf5_1 : decode cJ0_length_8abf5 1 = .ok (.getfield 9, 3) ∧ 4 = 1 + 3 := by decide +kernel
theorem d_J0_length_8abf5_4 : decode cJ0_length_8abf5 4 = .ok (.arraylength, 1) ∧ 5 = 4 + 1 := by decide +kernel
theorem d_J0_length_8abf5_5 : decode cJ0_length_8abf5 5 = .ok (.aload_n 0, 1) ∧ 6 = 5 + 1 := by decide +kernel
theorem d_J0_length_8abf5_6 : decode cJ0_length_8abf5 6 = .ok (.invokevirtual 335, 3) ∧ 9 = 6 + 3 := by decide +kernel
theorem d_J0_length_8abf5_9 : decode cJ0_length_8abf5 9 = .ok (.ishr, 1) ∧ 10 = 9 + 1 := by decide +kernel
theorem d_J0_length_8abf5_10 : decode cJ0_length_8abf5 10 = .ok (.ireturn, 1) := by decide +kernel
theorem d_J0_charAt_5068e_0 : decode cJ0_charAt_5068e 0 = .ok (.aload_n 0, 1) ∧ 1 = 0 + 1 := by decide +kernel
theorem d_J0_charAt_5068e_1 : decode cJ0_charAt_5068e 1 = .ok (.invokevirtual 492, 3) ∧ 4 = 1 + 3 := by decide +kernel
theorem d_J0_charAt_5068e_4 : decode cJ0_charAt_5068e 4 = .ok (.ifCond .eq 12, 3) ∧ 7 = 4 + 3 ∧ (4 : Int) + 12 = ((16 : Nat) : Int) := by decide +kernel
theorem d_J0_charAt_5068e_7 : decode cJ0_charAt_5068e 7 = .ok (.aload_n 0, 1) ∧ 8 = 7 + 1 := by decide +kernel
theorem d_J0_charAt_5068e_8 : decode cJ0_charAt_5068e 8 = .ok (.getfield 9, 3) ∧ 11 = 8 + 3 := by decide +kernel
theorem d_J0_charAt_5068e_11 : decode cJ0_charAt_5068e 11 = .ok (.iload_n 1, 1) ∧ 12 = 11 + 1 := by decide +kernel
theorem d_J0_charAt_5068e_12 : decode cJ0_charAt_5068e 12 = .ok (.invokestatic 495, 3) ∧ 15 = 12 + 3 := by decide +kernel
theorem d_J0_charAt_5068e_15 : decode cJ0_charAt_5068e 15 = .ok (.ireturn, 1) := by decide +kernel
theorem d_J0_charAt_5068e_16 : decode cJ0_charAt_5068e 16 = .ok (.aload_n 0, 1) ∧ 17 = 16 + 1 := by decide +kernel
theorem d_J0_charAt_5068e_17 : decode cJ0_charAt_5068e 17 = .ok (.getfield 9, 3) ∧ 20 = 17 + 3 := by decide +kernel
theorem d_J0_charAt_5068e_20 : decode cJ0_charAt_5068e 20 = .ok (.iload_n 1, 1) ∧ 21 = 20 + 1 := by decide +kernel
theorem d_J0_charAt_5068e_21 : decode cJ0_charAt_5068e 21 = .ok (.invokestatic 498, 3) ∧ 24 = 21 + 3 := by decide +kernel
theorem d_J0_charAt_5068e_24 : decode cJ0_charAt_5068e 24 = .ok (.ireturn, 1) := by decide +kernel
theorem d_J0_coder_7d493_0 : decode cJ0_coder_7d493 0 = .ok (.getstatic 38, 3) ∧ 3 = 0 + 3 := by decide +kernel
theorem d_J0_coder_7d493_3 : decode cJ0_coder_7d493 3 = .ok (.ifCond .eq 10, 3) ∧ 6 = 3 + 3 ∧ (3 : Int) + 10 = ((13 : Nat) : Int) := by decide +kernel
theorem d_J0_coder_7d493_6 : decode cJ0_coder_7d493 6 = .ok (.aload_n 0, 1) ∧ 7 = 6 + 1 := by decide +kernel
theorem d_J0_coder_7d493_7 : decode cJ0_coder_7d493 7 = .ok (.getfield 15, 3) ∧ 10 = 7 + 3 := by decide +kernel
theorem d_J0_coder_7d493_10 : decode cJ0_coder_7d493 10 = .ok (.goto 4, 3) ∧ (10 : Int) + (4) = ((14 : Nat) : Int) := by decide +kernel
theorem d_J0_coder_7d493_13 : decode cJ0_coder_7d493 13 = .ok (.iconst 1, 1) ∧ 14 = 13 + 1 := by decide +kernel
theorem d_J0_coder_7d493_14 : decode cJ0_coder_7d493 14 = .ok (.ireturn, 1) := by decide +kernel
theorem d_J0_isLatin1_aae02_0 : decode cJ0_isLatin1_aae02 0 = .ok (.getstatic 38, 3) ∧ 3 = 0 + 3 := by decide +kernel
theorem d_J0_isLatin1_aae02_3 : decode cJ0_isLatin1_aae02 3 = .ok (.ifCond .eq 14, 3) ∧ 6 = 3 + 3 ∧ (3 : Int) + 14 = ((17 : Nat) : Int) := by decide +kernel
theorem d_J0_isLatin1_aae02_6 : decode cJ0_isLatin1_aae02 6 = .ok (.aload_n 0, 1) ∧ 7 = 6 + 1 := by decide +kernel
theorem d_J0_isLatin1_aae02_7 : decode cJ0_isLatin1_aae02 7 = .ok (.getfield 15, 3) ∧ 10 = 7 + 3 := by decide +kernel
theorem d_J0_isLatin1_aae02_10 : decode cJ0_isLatin1_aae02 10 = .ok (.ifCond .ne 7, 3) ∧ 13 = 10 + 3 ∧ (10 : Int) + 7 = ((17 : Nat) : Int) := by decide +kernel
theorem d_J0_isLatin1_aae02_13 : decode cJ0_isLatin1_aae02 13 = .ok (.iconst 1, 1) ∧ 14 = 13 + 1 := by decide +kernel
theorem d_J0_isLatin1_aae02_14 : decode cJ0_isLatin1_aae02 14 = .ok (.goto 4, 3) ∧ (14 : Int) + (4) = ((18 : Nat) : Int) := by decide +kernel
theorem d_J0_isLatin1_aae02_17 : decode cJ0_isLatin1_aae02 17 = .ok (.iconst 0, 1) ∧ 18 = 17 + 1 := by decide +kernel
theorem d_J0_isLatin1_aae02_18 : decode cJ0_isLatin1_aae02 18 = .ok (.ireturn, 1) := by decide +kernel
theorem d_J0_checkIndex_df160_0 : decode cJ0_checkIndex_df160 0 = .ok (.iload_n 0, 1) ∧ 1 = 0 + 1 := by decide +kernel
theorem d_J0_checkIndex_df160_1 : decode cJ0_checkIndex_df160 1 = .ok (.iload_n 1, 1) ∧ 2 = 1 + 1 := by decide +kernel
theorem d_J0_checkIndex_df160_2 : decode cJ0_checkIndex_df160 2 = .ok (.getstatic 1053, 3) ∧ 5 = 2 + 3 := by decide +kernel
theorem d_J0_checkIndex_df160_5 : decode cJ0_checkIndex_df160 5 = .ok (.invokestatic 1059, 3) ∧ 8 = 5 + 3 := by decide +kernel
theorem d_J0_checkIndex_df160_8 : decode cJ0_checkIndex_df160 8 = .ok (.pop, 1) ∧ 9 = 8 + 1 := by decide +kernel
theorem d_J0_checkIndex_df160_9 : decode cJ0_checkIndex_df160 9 = .ok (.return_, 1) := by decide +kernel
theorem d_J1_charAt_3b067_0 : decode cJ1_charAt_3b067 0 = .ok (.iload_n 1, 1) ∧ 1 = 0 + 1 := by decide +kernel
theorem d_J1_charAt_3b067_1 : decode cJ1_charAt_3b067 1 = .ok (.aload_n 0, 1) ∧ 2 = 1 + 1 := by decide +kernel
theorem d_J1_charAt_3b067_2 : decode cJ1_charAt_3b067 2 = .ok (.arraylength, 1) ∧ 3 = 2 + 1 := by decide +kernel
theorem d_J1_charAt_3b067_3 : decode cJ1_charAt_3b067 3 = .ok (.invokestatic 9, 3) ∧ 6 = 3 + 3 := by decide +kernel
theorem d_J1_charAt_3b067_6 : decode cJ1_charAt_3b067 6 = .ok (.aload_n 0, 1) ∧ 7 = 6 + 1 := by decide +kernel
theorem d_J1_charAt_3b067_7 : decode cJ1_charAt_3b067 7 = .ok (.iload_n 1, 1) ∧ 8 = 7 + 1 := by decide +kernel
theorem d_J1_charAt_3b067_8 : decode cJ1_charAt_3b067 8 = .ok (.baload, 1) ∧ 9 = 8 + 1 := by decide +kernel
theorem d_J1_charAt_3b067_9 : decode cJ1_charAt_3b067 9 = .ok (.sipush 255, 3) ∧ 12 = 9 + 3 := by decide +kernel
theorem d_J1_charAt_3b067_12 : decode cJ1_charAt_3b067 12 = .ok (.iand, 1) ∧ 13 = 12 + 1 := by decide +kernel
theorem d_J1_charAt_3b067_13 : decode cJ1_charAt_3b067 13 = .ok (.i2c, 1) ∧ 14 = 13 + 1 := by decide +kernel
theorem d_J1_charAt_3b067_14 : decode cJ1_charAt_3b067 14 = .ok (.ireturn, 1) := by decide +kernel
theorem d_J2_getChar_3b067_0 : decode cJ2_getChar_3b067 0 = .ok (.getstatic 44, 3) ∧ 3 = 0 + 3 := by decide +kernel
theorem d_J2_getChar_3b067_3 : decode cJ2_getChar_3b067 3 = .ok (.ifCond .ne 25, 3) ∧ 6 = 3 + 3 ∧ (3 : Int) + 25 = ((28 : Nat) : Int) := by decide +kernel
theorem d_J2_getChar_3b067_6 : decode cJ2_getChar_3b067 6 = .ok (.iload_n 1, 1) ∧ 7 = 6 + 1 := by decide +kernel
theorem d_J2_getChar_3b067_7 : decode cJ2_getChar_3b067 7 = .ok (.ifCond .lt 11, 3) ∧ 10 = 7 + 3 ∧ (7 : Int) + 11 = ((18 : Nat) : Int) := by decide +kernel
theorem d_J2_getChar_3b067_10 : decode cJ2_getChar_3b067 10 = .ok (.iload_n 1, 1) ∧ 11 = 10 + 1 := by decide +kernel
theorem d_J2_getChar_3b067_11 : decode cJ2_getChar_3b067 11 = .ok (.aload_n 0, 1) ∧ 12 = 11 + 1 := by decide +kernel
theorem d_J2_getChar_3b067_12 : decode cJ2_getChar_3b067 12 = .ok (.invokestatic 48, 3) ∧ 15 = 12 + 3 := by decide +kernel
theorem d_J2_getChar_3b067_15 : decode cJ2_getChar_3b067 15 = .ok (.if_icmp .lt 13, 3) ∧ 18 = 15 + 3 ∧ (15 : Int) + 13 = ((28 : Nat) : Int) := by decide +kernel
theorem d_J2_getChar_3b067_18 : decode cJ2_getChar_3b067 18 = .ok (.new 52, 3) ∧ 21 = 18 + 3 := by decide +kernel
theorem d_J2_getChar_3b067_21 : decode cJ2_getChar_3b067 21 = .ok (.dup, 1) ∧ 22 = 21 + 1 := by decide +kernel
theorem d_J2_getChar_3b067_22 : decode cJ2_getChar_3b067 22 = .ok (.ldc 54, 2) ∧ 24 = 22 + 2 := by decide +kernel
theorem d_J2_getChar_3b067_24 : decode cJ2_getChar_3b067 24 = .ok (.invokespecial 56, 3) ∧ 27 = 24 + 3 := by decide +kernel
theorem d_J2_getChar_3b067_27 : decode cJ2_getChar_3b067 27 = .ok (.athrow, 1) := by decide +kernel
theorem d_J2_getChar_3b067_28 : decode cJ2_getChar_3b067 28 = .ok (.iload_n 1, 1) ∧ 29 = 28 + 1 := by decide +kernel
theorem d_J2_getChar_3b067_29 : decode cJ2_getChar_3b067 29 = .ok (.iconst 1, 1) ∧ 30 = 29 + 1 := by decide +kernel
theorem d_J2_getChar_3b067_30 : decode cJ2_getChar_3b067 30 = .ok (.ishl, 1) ∧ 31 = 30 + 1 := by decide +kernel
theorem d_J2_getChar_3b067_31 : decode cJ2_getChar_3b067 31 = .ok (.istore_n 1, 1) ∧ 32 = 31 + 1 := by decide +kernel
theorem d_J2_getChar_3b067_32 : decode cJ2_getChar_3b067 32 = .ok (.aload_n 0, 1) ∧ 33 = 32 + 1 := by decide +kernel
theorem d_J2_getChar_3b067_33 : decode cJ2_getChar_3b067 33 = .ok (.iload_n 1, 1) ∧ 34 = 33 + 1 := by decide +kernel
theorem d_J2_getChar_3b067_34 : decode cJ2_getChar_3b067 34 = .ok (.iinc 1 1, 3) ∧ 37 = 34 + 3 := by decide +kernel
theorem d_J2_getChar_3b067_37 : decode cJ2_getChar_3b067 37 = .ok (.baload, 1) ∧ 38 = 37 + 1 := by decide +kernel
theorem d_J2_getChar_3b067_38 : decode cJ2_getChar_3b067 38 = .ok (.sipush 255, 3) ∧ 41 = 38 + 3 := by decide +kernel
theorem d_J2_getChar_3b067_41 : decode cJ2_getChar_3b067 41 = .ok (.iand, 1) ∧ 42 = 41 + 1 := by decide +kernel
theorem d_J2_getChar_3b067_42 : decode cJ2_getChar_3b067 42 = .ok (.getstatic 59, 3) ∧ 45 = 42 + 3 := by decide +kernel
theorem d_J2_getChar_3b067_45 : decode cJ2_getChar_3b067 45 = .ok (.ishl, 1) ∧ 46 = 45 + 1 := by decide +kernel
theorem d_J2_getChar_3b067_46 : decode cJ2_getChar_3b067 46 = .ok (.aload_n 0, 1) ∧ 47 = 46 + 1 := by decide +kernel
theorem d_J2_getChar_3b067_47 : decode cJ2_getChar_3b067 47 = .ok (.iload_n 1, 1) ∧ 48 = 47 + 1 := by decide +kernel
theorem d_J2_getChar_3b067_48 : decode cJ2_getChar_3b067 48 = .ok (.baload, 1) ∧ 49 = 48 + 1 := by decide +kernel
theorem d_J2_getChar_3b067_49 : decode cJ2_getChar_3b067 49 = .ok (.sipush 255, 3) ∧ 52 = 49 + 3 := by decide +kernel
theorem d_J2_getChar_3b067_52 : decode cJ2_getChar_3b067 52 = .ok (.iand, 1) ∧ 53 = 52 + 1 := by decide +kernel
theorem d_J2_getChar_3b067_53 : decode cJ2_getChar_3b067 53 = .ok (.getstatic 63, 3) ∧ 56 = 53 + 3 := by decide +kernel
theorem d_J2_getChar_3b067_56 : decode cJ2_getChar_3b067 56 = .ok (.ishl, 1) ∧ 57 = 56 + 1 := by decide +kernel
theorem d_J2_getChar_3b067_57 : decode cJ2_getChar_3b067 57 = .ok (.ior, 1) ∧ 58 = 57 + 1 := by decide +kernel
theorem d_J2_getChar_3b067_58 : decode cJ2_getChar_3b067 58 = .ok (.i2c, 1) ∧ 59 = 58 + 1 := by decide +kernel
theorem d_J2_getChar_3b067_59 : decode cJ2_getChar_3b067 59 = .ok (.ireturn, 1) := by decide +kernel
theorem d_J2_length_9d52b_0 : decode cJ2_length_9d52b 0 = .ok (.aload_n 0, 1) ∧ 1 = 0 + 1 := by decide +kernel
theorem d_J2_length_9d52b_1 : decode cJ2_length_9d52b 1 = .ok (.arraylength, 1) ∧ 2 = 1 + 1 := by decide +kernel
theorem d_J2_length_9d52b_2 : decode cJ2_length_9d52b 2 = .ok (.iconst 1, 1) ∧ 3 = 2 + 1 := by decide +kernel
theorem d_J2_length_9d52b_3 : decode cJ2_length_9d52b 3 = .ok (.ishr, 1) ∧ 4 = 3 + 1 := by decide +kernel
theorem d_J2_length_9d52b_4 : decode cJ2_length_9d52b 4 = .ok (.ireturn, 1) := by decide +kernel
theorem d_J2_charAt_3b067_0 : decode cJ2_charAt_3b067 0 = .ok (.iload_n 1, 1) ∧ 1 = 0 + 1 := by decide +kernel
theorem d_J2_charAt_3b067_1 : decode cJ2_charAt_3b067 1 = .ok (.aload_n 0, 1) ∧ 2 = 1 + 1 := by decide +kernel
theorem d_J2_charAt_3b067_2 : decode cJ2_charAt_3b067 2 = .ok (.invokestatic 67, 3) ∧ 5 = 2 + 3 := by decide +kernel
theorem d_J2_charAt_3b067_5 : decode cJ2_charAt_3b067 5 = .ok (.aload_n 0, 1) ∧ 6 = 5 + 1 := by decide +kernel
theorem d_J2_charAt_3b067_6 : decode cJ2_charAt_3b067 6 = .ok (.iload_n 1, 1) ∧ 7 = 6 + 1 := by decide +kernel
theorem d_J2_charAt_3b067_7 : decode cJ2_charAt_3b067 7 = .ok (.invokestatic 71, 3) ∧ 10 = 7 + 3 := by decide +kernel
theorem d_J2_charAt_3b067_10 : decode cJ2_charAt_3b067 10 = .ok (.ireturn, 1) := by decide +kernel
theorem d_J2_checkIndex_2214a_0 : decode cJ2_checkIndex_2214a 0 = .ok (.iload_n 0, 1) ∧ 1 = 0 + 1 := by decide +kernel
theorem d_J2_checkIndex_2214a_1 : decode cJ2_checkIndex_2214a 1 = .ok (.aload_n 1, 1) ∧ 2 = 1 + 1 := by decide +kernel
theorem d_J2_checkIndex_2214a_2 : decode cJ2_checkIndex_2214a 2 = .ok (.invokestatic 48, 3) ∧ 5 = 2 + 3 := by decide +kernel
theorem d_J2_checkIndex_2214a_5 : decode cJ2_checkIndex_2214a 5 = .ok (.invokestatic 414, 3) ∧ 8 = 5 + 3 := by decide +kernel
theorem d_J2_checkIndex_2214a_8 : decode cJ2_checkIndex_2214a 8 = .ok (.return_, 1) := by decide +kernel
theorem d_J7_fill_53178_0 : decode cJ7_fill_53178 0 = .ok (.iconst 0, 1) ∧ 1 = 0 + 1 := by decide +kernel
theorem d_J7_fill_53178_1 : decode cJ7_fill_53178 1 = .ok (.istore_n 2, 1) ∧ 2 = 1 + 1 := by decide +kernel
theorem d_J7_fill_53178_2 : decode cJ7_fill_53178 2 = .ok (.aload_n 0, 1) ∧ 3 = 2 + 1 := by decide +kernel
theorem d_J7_fill_53178_3 : decode cJ7_fill_53178 3 = .ok (.arraylength, 1) ∧ 4 = 3 + 1 := by decide +kernel
theorem d_J7_fill_53178_4 : decode cJ7_fill_53178 4 = .ok (.istore_n 3, 1) ∧ 5 = 4 + 1 := by decide +kernel
theorem d_J7_fill_53178_5 : decode cJ7_fill_53178 5 = .ok (.iload_n 2, 1) ∧ 6 = 5 + 1 := by decide +kernel
theorem d_J7_fill_53178_6 : decode cJ7_fill_53178 6 = .ok (.iload_n 3, 1) ∧ 7 = 6 + 1 := by decide +kernel
theorem d_J7_fill_53178_7 : decode cJ7_fill_53178 7 = .ok (.if_icmp .ge 13, 3) ∧ 10 = 7 + 3 ∧ (7 : Int) + 13 = ((20 : Nat) : Int) := by decide +kernel
theorem d_J7_fill_53178_10 : decode cJ7_fill_53178 10 = .ok (.aload_n 0, 1) ∧ 11 = 10 + 1 := by decide +kernel
theorem d_J7_fill_53178_11 : decode cJ7_fill_53178 11 = .ok (.iload_n 2, 1) ∧ 12 = 11 + 1 := by decide +kernel
theorem d_J7_fill_53178_12 : decode cJ7_fill_53178 12 = .ok (.iload_n 1, 1) ∧ 13 = 12 + 1 := by decide +kernel
theorem d_J7_fill_53178_13 : decode cJ7_fill_53178 13 = .ok (.iastore, 1) ∧ 14 = 13 + 1 := by decide +kernel
theorem d_J7_fill_53178_14 : decode cJ7_fill_53178 14 = .ok (.iinc 2 1, 3) ∧ 17 = 14 + 3 := by decide +kernel
theorem d_J7_fill_53178_17 : decode cJ7_fill_53178 17 = .ok (.goto (-12), 3) ∧ (17 : Int) + ((-12)) = ((5 : Nat) : Int) := by decide +kernel
theorem d_J7_fill_53178_20 : decode cJ7_fill_53178 20 = .ok (.return_, 1) := by decide +kernel
theorem d_J3_checkIndex_8e157_0 : decode cJ3_checkIndex_8e157 0 = .ok (.iload_n 0, 1) ∧ 1 = 0 + 1 := by decide +kernel
theorem d_J3_checkIndex_8e157_1 : decode cJ3_checkIndex_8e157 1 = .ok (.ifCond .lt 8, 3) ∧ 4 = 1 + 3 ∧ (1 : Int) + 8 = ((9 : Nat) : Int) := by decide +kernel
theorem d_J3_checkIndex_8e157_4 : decode cJ3_checkIndex_8e157 4 = .ok (.iload_n 0, 1) ∧ 5 = 4 + 1 := by decide +kernel
theorem d_J3_checkIndex_8e157_5 : decode cJ3_checkIndex_8e157 5 = .ok (.iload_n 1, 1) ∧ 6 = 5 + 1 := by decide +kernel
theorem d_J3_checkIndex_8e157_6 : decode cJ3_checkIndex_8e157 6 = .ok (.if_icmp .lt 10, 3) ∧ 9 = 6 + 3 ∧ (6 : Int) + 10 = ((16 : Nat) : Int) := by decide +kernel
theorem d_J3_checkIndex_8e157_9 : decode cJ3_checkIndex_8e157 9 = .ok (.aload_n 2, 1) ∧ 10 = 9 + 1 := by decide +kernel
theorem d_J3_checkIndex_8e157_10 : decode cJ3_checkIndex_8e157 10 = .ok (.iload_n 0, 1) ∧ 11 = 10 + 1 := by decide +kernel
theorem d_J3_checkIndex_8e157_11 : decode cJ3_checkIndex_8e157 11 = .ok (.iload_n 1, 1) ∧ 12 = 11 + 1 := by decide +kernel
theorem d_J3_checkIndex_8e157_12 : decode cJ3_checkIndex_8e157 12 = .ok (.invokestatic 95, 3) ∧ 15 = 12 + 3 := by decide +kernel
theorem d_J3_checkIndex_8e157_15 : decode cJ3_checkIndex_8e157 15 = .ok (.athrow, 1) := by decide +kernel
theorem d_J3_checkIndex_8e157_16 : decode cJ3_checkIndex_8e157 16 = .ok (.iload_n 0, 1) ∧ 17 = 16 + 1 := by decide +kernel
theorem d_J3_checkIndex_8e157_17 : decode cJ3_checkIndex_8e157 17 = .ok (.ireturn, 1) := by decide +kernel
theorem d_L_law_0 : decode cL_law 0 = .ok (.new 7, 3) ∧ 3 = 0 + 3 := by decide +kernel
theorem d_L_law_3 : decode cL_law 3 = .ok (.dup, 1) ∧ 4 = 3 + 1 := by decide +kernel
theorem d_L_law_4 : decode cL_law 4 = .ok (.invokespecial 9, 3) ∧ 7 = 4 + 3 := by decide +kernel
theorem d_L_law_7 : decode cL_law 7 = .ok (.astore_n 1, 1) ∧ 8 = 7 + 1 := by decide +kernel
theorem d_L_law_8 : decode cL_law 8 = .ok (.new 10, 3) ∧ 11 = 8 + 3 := by decide +kernel
theorem d_L_law_11 : decode cL_law 11 = .ok (.dup, 1) ∧ 12 = 11 + 1 := by decide +kernel
theorem d_L_law_12 : decode cL_law 12 = .ok (.invokespecial 12, 3) ∧ 15 = 12 + 3 := by decide +kernel
theorem d_L_law_15 : decode cL_law 15 = .ok (.astore_n 2, 1) ∧ 16 = 15 + 1 := by decide +kernel
theorem d_L_law_16 : decode cL_law 16 = .ok (.iconst 0, 1) ∧ 17 = 16 + 1 := by decide +kernel
theorem d_L_law_17 : decode cL_law 17 = .ok (.istore_n 3, 1) ∧ 18 = 17 + 1 := by decide +kernel
theorem d_L_law_18 : decode cL_law 18 = .ok (.iload_n 3, 1) ∧ 19 = 18 + 1 := by decide +kernel
theorem d_L_law_19 : decode cL_law 19 = .ok (.aload_n 0, 1) ∧ 20 = 19 + 1 := by decide +kernel
theorem d_L_law_20 : decode cL_law 20 = .ok (.arraylength, 1) ∧ 21 = 20 + 1 := by decide +kernel
theorem d_L_law_21 : decode cL_law 21 = .ok (.bipush 6, 2) ∧ 23 = 21 + 2 := by decide +kernel
theorem d_L_law_23 : decode cL_law 23 = .ok (.isub, 1) ∧ 24 = 23 + 1 := by decide +kernel
theorem d_L_law_24 : decode cL_law 24 = .ok (.if_icmp .gt 1268, 3) ∧ 27 = 24 + 3 ∧ (24 : Int) + 1268 = ((1292 : Nat) : Int) := by decide +kernel
theorem d_L_law_27 : decode cL_law 27 = .ok (.aload_n 0, 1) ∧ 28 = 27 + 1 := by decide +kernel
theorem d_L_law_28 : decode cL_law 28 = .ok (.iload_n 3, 1) ∧ 29 = 28 + 1 := by decide +kernel
theorem d_L_law_29 : decode cL_law 29 = .ok (.iaload, 1) ∧ 30 = 29 + 1 := by decide +kernel
theorem d_L_law_30 : decode cL_law 30 = .ok (.bipush 31, 2) ∧ 32 = 30 + 2 := by decide +kernel
theorem d_L_law_32 : decode cL_law 32 = .ok (.iand, 1) ∧ 33 = 32 + 1 := by decide +kernel
theorem d_L_law_33 : decode cL_law 33 = .ok (.tableswitch 1253 0 27 #[127, 222, 271, 340, 383, 416, 459, 522, 545, 558, 581, 614, 657, 700, 753, 812, 861, 884, 917, 970, 1003, 1046, 1079, 1112, 1161, 1204, 1217, 1230], 127) := by decide +kernel
theorem d_L_law_160 : decode cL_law 160 = .ok (.aload_n 1, 1) ∧ 161 = 160 + 1 := by decide +kernel
theorem d_L_law_161 : decode cL_law 161 = .ok (.aload_n 0, 1) ∧ 162 = 161 + 1 := by decide +kernel
theorem d_L_law_162 : decode cL_law 162 = .ok (.iload_n 3, 1) ∧ 163 = 162 + 1 := by decide +kernel
theorem d_L_law_163 : decode cL_law 163 = .ok (.iconst 1, 1) ∧ 164 = 163 + 1 := by decide +kernel
theorem d_L_law_164 : decode cL_law 164 = .ok (.iadd, 1) ∧ 165 = 164 + 1 := by decide +kernel
theorem d_L_law_165 : decode cL_law 165 = .ok (.iaload, 1) ∧ 166 = 165 + 1 := by decide +kernel
theorem d_L_law_166 : decode cL_law 166 = .ok (.aload_n 0, 1) ∧ 167 = 166 + 1 := by decide +kernel
theorem d_L_law_167 : decode cL_law 167 = .ok (.iload_n 3, 1) ∧ 168 = 167 + 1 := by decide +kernel
theorem d_L_law_168 : decode cL_law 168 = .ok (.iconst 2, 1) ∧ 169 = 168 + 1 := by decide +kernel
theorem d_L_law_169 : decode cL_law 169 = .ok (.iadd, 1) ∧ 170 = 169 + 1 := by decide +kernel
theorem d_L_law_170 : decode cL_law 170 = .ok (.iaload, 1) ∧ 171 = 170 + 1 := by decide +kernel
theorem d_L_law_171 : decode cL_law 171 = .ok (.aload_n 0, 1) ∧ 172 = 171 + 1 := by decide +kernel
theorem d_L_law_172 : decode cL_law 172 = .ok (.iload_n 3, 1) ∧ 173 = 172 + 1 := by decide +kernel
theorem d_L_law_173 : decode cL_law 173 = .ok (.iconst 3, 1) ∧ 174 = 173 + 1 := by decide +kernel
theorem d_L_law_174 : decode cL_law 174 = .ok (.iadd, 1) ∧ 175 = 174 + 1 := by decide +kernel
theorem d_L_law_175 : decode cL_law 175 = .ok (.iaload, 1) ∧ 176 = 175 + 1 := by decide +kernel
theorem d_L_law_176 : decode cL_law 176 = .ok (.aload_n 0, 1) ∧ 177 = 176 + 1 := by decide +kernel
theorem d_L_law_177 : decode cL_law 177 = .ok (.iload_n 3, 1) ∧ 178 = 177 + 1 := by decide +kernel
theorem d_L_law_178 : decode cL_law 178 = .ok (.iconst 4, 1) ∧ 179 = 178 + 1 := by decide +kernel
theorem d_L_law_179 : decode cL_law 179 = .ok (.iadd, 1) ∧ 180 = 179 + 1 := by decide +kernel
theorem d_L_law_180 : decode cL_law 180 = .ok (.iaload, 1) ∧ 181 = 180 + 1 := by decide +kernel
theorem d_L_law_181 : decode cL_law 181 = .ok (.ifCond .eq 7, 3) ∧ 184 = 181 + 3 ∧ (181 : Int) + 7 = ((188 : Nat) : Int) := by decide +kernel
theorem d_L_law_184 : decode cL_law 184 = .ok (.iconst 1, 1) ∧ 185 = 184 + 1 := by decide +kernel
theorem d_L_law_185 : decode cL_law 185 = .ok (.goto 4, 3) ∧ (185 : Int) + (4) = ((189 : Nat) : Int) := by decide +kernel
theorem d_L_law_188 : decode cL_law 188 = .ok (.iconst 0, 1) ∧ 189 = 188 + 1 := by decide +kernel
theorem d_L_law_189 : decode cL_law 189 = .ok (.aload_n 0, 1) ∧ 190 = 189 + 1 := by decide +kernel
theorem d_L_law_190 : decode cL_law 190 = .ok (.iload_n 3, 1) ∧ 191 = 190 + 1 := by decide +kernel
theorem d_L_law_191 : decode cL_law 191 = .ok (.iconst 5, 1) ∧ 192 = 191 + 1 := by decide +kernel
theorem d_L_law_192 : decode cL_law 192 = .ok (.iadd, 1) ∧ 193 = 192 + 1 := by decide +kernel
theorem d_L_law_193 : decode cL_law 193 = .ok (.iaload, 1) ∧ 194 = 193 + 1 := by decide +kernel
theorem d_L_law_194 : decode cL_law 194 = .ok (.ifCond .eq 7, 3) ∧ 197 = 194 + 3 ∧ (194 : Int) + 7 = ((201 : Nat) : Int) := by decide +kernel
theorem d_L_law_197 : decode cL_law 197 = .ok (.iconst 1, 1) ∧ 198 = 197 + 1 := by decide +kernel
theorem d_L_law_198 : decode cL_law 198 = .ok (.goto 4, 3) ∧ (198 : Int) + (4) = ((202 : Nat) : Int) := by decide +kernel
theorem d_L_law_201 : decode cL_law 201 = .ok (.iconst 0, 1) ∧ 202 = 201 + 1 := by decide +kernel
theorem d_L_law_202 : decode cL_law 202 = .ok (.invokevirtual 13, 3) ∧ 205 = 202 + 3 := by decide +kernel
theorem d_L_law_205 : decode cL_law 205 = .ok (.aload_n 2, 1) ∧ 206 = 205 + 1 := by decide +kernel
theorem d_L_law_206 : decode cL_law 206 = .ok (.aload_n 0, 1) ∧ 207 = 206 + 1 := by decide +kernel
theorem d_L_law_207 : decode cL_law 207 = .ok (.iload_n 3, 1) ∧ 208 = 207 + 1 := by decide +kernel
theorem d_L_law_208 : decode cL_law 208 = .ok (.iconst 1, 1) ∧ 209 = 208 + 1 := by decide +kernel
theorem d_L_law_209 : decode cL_law 209 = .ok (.iadd, 1) ∧ 210 = 209 + 1 := by decide +kernel
theorem d_L_law_210 : decode cL_law 210 = .ok (.iaload, 1) ∧ 211 = 210 + 1 := by decide +kernel
theorem d_L_law_211 : decode cL_law 211 = .ok (.aload_n 0, 1) ∧ 212 = 211 + 1 := by decide +kernel
theorem d_L_law_212 : decode cL_law 212 = .ok (.iload_n 3, 1) ∧ 213 = 212 + 1 := by decide +kernel
theorem d_L_law_213 : decode cL_law 213 = .ok (.iconst 2, 1) ∧ 214 = 213 + 1 := by decide +kernel
theorem d_L_law_214 : decode cL_law 214 = .ok (.iadd, 1) ∧ 215 = 214 + 1 := by decide +kernel
theorem d_L_law_215 : decode cL_law 215 = .ok (.iaload, 1) ∧ 216 = 215 + 1 := by decide +kernel
theorem d_L_law_216 : decode cL_law 216 = .ok (.aload_n 0, 1) ∧ 217 = 216 + 1 := by decide +kernel
theorem d_L_law_217 : decode cL_law 217 = .ok (.iload_n 3, 1) ∧ 218 = 217 + 1 := by decide +kernel
theorem d_L_law_218 : decode cL_law 218 = .ok (.iconst 3, 1) ∧ 219 = 218 + 1 := by decide +kernel
theorem d_L_law_219 : decode cL_law 219 = .ok (.iadd, 1) ∧ 220 = 219 + 1 := by decide +kernel
theorem d_L_law_220 : decode cL_law 220 = .ok (.iaload, 1) ∧ 221 = 220 + 1 := by decide +kernel
theorem d_L_law_221 : decode cL_law 221 = .ok (.aload_n 0, 1) ∧ 222 = 221 + 1 := by decide +kernel
theorem d_L_law_222 : decode cL_law 222 = .ok (.iload_n 3, 1) ∧ 223 = 222 + 1 := by decide +kernel
theorem d_L_law_223 : decode cL_law 223 = .ok (.iconst 4, 1) ∧ 224 = 223 + 1 := by decide +kernel
theorem d_L_law_224 : decode cL_law 224 = .ok (.iadd, 1) ∧ 225 = 224 + 1 := by decide +kernel
theorem d_L_law_225 : decode cL_law 225 = .ok (.iaload, 1) ∧ 226 = 225 + 1 := by decide +kernel
theorem d_L_law_226 : decode cL_law 226 = .ok (.ifCond .eq 7, 3) ∧ 229 = 226 + 3 ∧ (226 : Int) + 7 = ((233 : Nat) : Int) := by decide +kernel
theorem d_L_law_229 : decode cL_law 229 = .ok (.iconst 1, 1) ∧ 230 = 229 + 1 := by decide +kernel
theorem d_L_law_230 : decode cL_law 230 = .ok (.goto 4, 3) ∧ (230 : Int) + (4) = ((234 : Nat) : Int) := by decide +kernel
theorem d_L_law_233 : decode cL_law 233 = .ok (.iconst 0, 1) ∧ 234 = 233 + 1 := by decide +kernel
theorem d_L_law_234 : decode cL_law 234 = .ok (.aload_n 0, 1) ∧ 235 = 234 + 1 := by decide +kernel
theorem d_L_law_235 : decode cL_law 235 = .ok (.iload_n 3, 1) ∧ 236 = 235 + 1 := by decide +kernel
theorem d_L_law_236 : decode cL_law 236 = .ok (.iconst 5, 1) ∧ 237 = 236 + 1 := by decide +kernel
theorem d_L_law_237 : decode cL_law 237 = .ok (.iadd, 1) ∧ 238 = 237 + 1 := by decide +kernel
theorem d_L_law_238 : decode cL_law 238 = .ok (.iaload, 1) ∧ 239 = 238 + 1 := by decide +kernel
theorem d_L_law_239 : decode cL_law 239 = .ok (.ifCond .eq 7, 3) ∧ 242 = 239 + 3 ∧ (239 : Int) + 7 = ((246 : Nat) : Int) := by decide +kernel
theorem d_L_law_242 : decode cL_law 242 = .ok (.iconst 1, 1) ∧ 243 = 242 + 1 := by decide +kernel
theorem d_L_law_243 : decode cL_law 243 = .ok (.goto 4, 3) ∧ (243 : Int) + (4) = ((247 : Nat) : Int) := by decide +kernel
theorem d_L_law_246 : decode cL_law 246 = .ok (.iconst 0, 1) ∧ 247 = 246 + 1 := by decide +kernel
theorem d_L_law_247 : decode cL_law 247 = .ok (.invokevirtual 17, 3) ∧ 250 = 247 + 3 := by decide +kernel
theorem d_L_law_250 : decode cL_law 250 = .ok (.if_icmp .eq 1036, 3) ∧ 253 = 250 + 3 ∧ (250 : Int) + 1036 = ((1286 : Nat) : Int) := by decide +kernel
theorem d_L_law_253 : decode cL_law 253 = .ok (.iconst 0, 1) ∧ 254 = 253 + 1 := by decide +kernel
theorem d_L_law_254 : decode cL_law 254 = .ok (.ireturn, 1) := by decide +kernel
theorem d_L_law_255 : decode cL_law 255 = .ok (.aload_n 1, 1) ∧ 256 = 255 + 1 := by decide +kernel
theorem d_L_law_256 : decode cL_law 256 = .ok (.aload_n 0, 1) ∧ 257 = 256 + 1 := by decide +kernel
theorem d_L_law_257 : decode cL_law 257 = .ok (.iload_n 3, 1) ∧ 258 = 257 + 1 := by decide +kernel
theorem d_L_law_258 : decode cL_law 258 = .ok (.iconst 1, 1) ∧ 259 = 258 + 1 := by decide +kernel
theorem d_L_law_259 : decode cL_law 259 = .ok (.iadd, 1) ∧ 260 = 259 + 1 := by decide +kernel
theorem d_L_law_260 : decode cL_law 260 = .ok (.iaload, 1) ∧ 261 = 260 + 1 := by decide +kernel
theorem d_L_law_261 : decode cL_law 261 = .ok (.aload_n 0, 1) ∧ 262 = 261 + 1 := by decide +kernel
theorem d_L_law_262 : decode cL_law 262 = .ok (.iload_n 3, 1) ∧ 263 = 262 + 1 := by decide +kernel
theorem d_L_law_263 : decode cL_law 263 = .ok (.iconst 2, 1) ∧ 264 = 263 + 1 := by decide +kernel
theorem d_L_law_264 : decode cL_law 264 = .ok (.iadd, 1) ∧ 265 = 264 + 1 := by decide +kernel
theorem d_L_law_265 : decode cL_law 265 = .ok (.iaload, 1) ∧ 266 = 265 + 1 := by decide +kernel
theorem d_L_law_266 : decode cL_law 266 = .ok (.ifCond .eq 7, 3) ∧ 269 = 266 + 3 ∧ (266 : Int) + 7 = ((273 : Nat) : Int) := by decide +kernel
theorem d_L_law_269 : decode cL_law 269 = .ok (.iconst 1, 1) ∧ 270 = 269 + 1 := by decide +kernel
theorem d_L_law_270 : decode cL_law 270 = .ok (.goto 4, 3) ∧ (270 : Int) + (4) = ((274 : Nat) : Int) := by decide +kernel
theorem d_L_law_273 : decode cL_law 273 = .ok (.iconst 0, 1) ∧ 274 = 273 + 1 := by decide +kernel
theorem d_L_law_274 : decode cL_law 274 = .ok (.invokevirtual 18, 3) ∧ 277 = 274 + 3 := by decide +kernel
theorem d_L_law_277 : decode cL_law 277 = .ok (.aload_n 2, 1) ∧ 278 = 277 + 1 := by decide +kernel
theorem d_L_law_278 : decode cL_law 278 = .ok (.aload_n 0, 1) ∧ 279 = 278 + 1 := by decide +kernel
theorem d_L_law_279 : decode cL_law 279 = .ok (.iload_n 3, 1) ∧ 280 = 279 + 1 := by decide +kernel
theorem d_L_law_280 : decode cL_law 280 = .ok (.iconst 1, 1) ∧ 281 = 280 + 1 := by decide +kernel
theorem d_L_law_281 : decode cL_law 281 = .ok (.iadd, 1) ∧ 282 = 281 + 1 := by decide +kernel
theorem d_L_law_282 : decode cL_law 282 = .ok (.iaload, 1) ∧ 283 = 282 + 1 := by decide +kernel
theorem d_L_law_283 : decode cL_law 283 = .ok (.aload_n 0, 1) ∧ 284 = 283 + 1 := by decide +kernel
theorem d_L_law_284 : decode cL_law 284 = .ok (.iload_n 3, 1) ∧ 285 = 284 + 1 := by decide +kernel
theorem d_L_law_285 : decode cL_law 285 = .ok (.iconst 2, 1) ∧ 286 = 285 + 1 := by decide +kernel
theorem d_L_law_286 : decode cL_law 286 = .ok (.iadd, 1) ∧ 287 = 286 + 1 := by decide +kernel
theorem d_L_law_287 : decode cL_law 287 = .ok (.iaload, 1) ∧ 288 = 287 + 1 := by decide +kernel
theorem d_L_law_288 : decode cL_law 288 = .ok (.ifCond .eq 7, 3) ∧ 291 = 288 + 3 ∧ (288 : Int) + 7 = ((295 : Nat) : Int) := by decide +kernel
theorem d_L_law_291 : decode cL_law 291 = .ok (.iconst 1, 1) ∧ 292 = 291 + 1 := by decide +kernel
theorem d_L_law_292 : decode cL_law 292 = .ok (.goto 4, 3) ∧ (292 : Int) + (4) = ((296 : Nat) : Int) := by decide +kernel
theorem d_L_law_295 : decode cL_law 295 = .ok (.iconst 0, 1) ∧ 296 = 295 + 1 := by decide +kernel
theorem d_L_law_296 : decode cL_law 296 = .ok (.invokevirtual 22, 3) ∧ 299 = 296 + 3 := by decide +kernel
theorem d_L_law_299 : decode cL_law 299 = .ok (.if_icmp .eq 987, 3) ∧ 302 = 299 + 3 ∧ (299 : Int) + 987 = ((1286 : Nat) : Int) := by decide +kernel
theorem d_L_law_302 : decode cL_law 302 = .ok (.iconst 0, 1) ∧ 303 = 302 + 1 := by decide +kernel
theorem d_L_law_303 : decode cL_law 303 = .ok (.ireturn, 1) := by decide +kernel
theorem d_L_law_304 : decode cL_law 304 = .ok (.aload_n 1, 1) ∧ 305 = 304 + 1 := by decide +kernel
theorem d_L_law_305 : decode cL_law 305 = .ok (.aload_n 0, 1) ∧ 306 = 305 + 1 := by decide +kernel
theorem d_L_law_306 : decode cL_law 306 = .ok (.iload_n 3, 1) ∧ 307 = 306 + 1 := by decide +kernel
theorem d_L_law_307 : decode cL_law 307 = .ok (.iconst 1, 1) ∧ 308 = 307 + 1 := by decide +kernel
theorem d_L_law_308 : decode cL_law 308 = .ok (.iadd, 1) ∧ 309 = 308 + 1 := by decide +kernel
theorem d_L_law_309 : decode cL_law 309 = .ok (.iaload, 1) ∧ 310 = 309 + 1 := by decide +kernel
theorem d_L_law_310 : decode cL_law 310 = .ok (.aload_n 0, 1) ∧ 311 = 310 + 1 := by decide +kernel
theorem d_L_law_311 : decode cL_law 311 = .ok (.iload_n 3, 1) ∧ 312 = 311 + 1 := by decide +kernel
theorem d_L_law_312 : decode cL_law 312 = .ok (.iconst 2, 1) ∧ 313 = 312 + 1 := by decide +kernel
theorem d_L_law_313 : decode cL_law 313 = .ok (.iadd, 1) ∧ 314 = 313 + 1 := by decide +kernel
theorem d_L_law_314 : decode cL_law 314 = .ok (.iaload, 1) ∧ 315 = 314 + 1 := by decide +kernel
theorem d_L_law_315 : decode cL_law 315 = .ok (.aload_n 0, 1) ∧ 316 = 315 + 1 := by decide +kernel
theorem d_L_law_316 : decode cL_law 316 = .ok (.iload_n 3, 1) ∧ 317 = 316 + 1 := by decide +kernel
theorem d_L_law_317 : decode cL_law 317 = .ok (.iconst 3, 1) ∧ 318 = 317 + 1 := by decide +kernel
theorem d_L_law_318 : decode cL_law 318 = .ok (.iadd, 1) ∧ 319 = 318 + 1 := by decide +kernel
theorem d_L_law_319 : decode cL_law 319 = .ok (.iaload, 1) ∧ 320 = 319 + 1 := by decide +kernel
theorem d_L_law_320 : decode cL_law 320 = .ok (.ifCond .eq 7, 3) ∧ 323 = 320 + 3 ∧ (320 : Int) + 7 = ((327 : Nat) : Int) := by decide +kernel
theorem d_L_law_323 : decode cL_law 323 = .ok (.iconst 1, 1) ∧ 324 = 323 + 1 := by decide +kernel
theorem d_L_law_324 : decode cL_law 324 = .ok (.goto 4, 3) ∧ (324 : Int) + (4) = ((328 : Nat) : Int) := by decide +kernel
theorem d_L_law_327 : decode cL_law 327 = .ok (.iconst 0, 1) ∧ 328 = 327 + 1 := by decide +kernel
theorem d_L_law_328 : decode cL_law 328 = .ok (.aload_n 0, 1) ∧ 329 = 328 + 1 := by decide +kernel
theorem d_L_law_329 : decode cL_law 329 = .ok (.iload_n 3, 1) ∧ 330 = 329 + 1 := by decide +kernel
theorem d_L_law_330 : decode cL_law 330 = .ok (.iconst 4, 1) ∧ 331 = 330 + 1 := by decide +kernel
theorem d_L_law_331 : decode cL_law 331 = .ok (.iadd, 1) ∧ 332 = 331 + 1 := by decide +kernel
theorem d_L_law_332 : decode cL_law 332 = .ok (.iaload, 1) ∧ 333 = 332 + 1 := by decide +kernel
theorem d_L_law_333 : decode cL_law 333 = .ok (.invokevirtual 23, 3) ∧ 336 = 333 + 3 := by decide +kernel
theorem d_L_law_336 : decode cL_law 336 = .ok (.aload_n 2, 1) ∧ 337 = 336 + 1 := by decide +kernel
theorem d_L_law_337 : decode cL_law 337 = .ok (.aload_n 0, 1) ∧ 338 = 337 + 1 := by decide +kernel
theorem d_L_law_338 : decode cL_law 338 = .ok (.iload_n 3, 1) ∧ 339 = 338 + 1 := by decide +kernel
theorem d_L_law_339 : decode cL_law 339 = .ok (.iconst 1, 1) ∧ 340 = 339 + 1 := by decide +kernel
theorem d_L_law_340 : decode cL_law 340 = .ok (.iadd, 1) ∧ 341 = 340 + 1 := by decide +kernel
theorem d_L_law_341 : decode cL_law 341 = .ok (.iaload, 1) ∧ 342 = 341 + 1 := by decide +kernel
theorem d_L_law_342 : decode cL_law 342 = .ok (.aload_n 0, 1) ∧ 343 = 342 + 1 := by decide +kernel
theorem d_L_law_343 : decode cL_law 343 = .ok (.iload_n 3, 1) ∧ 344 = 343 + 1 := by decide +kernel
theorem d_L_law_344 : decode cL_law 344 = .ok (.iconst 2, 1) ∧ 345 = 344 + 1 := by decide +kernel
theorem d_L_law_345 : decode cL_law 345 = .ok (.iadd, 1) ∧ 346 = 345 + 1 := by decide +kernel
theorem d_L_law_346 : decode cL_law 346 = .ok (.iaload, 1) ∧ 347 = 346 + 1 := by decide +kernel
theorem d_L_law_347 : decode cL_law 347 = .ok (.aload_n 0, 1) ∧ 348 = 347 + 1 := by decide +kernel
theorem d_L_law_348 : decode cL_law 348 = .ok (.iload_n 3, 1) ∧ 349 = 348 + 1 := by decide +kernel
theorem d_L_law_349 : decode cL_law 349 = .ok (.iconst 3, 1) ∧ 350 = 349 + 1 := by decide +kernel
theorem d_L_law_350 : decode cL_law 350 = .ok (.iadd, 1) ∧ 351 = 350 + 1 := by decide +kernel
theorem d_L_law_351 : decode cL_law 351 = .ok (.iaload, 1) ∧ 352 = 351 + 1 := by decide +kernel
theorem d_L_law_352 : decode cL_law 352 = .ok (.ifCond .eq 7, 3) ∧ 355 = 352 + 3 ∧ (352 : Int) + 7 = ((359 : Nat) : Int) := by decide +kernel
theorem d_L_law_355 : decode cL_law 355 = .ok (.iconst 1, 1) ∧ 356 = 355 + 1 := by decide +kernel
theorem d_L_law_356 : decode cL_law 356 = .ok (.goto 4, 3) ∧ (356 : Int) + (4) = ((360 : Nat) : Int) := by decide +kernel
theorem d_L_law_359 : decode cL_law 359 = .ok (.iconst 0, 1) ∧ 360 = 359 + 1 := by decide +kernel
theorem d_L_law_360 : decode cL_law 360 = .ok (.aload_n 0, 1) ∧ 361 = 360 + 1 := by decide +kernel
theorem d_L_law_361 : decode cL_law 361 = .ok (.iload_n 3, 1) ∧ 362 = 361 + 1 := by decide +kernel
theorem d_L_law_362 : decode cL_law 362 = .ok (.iconst 4, 1) ∧ 363 = 362 + 1 := by decide +kernel
theorem d_L_law_363 : decode cL_law 363 = .ok (.iadd, 1) ∧ 364 = 363 + 1 := by decide +kernel
theorem d_L_law_364 : decode cL_law 364 = .ok (.iaload, 1) ∧ 365 = 364 + 1 := by decide +kernel
theorem d_L_law_365 : decode cL_law 365 = .ok (.invokevirtual 27, 3) ∧ 368 = 365 + 3 := by decide +kernel
theorem d_L_law_368 : decode cL_law 368 = .ok (.if_icmp .eq 918, 3) ∧ 371 = 368 + 3 ∧ (368 : Int) + 918 = ((1286 : Nat) : Int) := by decide +kernel
theorem d_L_law_371 : decode cL_law 371 = .ok (.iconst 0, 1) ∧ 372 = 371 + 1 := by decide +kernel
theorem d_L_law_372 : decode cL_law 372 = .ok (.ireturn, 1) := by decide +kernel
theorem d_L_law_373 : decode cL_law 373 = .ok (.aload_n 1, 1) ∧ 374 = 373 + 1 := by decide +kernel
theorem d_L_law_374 : decode cL_law 374 = .ok (.aload_n 0, 1) ∧ 375 = 374 + 1 := by decide +kernel
theorem d_L_law_375 : decode cL_law 375 = .ok (.iload_n 3, 1) ∧ 376 = 375 + 1 := by decide +kernel
theorem d_L_law_376 : decode cL_law 376 = .ok (.iconst 1, 1) ∧ 377 = 376 + 1 := by decide +kernel
theorem d_L_law_377 : decode cL_law 377 = .ok (.iadd, 1) ∧ 378 = 377 + 1 := by decide +kernel
theorem d_L_law_378 : decode cL_law 378 = .ok (.iaload, 1) ∧ 379 = 378 + 1 := by decide +kernel
theorem d_L_law_379 : decode cL_law 379 = .ok (.aload_n 0, 1) ∧ 380 = 379 + 1 := by decide +kernel
theorem d_L_law_380 : decode cL_law 380 = .ok (.iload_n 3, 1) ∧ 381 = 380 + 1 := by decide +kernel
theorem d_L_law_381 : decode cL_law 381 = .ok (.iconst 2, 1) ∧ 382 = 381 + 1 := by decide +kernel
theorem d_L_law_382 : decode cL_law 382 = .ok (.iadd, 1) ∧ 383 = 382 + 1 := by decide +kernel
theorem d_L_law_383 : decode cL_law 383 = .ok (.iaload, 1) ∧ 384 = 383 + 1 := by decide +kernel
theorem d_L_law_384 : decode cL_law 384 = .ok (.aload_n 0, 1) ∧ 385 = 384 + 1 := by decide +kernel
theorem d_L_law_385 : decode cL_law 385 = .ok (.iload_n 3, 1) ∧ 386 = 385 + 1 := by decide +kernel
theorem d_L_law_386 : decode cL_law 386 = .ok (.iconst 3, 1) ∧ 387 = 386 + 1 := by decide +kernel
theorem d_L_law_387 : decode cL_law 387 = .ok (.iadd, 1) ∧ 388 = 387 + 1 := by decide +kernel
theorem d_L_law_388 : decode cL_law 388 = .ok (.iaload, 1) ∧ 389 = 388 + 1 := by decide +kernel
theorem d_L_law_389 : decode cL_law 389 = .ok (.invokevirtual 28, 3) ∧ 392 = 389 + 3 := by decide +kernel
theorem d_L_law_392 : decode cL_law 392 = .ok (.aload_n 2, 1) ∧ 393 = 392 + 1 := by decide +kernel
theorem d_L_law_393 : decode cL_law 393 = .ok (.aload_n 0, 1) ∧ 394 = 393 + 1 := by decide +kernel
theorem d_L_law_394 : decode cL_law 394 = .ok (.iload_n 3, 1) ∧ 395 = 394 + 1 := by decide +kernel
theorem d_L_law_395 : decode cL_law 395 = .ok (.iconst 1, 1) ∧ 396 = 395 + 1 := by decide +kernel
theorem d_L_law_396 : decode cL_law 396 = .ok (.iadd, 1) ∧ 397 = 396 + 1 := by decide +kernel
theorem d_L_law_397 : decode cL_law 397 = .ok (.iaload, 1) ∧ 398 = 397 + 1 := by decide +kernel
theorem d_L_law_398 : decode cL_law 398 = .ok (.aload_n 0, 1) ∧ 399 = 398 + 1 := by decide +kernel
theorem d_L_law_399 : decode cL_law 399 = .ok (.iload_n 3, 1) ∧ 400 = 399 + 1 := by decide +kernel
theorem d_L_law_400 : decode cL_law 400 = .ok (.iconst 2, 1) ∧ 401 = 400 + 1 := by decide +kernel
theorem d_L_law_401 : decode cL_law 401 = .ok (.iadd, 1) ∧ 402 = 401 + 1 := by decide +kernel
theorem d_L_law_402 : decode cL_law 402 = .ok (.iaload, 1) ∧ 403 = 402 + 1 := by decide +kernel
theorem d_L_law_403 : decode cL_law 403 = .ok (.aload_n 0, 1) ∧ 404 = 403 + 1 := by decide +kernel
theorem d_L_law_404 : decode cL_law 404 = .ok (.iload_n 3, 1) ∧ 405 = 404 + 1 := by decide +kernel
theorem d_L_law_405 : decode cL_law 405 = .ok (.iconst 3, 1) ∧ 406 = 405 + 1 := by decide +kernel
theorem d_L_law_406 : decode cL_law 406 = .ok (.iadd, 1) ∧ 407 = 406 + 1 := by decide +kernel
theorem d_L_law_407 : decode cL_law 407 = .ok (.iaload, 1) ∧ 408 = 407 + 1 := by decide +kernel
theorem d_L_law_408 : decode cL_law 408 = .ok (.invokevirtual 32, 3) ∧ 411 = 408 + 3 := by decide +kernel
theorem d_L_law_411 : decode cL_law 411 = .ok (.if_icmp .eq 875, 3) ∧ 414 = 411 + 3 ∧ (411 : Int) + 875 = ((1286 : Nat) : Int) := by decide +kernel
theorem d_L_law_414 : decode cL_law 414 = .ok (.iconst 0, 1) ∧ 415 = 414 + 1 := by decide +kernel
theorem d_L_law_415 : decode cL_law 415 = .ok (.ireturn, 1) := by decide +kernel
theorem d_L_law_416 : decode cL_law 416 = .ok (.aload_n 1, 1) ∧ 417 = 416 + 1 := by decide +kernel
theorem d_L_law_417 : decode cL_law 417 = .ok (.aload_n 0, 1) ∧ 418 = 417 + 1 := by decide +kernel
theorem d_L_law_418 : decode cL_law 418 = .ok (.iload_n 3, 1) ∧ 419 = 418 + 1 := by decide +kernel
theorem d_L_law_419 : decode cL_law 419 = .ok (.iconst 1, 1) ∧ 420 = 419 + 1 := by decide +kernel
theorem d_L_law_420 : decode cL_law 420 = .ok (.iadd, 1) ∧ 421 = 420 + 1 := by decide +kernel
theorem d_L_law_421 : decode cL_law 421 = .ok (.iaload, 1) ∧ 422 = 421 + 1 := by decide +kernel
theorem d_L_law_422 : decode cL_law 422 = .ok (.aload_n 0, 1) ∧ 423 = 422 + 1 := by decide +kernel
theorem d_L_law_423 : decode cL_law 423 = .ok (.iload_n 3, 1) ∧ 424 = 423 + 1 := by decide +kernel
theorem d_L_law_424 : decode cL_law 424 = .ok (.iconst 2, 1) ∧ 425 = 424 + 1 := by decide +kernel
theorem d_L_law_425 : decode cL_law 425 = .ok (.iadd, 1) ∧ 426 = 425 + 1 := by decide +kernel
theorem d_L_law_426 : decode cL_law 426 = .ok (.iaload, 1) ∧ 427 = 426 + 1 := by decide +kernel
theorem d_L_law_427 : decode cL_law 427 = .ok (.invokevirtual 33, 3) ∧ 430 = 427 + 3 := by decide +kernel
theorem d_L_law_430 : decode cL_law 430 = .ok (.aload_n 2, 1) ∧ 431 = 430 + 1 := by decide +kernel
theorem d_L_law_431 : decode cL_law 431 = .ok (.aload_n 0, 1) ∧ 432 = 431 + 1 := by decide +kernel
theorem d_L_law_432 : decode cL_law 432 = .ok (.iload_n 3, 1) ∧ 433 = 432 + 1 := by decide +kernel
theorem d_L_law_433 : decode cL_law 433 = .ok (.iconst 1, 1) ∧ 434 = 433 + 1 := by decide +kernel
theorem d_L_law_434 : decode cL_law 434 = .ok (.iadd, 1) ∧ 435 = 434 + 1 := by decide +kernel
theorem d_L_law_435 : decode cL_law 435 = .ok (.iaload, 1) ∧ 436 = 435 + 1 := by decide +kernel
theorem d_L_law_436 : decode cL_law 436 = .ok (.aload_n 0, 1) ∧ 437 = 436 + 1 := by decide +kernel
theorem d_L_law_437 : decode cL_law 437 = .ok (.iload_n 3, 1) ∧ 438 = 437 + 1 := by decide +kernel
theorem d_L_law_438 : decode cL_law 438 = .ok (.iconst 2, 1) ∧ 439 = 438 + 1 := by decide +kernel
theorem d_L_law_439 : decode cL_law 439 = .ok (.iadd, 1) ∧ 440 = 439 + 1 := by decide +kernel
theorem d_L_law_440 : decode cL_law 440 = .ok (.iaload, 1) ∧ 441 = 440 + 1 := by decide +kernel
theorem d_L_law_441 : decode cL_law 441 = .ok (.invokevirtual 37, 3) ∧ 444 = 441 + 3 := by decide +kernel
theorem d_L_law_444 : decode cL_law 444 = .ok (.if_icmp .eq 842, 3) ∧ 447 = 444 + 3 ∧ (444 : Int) + 842 = ((1286 : Nat) : Int) := by decide +kernel
theorem d_L_law_447 : decode cL_law 447 = .ok (.iconst 0, 1) ∧ 448 = 447 + 1 := by decide +kernel
theorem d_L_law_448 : decode cL_law 448 = .ok (.ireturn, 1) := by decide +kernel
theorem d_L_law_449 : decode cL_law 449 = .ok (.aload_n 1, 1) ∧ 450 = 449 + 1 := by decide +kernel
theorem d_L_law_450 : decode cL_law 450 = .ok (.aload_n 0, 1) ∧ 451 = 450 + 1 := by decide +kernel
theorem d_L_law_451 : decode cL_law 451 = .ok (.iload_n 3, 1) ∧ 452 = 451 + 1 := by decide +kernel
theorem d_L_law_452 : decode cL_law 452 = .ok (.iconst 1, 1) ∧ 453 = 452 + 1 := by decide +kernel
theorem d_L_law_453 : decode cL_law 453 = .ok (.iadd, 1) ∧ 454 = 453 + 1 := by decide +kernel
theorem d_L_law_454 : decode cL_law 454 = .ok (.iaload, 1) ∧ 455 = 454 + 1 := by decide +kernel
theorem d_L_law_455 : decode cL_law 455 = .ok (.aload_n 0, 1) ∧ 456 = 455 + 1 := by decide +kernel
theorem d_L_law_456 : decode cL_law 456 = .ok (.iload_n 3, 1) ∧ 457 = 456 + 1 := by decide +kernel
theorem d_L_law_457 : decode cL_law 457 = .ok (.iconst 2, 1) ∧ 458 = 457 + 1 := by decide +kernel
theorem d_L_law_458 : decode cL_law 458 = .ok (.iadd, 1) ∧ 459 = 458 + 1 := by decide +kernel
theorem d_L_law_459 : decode cL_law 459 = .ok (.iaload, 1) ∧ 460 = 459 + 1 := by decide +kernel
theorem d_L_law_460 : decode cL_law 460 = .ok (.aload_n 0, 1) ∧ 461 = 460 + 1 := by decide +kernel
theorem d_L_law_461 : decode cL_law 461 = .ok (.iload_n 3, 1) ∧ 462 = 461 + 1 := by decide +kernel
theorem d_L_law_462 : decode cL_law 462 = .ok (.iconst 3, 1) ∧ 463 = 462 + 1 := by decide +kernel
theorem d_L_law_463 : decode cL_law 463 = .ok (.iadd, 1) ∧ 464 = 463 + 1 := by decide +kernel
theorem d_L_law_464 : decode cL_law 464 = .ok (.iaload, 1) ∧ 465 = 464 + 1 := by decide +kernel
theorem d_L_law_465 : decode cL_law 465 = .ok (.invokevirtual 38, 3) ∧ 468 = 465 + 3 := by decide +kernel
theorem d_L_law_468 : decode cL_law 468 = .ok (.aload_n 2, 1) ∧ 469 = 468 + 1 := by decide +kernel
theorem d_L_law_469 : decode cL_law 469 = .ok (.aload_n 0, 1) ∧ 470 = 469 + 1 := by decide +kernel
theorem d_L_law_470 : decode cL_law 470 = .ok (.iload_n 3, 1) ∧ 471 = 470 + 1 := by decide +kernel
theorem d_L_law_471 : decode cL_law 471 = .ok (.iconst 1, 1) ∧ 472 = 471 + 1 := by decide +kernel
theorem d_L_law_472 : decode cL_law 472 = .ok (.iadd, 1) ∧ 473 = 472 + 1 := by decide +kernel
theorem d_L_law_473 : decode cL_law 473 = .ok (.iaload, 1) ∧ 474 = 473 + 1 := by decide +kernel
theorem d_L_law_474 : decode cL_law 474 = .ok (.aload_n 0, 1) ∧ 475 = 474 + 1 := by decide +kernel
theorem d_L_law_475 : decode cL_law 475 = .ok (.iload_n 3, 1) ∧ 476 = 475 + 1 := by decide +kernel
theorem d_L_law_476 : decode cL_law 476 = .ok (.iconst 2, 1) ∧ 477 = 476 + 1 := by decide +kernel
theorem d_L_law_477 : decode cL_law 477 = .ok (.iadd, 1) ∧ 478 = 477 + 1 := by decide +kernel
theorem d_L_law_478 : decode cL_law 478 = .ok (.iaload, 1) ∧ 479 = 478 + 1 := by decide +kernel
theorem d_L_law_479 : decode cL_law 479 = .ok (.aload_n 0, 1) ∧ 480 = 479 + 1 := by decide +kernel
theorem d_L_law_480 : decode cL_law 480 = .ok (.iload_n 3, 1) ∧ 481 = 480 + 1 := by decide +kernel
theorem d_L_law_481 : decode cL_law 481 = .ok (.iconst 3, 1) ∧ 482 = 481 + 1 := by decide +kernel
theorem d_L_law_482 : decode cL_law 482 = .ok (.iadd, 1) ∧ 483 = 482 + 1 := by decide +kernel
theorem d_L_law_483 : decode cL_law 483 = .ok (.iaload, 1) ∧ 484 = 483 + 1 := by decide +kernel
theorem d_L_law_484 : decode cL_law 484 = .ok (.invokevirtual 42, 3) ∧ 487 = 484 + 3 := by decide +kernel
theorem d_L_law_487 : decode cL_law 487 = .ok (.if_icmp .eq 799, 3) ∧ 490 = 487 + 3 ∧ (487 : Int) + 799 = ((1286 : Nat) : Int) := by decide +kernel
theorem d_L_law_490 : decode cL_law 490 = .ok (.iconst 0, 1) ∧ 491 = 490 + 1 := by decide +kernel
theorem d_L_law_491 : decode cL_law 491 = .ok (.ireturn, 1) := by decide +kernel
theorem d_L_law_492 : decode cL_law 492 = .ok (.aload_n 1, 1) ∧ 493 = 492 + 1 := by decide +kernel
theorem d_L_law_493 : decode cL_law 493 = .ok (.aload_n 0, 1) ∧ 494 = 493 + 1 := by decide +kernel
theorem d_L_law_494 : decode cL_law 494 = .ok (.iload_n 3, 1) ∧ 495 = 494 + 1 := by decide +kernel
theorem d_L_law_495 : decode cL_law 495 = .ok (.iconst 1, 1) ∧ 496 = 495 + 1 := by decide +kernel
theorem d_L_law_496 : decode cL_law 496 = .ok (.iadd, 1) ∧ 497 = 496 + 1 := by decide +kernel
theorem d_L_law_497 : decode cL_law 497 = .ok (.iaload, 1) ∧ 498 = 497 + 1 := by decide +kernel
theorem d_L_law_498 : decode cL_law 498 = .ok (.aload_n 0, 1) ∧ 499 = 498 + 1 := by decide +kernel
theorem d_L_law_499 : decode cL_law 499 = .ok (.iload_n 3, 1) ∧ 500 = 499 + 1 := by decide +kernel
theorem d_L_law_500 : decode cL_law 500 = .ok (.iconst 2, 1) ∧ 501 = 500 + 1 := by decide +kernel
theorem d_L_law_501 : decode cL_law 501 = .ok (.iadd, 1) ∧ 502 = 501 + 1 := by decide +kernel
theorem d_L_law_502 : decode cL_law 502 = .ok (.iaload, 1) ∧ 503 = 502 + 1 := by decide +kernel
theorem d_L_law_503 : decode cL_law 503 = .ok (.aload_n 0, 1) ∧ 504 = 503 + 1 := by decide +kernel
theorem d_L_law_504 : decode cL_law 504 = .ok (.iload_n 3, 1) ∧ 505 = 504 + 1 := by decide +kernel
theorem d_L_law_505 : decode cL_law 505 = .ok (.iconst 3, 1) ∧ 506 = 505 + 1 := by decide +kernel
theorem d_L_law_506 : decode cL_law 506 = .ok (.iadd, 1) ∧ 507 = 506 + 1 := by decide +kernel
theorem d_L_law_507 : decode cL_law 507 = .ok (.iaload, 1) ∧ 508 = 507 + 1 := by decide +kernel
theorem d_L_law_508 : decode cL_law 508 = .ok (.aload_n 0, 1) ∧ 509 = 508 + 1 := by decide +kernel
theorem d_L_law_509 : decode cL_law 509 = .ok (.iload_n 3, 1) ∧ 510 = 509 + 1 := by decide +kernel
theorem d_L_law_510 : decode cL_law 510 = .ok (.iconst 4, 1) ∧ 511 = 510 + 1 := by decide +kernel
theorem d_L_law_511 : decode cL_law 511 = .ok (.iadd, 1) ∧ 512 = 511 + 1 := by decide +kernel
theorem d_L_law_512 : decode cL_law 512 = .ok (.iaload, 1) ∧ 513 = 512 + 1 := by decide +kernel
theorem d_L_law_513 : decode cL_law 513 = .ok (.aload_n 0, 1) ∧ 514 = 513 + 1 := by decide +kernel
theorem d_L_law_514 : decode cL_law 514 = .ok (.iload_n 3, 1) ∧ 515 = 514 + 1 := by decide +kernel
theorem d_L_law_515 : decode cL_law 515 = .ok (.iconst 5, 1) ∧ 516 = 515 + 1 := by decide +kernel
theorem d_L_law_516 : decode cL_law 516 = .ok (.iadd, 1) ∧ 517 = 516 + 1 := by decide +kernel
theorem d_L_law_517 : decode cL_law 517 = .ok (.iaload, 1) ∧ 518 = 517 + 1 := by decide +kernel
theorem d_L_law_518 : decode cL_law 518 = .ok (.invokevirtual 43, 3) ∧ 521 = 518 + 3 := by decide +kernel
theorem d_L_law_521 : decode cL_law 521 = .ok (.aload_n 2, 1) ∧ 522 = 521 + 1 := by decide +kernel
theorem d_L_law_522 : decode cL_law 522 = .ok (.aload_n 0, 1) ∧ 523 = 522 + 1 := by decide +kernel
theorem d_L_law_523 : decode cL_law 523 = .ok (.iload_n 3, 1) ∧ 524 = 523 + 1 := by decide +kernel
theorem d_L_law_524 : decode cL_law 524 = .ok (.iconst 1, 1) ∧ 525 = 524 + 1 := by decide +kernel
theorem d_L_law_525 : decode cL_law 525 = .ok (.iadd, 1) ∧ 526 = 525 + 1 := by decide +kernel
theorem d_L_law_526 : decode cL_law 526 = .ok (.iaload, 1) ∧ 527 = 526 + 1 := by decide +kernel
theorem d_L_law_527 : decode cL_law 527 = .ok (.aload_n 0, 1) ∧ 528 = 527 + 1 := by decide +kernel
theorem d_L_law_528 : decode cL_law 528 = .ok (.iload_n 3, 1) ∧ 529 = 528 + 1 := by decide +kernel
theorem d_L_law_529 : decode cL_law 529 = .ok (.iconst 2, 1) ∧ 530 = 529 + 1 := by decide +kernel
theorem d_L_law_530 : decode cL_law 530 = .ok (.iadd, 1) ∧ 531 = 530 + 1 := by decide +kernel
theorem d_L_law_531 : decode cL_law 531 = .ok (.iaload, 1) ∧ 532 = 531 + 1 := by decide +kernel
theorem d_L_law_532 : decode cL_law 532 = .ok (.aload_n 0, 1) ∧ 533 = 532 + 1 := by decide +kernel
theorem d_L_law_533 : decode cL_law 533 = .ok (.iload_n 3, 1) ∧ 534 = 533 + 1 := by decide +kernel
theorem d_L_law_534 : decode cL_law 534 = .ok (.iconst 3, 1) ∧ 535 = 534 + 1 := by decide +kernel
theorem d_L_law_535 : decode cL_law 535 = .ok (.iadd, 1) ∧ 536 = 535 + 1 := by decide +kernel
theorem d_L_law_536 : decode cL_law 536 = .ok (.iaload, 1) ∧ 537 = 536 + 1 := by decide +kernel
theorem d_L_law_537 : decode cL_law 537 = .ok (.aload_n 0, 1) ∧ 538 = 537 + 1 := by decide +kernel
theorem d_L_law_538 : decode cL_law 538 = .ok (.iload_n 3, 1) ∧ 539 = 538 + 1 := by decide +kernel
theorem d_L_law_539 : decode cL_law 539 = .ok (.iconst 4, 1) ∧ 540 = 539 + 1 := by decide +kernel
theorem d_L_law_540 : decode cL_law 540 = .ok (.iadd, 1) ∧ 541 = 540 + 1 := by decide +kernel
theorem d_L_law_541 : decode cL_law 541 = .ok (.iaload, 1) ∧ 542 = 541 + 1 := by decide +kernel
theorem d_L_law_542 : decode cL_law 542 = .ok (.aload_n 0, 1) ∧ 543 = 542 + 1 := by decide +kernel
theorem d_L_law_543 : decode cL_law 543 = .ok (.iload_n 3, 1) ∧ 544 = 543 + 1 := by decide +kernel
theorem d_L_law_544 : decode cL_law 544 = .ok (.iconst 5, 1) ∧ 545 = 544 + 1 := by decide +kernel
theorem d_L_law_545 : decode cL_law 545 = .ok (.iadd, 1) ∧ 546 = 545 + 1 := by decide +kernel
theorem d_L_law_546 : decode cL_law 546 = .ok (.iaload, 1) ∧ 547 = 546 + 1 := by decide +kernel
theorem d_L_law_547 : decode cL_law 547 = .ok (.invokevirtual 47, 3) ∧ 550 = 547 + 3 := by decide +kernel
theorem d_L_law_550 : decode cL_law 550 = .ok (.if_icmp .eq 736, 3) ∧ 553 = 550 + 3 ∧ (550 : Int) + 736 = ((1286 : Nat) : Int) := by decide +kernel
theorem d_L_law_553 : decode cL_law 553 = .ok (.iconst 0, 1) ∧ 554 = 553 + 1 := by decide +kernel
theorem d_L_law_554 : decode cL_law 554 = .ok (.ireturn, 1) := by decide +kernel
theorem d_L_law_555 : decode cL_law 555 = .ok (.aload_n 1, 1) ∧ 556 = 555 + 1 := by decide +kernel
theorem d_L_law_556 : decode cL_law 556 = .ok (.aload_n 0, 1) ∧ 557 = 556 + 1 := by decide +kernel
theorem d_L_law_557 : decode cL_law 557 = .ok (.iload_n 3, 1) ∧ 558 = 557 + 1 := by decide +kernel
theorem d_L_law_558 : decode cL_law 558 = .ok (.iconst 1, 1) ∧ 559 = 558 + 1 := by decide +kernel
theorem d_L_law_559 : decode cL_law 559 = .ok (.iadd, 1) ∧ 560 = 559 + 1 := by decide +kernel
theorem d_L_law_560 : decode cL_law 560 = .ok (.iaload, 1) ∧ 561 = 560 + 1 := by decide +kernel
theorem d_L_law_561 : decode cL_law 561 = .ok (.invokevirtual 48, 3) ∧ 564 = 561 + 3 := by decide +kernel
theorem d_L_law_564 : decode cL_law 564 = .ok (.aload_n 2, 1) ∧ 565 = 564 + 1 := by decide +kernel
theorem d_L_law_565 : decode cL_law 565 = .ok (.aload_n 0, 1) ∧ 566 = 565 + 1 := by decide +kernel
theorem d_L_law_566 : decode cL_law 566 = .ok (.iload_n 3, 1) ∧ 567 = 566 + 1 := by decide +kernel
theorem d_L_law_567 : decode cL_law 567 = .ok (.iconst 1, 1) ∧ 568 = 567 + 1 := by decide +kernel
theorem d_L_law_568 : decode cL_law 568 = .ok (.iadd, 1) ∧ 569 = 568 + 1 := by decide +kernel
theorem d_L_law_569 : decode cL_law 569 = .ok (.iaload, 1) ∧ 570 = 569 + 1 := by decide +kernel
theorem d_L_law_570 : decode cL_law 570 = .ok (.invokevirtual 52, 3) ∧ 573 = 570 + 3 := by decide +kernel
theorem d_L_law_573 : decode cL_law 573 = .ok (.if_icmp .eq 713, 3) ∧ 576 = 573 + 3 ∧ (573 : Int) + 713 = ((1286 : Nat) : Int) := by decide +kernel
theorem d_L_law_576 : decode cL_law 576 = .ok (.iconst 0, 1) ∧ 577 = 576 + 1 := by decide +kernel
theorem d_L_law_577 : decode cL_law 577 = .ok (.ireturn, 1) := by decide +kernel
theorem d_L_law_578 : decode cL_law 578 = .ok (.aload_n 1, 1) ∧ 579 = 578 + 1 := by decide +kernel
theorem d_L_law_579 : decode cL_law 579 = .ok (.invokevirtual 53, 3) ∧ 582 = 579 + 3 := by decide +kernel
theorem d_L_law_582 : decode cL_law 582 = .ok (.aload_n 2, 1) ∧ 583 = 582 + 1 := by decide +kernel
theorem d_L_law_583 : decode cL_law 583 = .ok (.invokevirtual 57, 3) ∧ 586 = 583 + 3 := by decide +kernel
theorem d_L_law_586 : decode cL_law 586 = .ok (.if_icmp .eq 700, 3) ∧ 589 = 586 + 3 ∧ (586 : Int) + 700 = ((1286 : Nat) : Int) := by decide +kernel
theorem d_L_law_589 : decode cL_law 589 = .ok (.iconst 0, 1) ∧ 590 = 589 + 1 := by decide +kernel
theorem d_L_law_590 : decode cL_law 590 = .ok (.ireturn, 1) := by decide +kernel
theorem d_L_law_591 : decode cL_law 591 = .ok (.aload_n 1, 1) ∧ 592 = 591 + 1 := by decide +kernel
theorem d_L_law_592 : decode cL_law 592 = .ok (.aload_n 0, 1) ∧ 593 = 592 + 1 := by decide +kernel
theorem d_L_law_593 : decode cL_law 593 = .ok (.iload_n 3, 1) ∧ 594 = 593 + 1 := by decide +kernel
theorem d_L_law_594 : decode cL_law 594 = .ok (.iconst 1, 1) ∧ 595 = 594 + 1 := by decide +kernel
theorem d_L_law_595 : decode cL_law 595 = .ok (.iadd, 1) ∧ 596 = 595 + 1 := by decide +kernel
theorem d_L_law_596 : decode cL_law 596 = .ok (.iaload, 1) ∧ 597 = 596 + 1 := by decide +kernel
theorem d_L_law_597 : decode cL_law 597 = .ok (.invokevirtual 58, 3) ∧ 600 = 597 + 3 := by decide +kernel
theorem d_L_law_600 : decode cL_law 600 = .ok (.aload_n 2, 1) ∧ 601 = 600 + 1 := by decide +kernel
theorem d_L_law_601 : decode cL_law 601 = .ok (.aload_n 0, 1) ∧ 602 = 601 + 1 := by decide +kernel
theorem d_L_law_602 : decode cL_law 602 = .ok (.iload_n 3, 1) ∧ 603 = 602 + 1 := by decide +kernel
theorem d_L_law_603 : decode cL_law 603 = .ok (.iconst 1, 1) ∧ 604 = 603 + 1 := by decide +kernel
theorem d_L_law_604 : decode cL_law 604 = .ok (.iadd, 1) ∧ 605 = 604 + 1 := by decide +kernel
theorem d_L_law_605 : decode cL_law 605 = .ok (.iaload, 1) ∧ 606 = 605 + 1 := by decide +kernel
theorem d_L_law_606 : decode cL_law 606 = .ok (.invokevirtual 61, 3) ∧ 609 = 606 + 3 := by decide +kernel
theorem d_L_law_609 : decode cL_law 609 = .ok (.if_icmp .eq 677, 3) ∧ 612 = 609 + 3 ∧ (609 : Int) + 677 = ((1286 : Nat) : Int) := by decide +kernel
theorem d_L_law_612 : decode cL_law 612 = .ok (.iconst 0, 1) ∧ 613 = 612 + 1 := by decide +kernel
theorem d_L_law_613 : decode cL_law 613 = .ok (.ireturn, 1) := by decide +kernel
theorem d_L_law_614 : decode cL_law 614 = .ok (.aload_n 1, 1) ∧ 615 = 614 + 1 := by decide +kernel
theorem d_L_law_615 : decode cL_law 615 = .ok (.aload_n 0, 1) ∧ 616 = 615 + 1 := by decide +kernel
theorem d_L_law_616 : decode cL_law 616 = .ok (.iload_n 3, 1) ∧ 617 = 616 + 1 := by decide +kernel
theorem d_L_law_617 : decode cL_law 617 = .ok (.iconst 1, 1) ∧ 618 = 617 + 1 := by decide +kernel
theorem d_L_law_618 : decode cL_law 618 = .ok (.iadd, 1) ∧ 619 = 618 + 1 := by decide +kernel
theorem d_L_law_619 : decode cL_law 619 = .ok (.iaload, 1) ∧ 620 = 619 + 1 := by decide +kernel
theorem d_L_law_620 : decode cL_law 620 = .ok (.aload_n 0, 1) ∧ 621 = 620 + 1 := by decide +kernel
theorem d_L_law_621 : decode cL_law 621 = .ok (.iload_n 3, 1) ∧ 622 = 621 + 1 := by decide +kernel
theorem d_L_law_622 : decode cL_law 622 = .ok (.iconst 2, 1) ∧ 623 = 622 + 1 := by decide +kernel
theorem d_L_law_623 : decode cL_law 623 = .ok (.iadd, 1) ∧ 624 = 623 + 1 := by decide +kernel
theorem d_L_law_624 : decode cL_law 624 = .ok (.iaload, 1) ∧ 625 = 624 + 1 := by decide +kernel
theorem d_L_law_625 : decode cL_law 625 = .ok (.invokevirtual 62, 3) ∧ 628 = 625 + 3 := by decide +kernel
theorem d_L_law_628 : decode cL_law 628 = .ok (.aload_n 2, 1) ∧ 629 = 628 + 1 := by decide +kernel
theorem d_L_law_629 : decode cL_law 629 = .ok (.aload_n 0, 1) ∧ 630 = 629 + 1 := by decide +kernel
theorem d_L_law_630 : decode cL_law 630 = .ok (.iload_n 3, 1) ∧ 631 = 630 + 1 := by decide +kernel
theorem d_L_law_631 : decode cL_law 631 = .ok (.iconst 1, 1) ∧ 632 = 631 + 1 := by decide +kernel
theorem d_L_law_632 : decode cL_law 632 = .ok (.iadd, 1) ∧ 633 = 632 + 1 := by decide +kernel
theorem d_L_law_633 : decode cL_law 633 = .ok (.iaload, 1) ∧ 634 = 633 + 1 := by decide +kernel
theorem d_L_law_634 : decode cL_law 634 = .ok (.aload_n 0, 1) ∧ 635 = 634 + 1 := by decide +kernel
theorem d_L_law_635 : decode cL_law 635 = .ok (.iload_n 3, 1) ∧ 636 = 635 + 1 := by decide +kernel
theorem d_L_law_636 : decode cL_law 636 = .ok (.iconst 2, 1) ∧ 637 = 636 + 1 := by decide +kernel
theorem d_L_law_637 : decode cL_law 637 = .ok (.iadd, 1) ∧ 638 = 637 + 1 := by decide +kernel
theorem d_L_law_638 : decode cL_law 638 = .ok (.iaload, 1) ∧ 639 = 638 + 1 := by decide +kernel
theorem d_L_law_639 : decode cL_law 639 = .ok (.invokevirtual 65, 3) ∧ 642 = 639 + 3 := by decide +kernel
theorem d_L_law_642 : decode cL_law 642 = .ok (.if_icmp .eq 644, 3) ∧ 645 = 642 + 3 ∧ (642 : Int) + 644 = ((1286 : Nat) : Int) := by decide +kernel
theorem d_L_law_645 : decode cL_law 645 = .ok (.iconst 0, 1) ∧ 646 = 645 + 1 := by decide +kernel
theorem d_L_law_646 : decode cL_law 646 = .ok (.ireturn, 1) := by decide +kernel
theorem d_L_law_647 : decode cL_law 647 = .ok (.aload_n 1, 1) ∧ 648 = 647 + 1 := by decide +kernel
theorem d_L_law_648 : decode cL_law 648 = .ok (.aload_n 0, 1) ∧ 649 = 648 + 1 := by decide +kernel
theorem d_L_law_649 : decode cL_law 649 = .ok (.iload_n 3, 1) ∧ 650 = 649 + 1 := by decide +kernel
theorem d_L_law_650 : decode cL_law 650 = .ok (.iconst 1, 1) ∧ 651 = 650 + 1 := by decide +kernel
theorem d_L_law_651 : decode cL_law 651 = .ok (.iadd, 1) ∧ 652 = 651 + 1 := by decide +kernel
theorem d_L_law_652 : decode cL_law 652 = .ok (.iaload, 1) ∧ 653 = 652 + 1 := by decide +kernel
theorem d_L_law_653 : decode cL_law 653 = .ok (.aload_n 0, 1) ∧ 654 = 653 + 1 := by decide +kernel
theorem d_L_law_654 : decode cL_law 654 = .ok (.iload_n 3, 1) ∧ 655 = 654 + 1 := by decide +kernel
theorem d_L_law_655 : decode cL_law 655 = .ok (.iconst 2, 1) ∧ 656 = 655 + 1 := by decide +kernel
theorem d_L_law_656 : decode cL_law 656 = .ok (.iadd, 1) ∧ 657 = 656 + 1 := by decide +kernel
theorem d_L_law_657 : decode cL_law 657 = .ok (.iaload, 1) ∧ 658 = 657 + 1 := by decide +kernel
theorem d_L_law_658 : decode cL_law 658 = .ok (.aload_n 0, 1) ∧ 659 = 658 + 1 := by decide +kernel
theorem d_L_law_659 : decode cL_law 659 = .ok (.iload_n 3, 1) ∧ 660 = 659 + 1 := by decide +kernel
theorem d_L_law_660 : decode cL_law 660 = .ok (.iconst 3, 1) ∧ 661 = 660 + 1 := by decide +kernel
theorem d_L_law_661 : decode cL_law 661 = .ok (.iadd, 1) ∧ 662 = 661 + 1 := by decide +kernel
theorem d_L_law_662 : decode cL_law 662 = .ok (.iaload, 1) ∧ 663 = 662 + 1 := by decide +kernel
theorem d_L_law_663 : decode cL_law 663 = .ok (.invokevirtual 66, 3) ∧ 666 = 663 + 3 := by decide +kernel
theorem d_L_law_666 : decode cL_law 666 = .ok (.aload_n 2, 1) ∧ 667 = 666 + 1 := by decide +kernel
theorem d_L_law_667 : decode cL_law 667 = .ok (.aload_n 0, 1) ∧ 668 = 667 + 1 := by decide +kernel
theorem d_L_law_668 : decode cL_law 668 = .ok (.iload_n 3, 1) ∧ 669 = 668 + 1 := by decide +kernel
theorem d_L_law_669 : decode cL_law 669 = .ok (.iconst 1, 1) ∧ 670 = 669 + 1 := by decide +kernel
theorem d_L_law_670 : decode cL_law 670 = .ok (.iadd, 1) ∧ 671 = 670 + 1 := by decide +kernel
theorem d_L_law_671 : decode cL_law 671 = .ok (.iaload, 1) ∧ 672 = 671 + 1 := by decide +kernel
theorem d_L_law_672 : decode cL_law 672 = .ok (.aload_n 0, 1) ∧ 673 = 672 + 1 := by decide +kernel
theorem d_L_law_673 : decode cL_law 673 = .ok (.iload_n 3, 1) ∧ 674 = 673 + 1 := by decide +kernel
theorem d_L_law_674 : decode cL_law 674 = .ok (.iconst 2, 1) ∧ 675 = 674 + 1 := by decide +kernel
theorem d_L_law_675 : decode cL_law 675 = .ok (.iadd, 1) ∧ 676 = 675 + 1 := by decide +kernel
theorem d_L_law_676 : decode cL_law 676 = .ok (.iaload, 1) ∧ 677 = 676 + 1 := by decide +kernel
theorem d_L_law_677 : decode cL_law 677 = .ok (.aload_n 0, 1) ∧ 678 = 677 + 1 := by decide +kernel
theorem d_L_law_678 : decode cL_law 678 = .ok (.iload_n 3, 1) ∧ 679 = 678 + 1 := by decide +kernel
theorem d_L_law_679 : decode cL_law 679 = .ok (.iconst 3, 1) ∧ 680 = 679 + 1 := by decide +kernel
theorem d_L_law_680 : decode cL_law 680 = .ok (.iadd, 1) ∧ 681 = 680 + 1 := by decide +kernel
theorem d_L_law_681 : decode cL_law 681 = .ok (.iaload, 1) ∧ 682 = 681 + 1 := by decide +kernel
theorem d_L_law_682 : decode cL_law 682 = .ok (.invokevirtual 69, 3) ∧ 685 = 682 + 3 := by decide +kernel
theorem d_L_law_685 : decode cL_law 685 = .ok (.if_icmp .eq 601, 3) ∧ 688 = 685 + 3 ∧ (685 : Int) + 601 = ((1286 : Nat) : Int) := by decide +kernel
theorem d_L_law_688 : decode cL_law 688 = .ok (.iconst 0, 1) ∧ 689 = 688 + 1 := by decide +kernel
theorem d_L_law_689 : decode cL_law 689 = .ok (.ireturn, 1) := by decide +kernel
theorem d_L_law_690 : decode cL_law 690 = .ok (.aload_n 1, 1) ∧ 691 = 690 + 1 := by decide +kernel
theorem d_L_law_691 : decode cL_law 691 = .ok (.aload_n 0, 1) ∧ 692 = 691 + 1 := by decide +kernel
theorem d_L_law_692 : decode cL_law 692 = .ok (.iload_n 3, 1) ∧ 693 = 692 + 1 := by decide +kernel
theorem d_L_law_693 : decode cL_law 693 = .ok (.iconst 1, 1) ∧ 694 = 693 + 1 := by decide +kernel
theorem d_L_law_694 : decode cL_law 694 = .ok (.iadd, 1) ∧ 695 = 694 + 1 := by decide +kernel
theorem d_L_law_695 : decode cL_law 695 = .ok (.iaload, 1) ∧ 696 = 695 + 1 := by decide +kernel
theorem d_L_law_696 : decode cL_law 696 = .ok (.aload_n 0, 1) ∧ 697 = 696 + 1 := by decide +kernel
theorem d_L_law_697 : decode cL_law 697 = .ok (.iload_n 3, 1) ∧ 698 = 697 + 1 := by decide +kernel
theorem d_L_law_698 : decode cL_law 698 = .ok (.iconst 2, 1) ∧ 699 = 698 + 1 := by decide +kernel
theorem d_L_law_699 : decode cL_law 699 = .ok (.iadd, 1) ∧ 700 = 699 + 1 := by decide +kernel
theorem d_L_law_700 : decode cL_law 700 = .ok (.iaload, 1) ∧ 701 = 700 + 1 := by decide +kernel
theorem d_L_law_701 : decode cL_law 701 = .ok (.aload_n 0, 1) ∧ 702 = 701 + 1 := by decide +kernel
theorem d_L_law_702 : decode cL_law 702 = .ok (.iload_n 3, 1) ∧ 703 = 702 + 1 := by decide +kernel
theorem d_L_law_703 : decode cL_law 703 = .ok (.iconst 3, 1) ∧ 704 = 703 + 1 := by decide +kernel
theorem d_L_law_704 : decode cL_law 704 = .ok (.iadd, 1) ∧ 705 = 704 + 1 := by decide +kernel
theorem d_L_law_705 : decode cL_law 705 = .ok (.iaload, 1) ∧ 706 = 705 + 1 := by decide +kernel
theorem d_L_law_706 : decode cL_law 706 = .ok (.invokevirtual 70, 3) ∧ 709 = 706 + 3 := by decide +kernel
theorem d_L_law_709 : decode cL_law 709 = .ok (.aload_n 2, 1) ∧ 710 = 709 + 1 := by decide +kernel
theorem d_L_law_710 : decode cL_law 710 = .ok (.aload_n 0, 1) ∧ 711 = 710 + 1 := by decide +kernel
theorem d_L_law_711 : decode cL_law 711 = .ok (.iload_n 3, 1) ∧ 712 = 711 + 1 := by decide +kernel
theorem d_L_law_712 : decode cL_law 712 = .ok (.iconst 1, 1) ∧ 713 = 712 + 1 := by decide +kernel
theorem d_L_law_713 : decode cL_law 713 = .ok (.iadd, 1) ∧ 714 = 713 + 1 := by decide +kernel
theorem d_L_law_714 : decode cL_law 714 = .ok (.iaload, 1) ∧ 715 = 714 + 1 := by decide +kernel
theorem d_L_law_715 : decode cL_law 715 = .ok (.aload_n 0, 1) ∧ 716 = 715 + 1 := by decide +kernel
theorem d_L_law_716 : decode cL_law 716 = .ok (.iload_n 3, 1) ∧ 717 = 716 + 1 := by decide +kernel
theorem d_L_law_717 : decode cL_law 717 = .ok (.iconst 2, 1) ∧ 718 = 717 + 1 := by decide +kernel
theorem d_L_law_718 : decode cL_law 718 = .ok (.iadd, 1) ∧ 719 = 718 + 1 := by decide +kernel
theorem d_L_law_719 : decode cL_law 719 = .ok (.iaload, 1) ∧ 720 = 719 + 1 := by decide +kernel
theorem d_L_law_720 : decode cL_law 720 = .ok (.aload_n 0, 1) ∧ 721 = 720 + 1 := by decide +kernel
theorem d_L_law_721 : decode cL_law 721 = .ok (.iload_n 3, 1) ∧ 722 = 721 + 1 := by decide +kernel
theorem d_L_law_722 : decode cL_law 722 = .ok (.iconst 3, 1) ∧ 723 = 722 + 1 := by decide +kernel
theorem d_L_law_723 : decode cL_law 723 = .ok (.iadd, 1) ∧ 724 = 723 + 1 := by decide +kernel
theorem d_L_law_724 : decode cL_law 724 = .ok (.iaload, 1) ∧ 725 = 724 + 1 := by decide +kernel
theorem d_L_law_725 : decode cL_law 725 = .ok (.invokevirtual 73, 3) ∧ 728 = 725 + 3 := by decide +kernel
theorem d_L_law_728 : decode cL_law 728 = .ok (.if_icmp .eq 558, 3) ∧ 731 = 728 + 3 ∧ (728 : Int) + 558 = ((1286 : Nat) : Int) := by decide +kernel
theorem d_L_law_731 : decode cL_law 731 = .ok (.iconst 0, 1) ∧ 732 = 731 + 1 := by decide +kernel
theorem d_L_law_732 : decode cL_law 732 = .ok (.ireturn, 1) := by decide +kernel
theorem d_L_law_733 : decode cL_law 733 = .ok (.aload_n 1, 1) ∧ 734 = 733 + 1 := by decide +kernel
theorem d_L_law_734 : decode cL_law 734 = .ok (.aload_n 0, 1) ∧ 735 = 734 + 1 := by decide +kernel
theorem d_L_law_735 : decode cL_law 735 = .ok (.iload_n 3, 1) ∧ 736 = 735 + 1 := by decide +kernel
theorem d_L_law_736 : decode cL_law 736 = .ok (.iconst 1, 1) ∧ 737 = 736 + 1 := by decide +kernel
theorem d_L_law_737 : decode cL_law 737 = .ok (.iadd, 1) ∧ 738 = 737 + 1 := by decide +kernel
theorem d_L_law_738 : decode cL_law 738 = .ok (.iaload, 1) ∧ 739 = 738 + 1 := by decide +kernel
theorem d_L_law_739 : decode cL_law 739 = .ok (.aload_n 0, 1) ∧ 740 = 739 + 1 := by decide +kernel
theorem d_L_law_740 : decode cL_law 740 = .ok (.iload_n 3, 1) ∧ 741 = 740 + 1 := by decide +kernel
theorem d_L_law_741 : decode cL_law 741 = .ok (.iconst 2, 1) ∧ 742 = 741 + 1 := by decide +kernel
theorem d_L_law_742 : decode cL_law 742 = .ok (.iadd, 1) ∧ 743 = 742 + 1 := by decide +kernel
theorem d_L_law_743 : decode cL_law 743 = .ok (.iaload, 1) ∧ 744 = 743 + 1 := by decide +kernel
theorem d_L_law_744 : decode cL_law 744 = .ok (.aload_n 0, 1) ∧ 745 = 744 + 1 := by decide +kernel
theorem d_L_law_745 : decode cL_law 745 = .ok (.iload_n 3, 1) ∧ 746 = 745 + 1 := by decide +kernel
theorem d_L_law_746 : decode cL_law 746 = .ok (.iconst 3, 1) ∧ 747 = 746 + 1 := by decide +kernel
theorem d_L_law_747 : decode cL_law 747 = .ok (.iadd, 1) ∧ 748 = 747 + 1 := by decide +kernel
theorem d_L_law_748 : decode cL_law 748 = .ok (.iaload, 1) ∧ 749 = 748 + 1 := by decide +kernel
theorem d_L_law_749 : decode cL_law 749 = .ok (.aload_n 0, 1) ∧ 750 = 749 + 1 := by decide +kernel
theorem d_L_law_750 : decode cL_law 750 = .ok (.iload_n 3, 1) ∧ 751 = 750 + 1 := by decide +kernel
theorem d_L_law_751 : decode cL_law 751 = .ok (.iconst 4, 1) ∧ 752 = 751 + 1 := by decide +kernel
theorem d_L_law_752 : decode cL_law 752 = .ok (.iadd, 1) ∧ 753 = 752 + 1 := by decide +kernel
theorem d_L_law_753 : decode cL_law 753 = .ok (.iaload, 1) ∧ 754 = 753 + 1 := by decide +kernel
theorem d_L_law_754 : decode cL_law 754 = .ok (.invokevirtual 74, 3) ∧ 757 = 754 + 3 := by decide +kernel
theorem d_L_law_757 : decode cL_law 757 = .ok (.aload_n 2, 1) ∧ 758 = 757 + 1 := by decide +kernel
theorem d_L_law_758 : decode cL_law 758 = .ok (.aload_n 0, 1) ∧ 759 = 758 + 1 := by decide +kernel
theorem d_L_law_759 : decode cL_law 759 = .ok (.iload_n 3, 1) ∧ 760 = 759 + 1 := by decide +kernel
theorem d_L_law_760 : decode cL_law 760 = .ok (.iconst 1, 1) ∧ 761 = 760 + 1 := by decide +kernel
theorem d_L_law_761 : decode cL_law 761 = .ok (.iadd, 1) ∧ 762 = 761 + 1 := by decide +kernel
theorem d_L_law_762 : decode cL_law 762 = .ok (.iaload, 1) ∧ 763 = 762 + 1 := by decide +kernel
theorem d_L_law_763 : decode cL_law 763 = .ok (.aload_n 0, 1) ∧ 764 = 763 + 1 := by decide +kernel
theorem d_L_law_764 : decode cL_law 764 = .ok (.iload_n 3, 1) ∧ 765 = 764 + 1 := by decide +kernel
theorem d_L_law_765 : decode cL_law 765 = .ok (.iconst 2, 1) ∧ 766 = 765 + 1 := by decide +kernel
theorem d_L_law_766 : decode cL_law 766 = .ok (.iadd, 1) ∧ 767 = 766 + 1 := by decide +kernel
theorem d_L_law_767 : decode cL_law 767 = .ok (.iaload, 1) ∧ 768 = 767 + 1 := by decide +kernel
theorem d_L_law_768 : decode cL_law 768 = .ok (.aload_n 0, 1) ∧ 769 = 768 + 1 := by decide +kernel
theorem d_L_law_769 : decode cL_law 769 = .ok (.iload_n 3, 1) ∧ 770 = 769 + 1 := by decide +kernel
theorem d_L_law_770 : decode cL_law 770 = .ok (.iconst 3, 1) ∧ 771 = 770 + 1 := by decide +kernel
theorem d_L_law_771 : decode cL_law 771 = .ok (.iadd, 1) ∧ 772 = 771 + 1 := by decide +kernel
theorem d_L_law_772 : decode cL_law 772 = .ok (.iaload, 1) ∧ 773 = 772 + 1 := by decide +kernel
theorem d_L_law_773 : decode cL_law 773 = .ok (.aload_n 0, 1) ∧ 774 = 773 + 1 := by decide +kernel
theorem d_L_law_774 : decode cL_law 774 = .ok (.iload_n 3, 1) ∧ 775 = 774 + 1 := by decide +kernel
theorem d_L_law_775 : decode cL_law 775 = .ok (.iconst 4, 1) ∧ 776 = 775 + 1 := by decide +kernel
theorem d_L_law_776 : decode cL_law 776 = .ok (.iadd, 1) ∧ 777 = 776 + 1 := by decide +kernel
theorem d_L_law_777 : decode cL_law 777 = .ok (.iaload, 1) ∧ 778 = 777 + 1 := by decide +kernel
theorem d_L_law_778 : decode cL_law 778 = .ok (.invokevirtual 78, 3) ∧ 781 = 778 + 3 := by decide +kernel
theorem d_L_law_781 : decode cL_law 781 = .ok (.if_icmp .eq 505, 3) ∧ 784 = 781 + 3 ∧ (781 : Int) + 505 = ((1286 : Nat) : Int) := by decide +kernel
theorem d_L_law_784 : decode cL_law 784 = .ok (.iconst 0, 1) ∧ 785 = 784 + 1 := by decide +kernel
theorem d_L_law_785 : decode cL_law 785 = .ok (.ireturn, 1) := by decide +kernel
theorem d_L_law_786 : decode cL_law 786 = .ok (.aload_n 1, 1) ∧ 787 = 786 + 1 := by decide +kernel
theorem d_L_law_787 : decode cL_law 787 = .ok (.aload_n 0, 1) ∧ 788 = 787 + 1 := by decide +kernel
theorem d_L_law_788 : decode cL_law 788 = .ok (.iload_n 3, 1) ∧ 789 = 788 + 1 := by decide +kernel
theorem d_L_law_789 : decode cL_law 789 = .ok (.iconst 1, 1) ∧ 790 = 789 + 1 := by decide +kernel
theorem d_L_law_790 : decode cL_law 790 = .ok (.iadd, 1) ∧ 791 = 790 + 1 := by decide +kernel
theorem d_L_law_791 : decode cL_law 791 = .ok (.iaload, 1) ∧ 792 = 791 + 1 := by decide +kernel
theorem d_L_law_792 : decode cL_law 792 = .ok (.aload_n 0, 1) ∧ 793 = 792 + 1 := by decide +kernel
theorem d_L_law_793 : decode cL_law 793 = .ok (.iload_n 3, 1) ∧ 794 = 793 + 1 := by decide +kernel
theorem d_L_law_794 : decode cL_law 794 = .ok (.iconst 2, 1) ∧ 795 = 794 + 1 := by decide +kernel
theorem d_L_law_795 : decode cL_law 795 = .ok (.iadd, 1) ∧ 796 = 795 + 1 := by decide +kernel
theorem d_L_law_796 : decode cL_law 796 = .ok (.iaload, 1) ∧ 797 = 796 + 1 := by decide +kernel
theorem d_L_law_797 : decode cL_law 797 = .ok (.aload_n 0, 1) ∧ 798 = 797 + 1 := by decide +kernel
theorem d_L_law_798 : decode cL_law 798 = .ok (.iload_n 3, 1) ∧ 799 = 798 + 1 := by decide +kernel
theorem d_L_law_799 : decode cL_law 799 = .ok (.iconst 3, 1) ∧ 800 = 799 + 1 := by decide +kernel
theorem d_L_law_800 : decode cL_law 800 = .ok (.iadd, 1) ∧ 801 = 800 + 1 := by decide +kernel
theorem d_L_law_801 : decode cL_law 801 = .ok (.iaload, 1) ∧ 802 = 801 + 1 := by decide +kernel
theorem d_L_law_802 : decode cL_law 802 = .ok (.ifCond .eq 7, 3) ∧ 805 = 802 + 3 ∧ (802 : Int) + 7 = ((809 : Nat) : Int) := by decide +kernel
theorem d_L_law_805 : decode cL_law 805 = .ok (.iconst 1, 1) ∧ 806 = 805 + 1 := by decide +kernel
theorem d_L_law_806 : decode cL_law 806 = .ok (.goto 4, 3) ∧ (806 : Int) + (4) = ((810 : Nat) : Int) := by decide +kernel
theorem d_L_law_809 : decode cL_law 809 = .ok (.iconst 0, 1) ∧ 810 = 809 + 1 := by decide +kernel
theorem d_L_law_810 : decode cL_law 810 = .ok (.invokevirtual 79, 3) ∧ 813 = 810 + 3 := by decide +kernel
theorem d_L_law_813 : decode cL_law 813 = .ok (.aload_n 2, 1) ∧ 814 = 813 + 1 := by decide +kernel
theorem d_L_law_814 : decode cL_law 814 = .ok (.aload_n 0, 1) ∧ 815 = 814 + 1 := by decide +kernel
theorem d_L_law_815 : decode cL_law 815 = .ok (.iload_n 3, 1) ∧ 816 = 815 + 1 := by decide +kernel
theorem d_L_law_816 : decode cL_law 816 = .ok (.iconst 1, 1) ∧ 817 = 816 + 1 := by decide +kernel
theorem d_L_law_817 : decode cL_law 817 = .ok (.iadd, 1) ∧ 818 = 817 + 1 := by decide +kernel
theorem d_L_law_818 : decode cL_law 818 = .ok (.iaload, 1) ∧ 819 = 818 + 1 := by decide +kernel
theorem d_L_law_819 : decode cL_law 819 = .ok (.aload_n 0, 1) ∧ 820 = 819 + 1 := by decide +kernel
theorem d_L_law_820 : decode cL_law 820 = .ok (.iload_n 3, 1) ∧ 821 = 820 + 1 := by decide +kernel
theorem d_L_law_821 : decode cL_law 821 = .ok (.iconst 2, 1) ∧ 822 = 821 + 1 := by decide +kernel
theorem d_L_law_822 : decode cL_law 822 = .ok (.iadd, 1) ∧ 823 = 822 + 1 := by decide +kernel
theorem d_L_law_823 : decode cL_law 823 = .ok (.iaload, 1) ∧ 824 = 823 + 1 := by decide +kernel
theorem d_L_law_824 : decode cL_law 824 = .ok (.aload_n 0, 1) ∧ 825 = 824 + 1 := by decide +kernel
theorem d_L_law_825 : decode cL_law 825 = .ok (.iload_n 3, 1) ∧ 826 = 825 + 1 := by decide +kernel
theorem d_L_law_826 : decode cL_law 826 = .ok (.iconst 3, 1) ∧ 827 = 826 + 1 := by decide +kernel
theorem d_L_law_827 : decode cL_law 827 = .ok (.iadd, 1) ∧ 828 = 827 + 1 := by decide +kernel
theorem d_L_law_828 : decode cL_law 828 = .ok (.iaload, 1) ∧ 829 = 828 + 1 := by decide +kernel
theorem d_L_law_829 : decode cL_law 829 = .ok (.ifCond .eq 7, 3) ∧ 832 = 829 + 3 ∧ (829 : Int) + 7 = ((836 : Nat) : Int) := by decide +kernel
theorem d_L_law_832 : decode cL_law 832 = .ok (.iconst 1, 1) ∧ 833 = 832 + 1 := by decide +kernel
theorem d_L_law_833 : decode cL_law 833 = .ok (.goto 4, 3) ∧ (833 : Int) + (4) = ((837 : Nat) : Int) := by decide +kernel
theorem d_L_law_836 : decode cL_law 836 = .ok (.iconst 0, 1) ∧ 837 = 836 + 1 := by decide +kernel
theorem d_L_law_837 : decode cL_law 837 = .ok (.invokevirtual 83, 3) ∧ 840 = 837 + 3 := by decide +kernel
theorem d_L_law_840 : decode cL_law 840 = .ok (.if_icmp .eq 446, 3) ∧ 843 = 840 + 3 ∧ (840 : Int) + 446 = ((1286 : Nat) : Int) := by decide +kernel
theorem d_L_law_843 : decode cL_law 843 = .ok (.iconst 0, 1) ∧ 844 = 843 + 1 := by decide +kernel
theorem d_L_law_844 : decode cL_law 844 = .ok (.ireturn, 1) := by decide +kernel
theorem d_L_law_845 : decode cL_law 845 = .ok (.aload_n 1, 1) ∧ 846 = 845 + 1 := by decide +kernel
theorem d_L_law_846 : decode cL_law 846 = .ok (.aload_n 0, 1) ∧ 847 = 846 + 1 := by decide +kernel
theorem d_L_law_847 : decode cL_law 847 = .ok (.iload_n 3, 1) ∧ 848 = 847 + 1 := by decide +kernel
theorem d_L_law_848 : decode cL_law 848 = .ok (.iconst 1, 1) ∧ 849 = 848 + 1 := by decide +kernel
theorem d_L_law_849 : decode cL_law 849 = .ok (.iadd, 1) ∧ 850 = 849 + 1 := by decide +kernel
theorem d_L_law_850 : decode cL_law 850 = .ok (.iaload, 1) ∧ 851 = 850 + 1 := by decide +kernel
theorem d_L_law_851 : decode cL_law 851 = .ok (.aload_n 0, 1) ∧ 852 = 851 + 1 := by decide +kernel
theorem d_L_law_852 : decode cL_law 852 = .ok (.iload_n 3, 1) ∧ 853 = 852 + 1 := by decide +kernel
theorem d_L_law_853 : decode cL_law 853 = .ok (.iconst 2, 1) ∧ 854 = 853 + 1 := by decide +kernel
theorem d_L_law_854 : decode cL_law 854 = .ok (.iadd, 1) ∧ 855 = 854 + 1 := by decide +kernel
theorem d_L_law_855 : decode cL_law 855 = .ok (.iaload, 1) ∧ 856 = 855 + 1 := by decide +kernel
theorem d_L_law_856 : decode cL_law 856 = .ok (.ifCond .eq 7, 3) ∧ 859 = 856 + 3 ∧ (856 : Int) + 7 = ((863 : Nat) : Int) := by decide +kernel
theorem d_L_law_859 : decode cL_law 859 = .ok (.iconst 1, 1) ∧ 860 = 859 + 1 := by decide +kernel
theorem d_L_law_860 : decode cL_law 860 = .ok (.goto 4, 3) ∧ (860 : Int) + (4) = ((864 : Nat) : Int) := by decide +kernel
theorem d_L_law_863 : decode cL_law 863 = .ok (.iconst 0, 1) ∧ 864 = 863 + 1 := by decide +kernel
theorem d_L_law_864 : decode cL_law 864 = .ok (.invokevirtual 84, 3) ∧ 867 = 864 + 3 := by decide +kernel
theorem d_L_law_867 : decode cL_law 867 = .ok (.aload_n 2, 1) ∧ 868 = 867 + 1 := by decide +kernel
theorem d_L_law_868 : decode cL_law 868 = .ok (.aload_n 0, 1) ∧ 869 = 868 + 1 := by decide +kernel
theorem d_L_law_869 : decode cL_law 869 = .ok (.iload_n 3, 1) ∧ 870 = 869 + 1 := by decide +kernel
theorem d_L_law_870 : decode cL_law 870 = .ok (.iconst 1, 1) ∧ 871 = 870 + 1 := by decide +kernel
theorem d_L_law_871 : decode cL_law 871 = .ok (.iadd, 1) ∧ 872 = 871 + 1 := by decide +kernel
theorem d_L_law_872 : decode cL_law 872 = .ok (.iaload, 1) ∧ 873 = 872 + 1 := by decide +kernel
theorem d_L_law_873 : decode cL_law 873 = .ok (.aload_n 0, 1) ∧ 874 = 873 + 1 := by decide +kernel
theorem d_L_law_874 : decode cL_law 874 = .ok (.iload_n 3, 1) ∧ 875 = 874 + 1 := by decide +kernel
theorem d_L_law_875 : decode cL_law 875 = .ok (.iconst 2, 1) ∧ 876 = 875 + 1 := by decide +kernel
theorem d_L_law_876 : decode cL_law 876 = .ok (.iadd, 1) ∧ 877 = 876 + 1 := by decide +kernel
theorem d_L_law_877 : decode cL_law 877 = .ok (.iaload, 1) ∧ 878 = 877 + 1 := by decide +kernel
theorem d_L_law_878 : decode cL_law 878 = .ok (.ifCond .eq 7, 3) ∧ 881 = 878 + 3 ∧ (878 : Int) + 7 = ((885 : Nat) : Int) := by decide +kernel
theorem d_L_law_881 : decode cL_law 881 = .ok (.iconst 1, 1) ∧ 882 = 881 + 1 := by decide +kernel
theorem d_L_law_882 : decode cL_law 882 = .ok (.goto 4, 3) ∧ (882 : Int) + (4) = ((886 : Nat) : Int) := by decide +kernel
theorem d_L_law_885 : decode cL_law 885 = .ok (.iconst 0, 1) ∧ 886 = 885 + 1 := by decide +kernel
theorem d_L_law_886 : decode cL_law 886 = .ok (.invokevirtual 88, 3) ∧ 889 = 886 + 3 := by decide +kernel
theorem d_L_law_889 : decode cL_law 889 = .ok (.if_icmp .eq 397, 3) ∧ 892 = 889 + 3 ∧ (889 : Int) + 397 = ((1286 : Nat) : Int) := by decide +kernel
theorem d_L_law_892 : decode cL_law 892 = .ok (.iconst 0, 1) ∧ 893 = 892 + 1 := by decide +kernel
theorem d_L_law_893 : decode cL_law 893 = .ok (.ireturn, 1) := by decide +kernel
theorem d_L_law_894 : decode cL_law 894 = .ok (.aload_n 1, 1) ∧ 895 = 894 + 1 := by decide +kernel
theorem d_L_law_895 : decode cL_law 895 = .ok (.aload_n 0, 1) ∧ 896 = 895 + 1 := by decide +kernel
theorem d_L_law_896 : decode cL_law 896 = .ok (.iload_n 3, 1) ∧ 897 = 896 + 1 := by decide +kernel
theorem d_L_law_897 : decode cL_law 897 = .ok (.iconst 1, 1) ∧ 898 = 897 + 1 := by decide +kernel
theorem d_L_law_898 : decode cL_law 898 = .ok (.iadd, 1) ∧ 899 = 898 + 1 := by decide +kernel
theorem d_L_law_899 : decode cL_law 899 = .ok (.iaload, 1) ∧ 900 = 899 + 1 := by decide +kernel
theorem d_L_law_900 : decode cL_law 900 = .ok (.invokevirtual 89, 3) ∧ 903 = 900 + 3 := by decide +kernel
theorem d_L_law_903 : decode cL_law 903 = .ok (.aload_n 2, 1) ∧ 904 = 903 + 1 := by decide +kernel
theorem d_L_law_904 : decode cL_law 904 = .ok (.aload_n 0, 1) ∧ 905 = 904 + 1 := by decide +kernel
theorem d_L_law_905 : decode cL_law 905 = .ok (.iload_n 3, 1) ∧ 906 = 905 + 1 := by decide +kernel
theorem d_L_law_906 : decode cL_law 906 = .ok (.iconst 1, 1) ∧ 907 = 906 + 1 := by decide +kernel
theorem d_L_law_907 : decode cL_law 907 = .ok (.iadd, 1) ∧ 908 = 907 + 1 := by decide +kernel
theorem d_L_law_908 : decode cL_law 908 = .ok (.iaload, 1) ∧ 909 = 908 + 1 := by decide +kernel
theorem d_L_law_909 : decode cL_law 909 = .ok (.invokevirtual 93, 3) ∧ 912 = 909 + 3 := by decide +kernel
theorem d_L_law_912 : decode cL_law 912 = .ok (.if_icmp .eq 374, 3) ∧ 915 = 912 + 3 ∧ (912 : Int) + 374 = ((1286 : Nat) : Int) := by decide +kernel
theorem d_L_law_915 : decode cL_law 915 = .ok (.iconst 0, 1) ∧ 916 = 915 + 1 := by decide +kernel
theorem d_L_law_916 : decode cL_law 916 = .ok (.ireturn, 1) := by decide +kernel
theorem d_L_law_917 : decode cL_law 917 = .ok (.aload_n 1, 1) ∧ 918 = 917 + 1 := by decide +kernel
theorem d_L_law_918 : decode cL_law 918 = .ok (.aload_n 0, 1) ∧ 919 = 918 + 1 := by decide +kernel
theorem d_L_law_919 : decode cL_law 919 = .ok (.iload_n 3, 1) ∧ 920 = 919 + 1 := by decide +kernel
theorem d_L_law_920 : decode cL_law 920 = .ok (.iconst 1, 1) ∧ 921 = 920 + 1 := by decide +kernel
theorem d_L_law_921 : decode cL_law 921 = .ok (.iadd, 1) ∧ 922 = 921 + 1 := by decide +kernel
theorem d_L_law_922 : decode cL_law 922 = .ok (.iaload, 1) ∧ 923 = 922 + 1 := by decide +kernel
theorem d_L_law_923 : decode cL_law 923 = .ok (.aload_n 0, 1) ∧ 924 = 923 + 1 := by decide +kernel
theorem d_L_law_924 : decode cL_law 924 = .ok (.iload_n 3, 1) ∧ 925 = 924 + 1 := by decide +kernel
theorem d_L_law_925 : decode cL_law 925 = .ok (.iconst 2, 1) ∧ 926 = 925 + 1 := by decide +kernel
theorem d_L_law_926 : decode cL_law 926 = .ok (.iadd, 1) ∧ 927 = 926 + 1 := by decide +kernel
theorem d_L_law_927 : decode cL_law 927 = .ok (.iaload, 1) ∧ 928 = 927 + 1 := by decide +kernel
theorem d_L_law_928 : decode cL_law 928 = .ok (.invokevirtual 94, 3) ∧ 931 = 928 + 3 := by decide +kernel
theorem d_L_law_931 : decode cL_law 931 = .ok (.aload_n 2, 1) ∧ 932 = 931 + 1 := by decide +kernel
theorem d_L_law_932 : decode cL_law 932 = .ok (.aload_n 0, 1) ∧ 933 = 932 + 1 := by decide +kernel
theorem d_L_law_933 : decode cL_law 933 = .ok (.iload_n 3, 1) ∧ 934 = 933 + 1 := by decide +kernel
theorem d_L_law_934 : decode cL_law 934 = .ok (.iconst 1, 1) ∧ 935 = 934 + 1 := by decide +kernel
theorem d_L_law_935 : decode cL_law 935 = .ok (.iadd, 1) ∧ 936 = 935 + 1 := by decide +kernel
theorem d_L_law_936 : decode cL_law 936 = .ok (.iaload, 1) ∧ 937 = 936 + 1 := by decide +kernel
theorem d_L_law_937 : decode cL_law 937 = .ok (.aload_n 0, 1) ∧ 938 = 937 + 1 := by decide +kernel
theorem d_L_law_938 : decode cL_law 938 = .ok (.iload_n 3, 1) ∧ 939 = 938 + 1 := by decide +kernel
theorem d_L_law_939 : decode cL_law 939 = .ok (.iconst 2, 1) ∧ 940 = 939 + 1 := by decide +kernel
theorem d_L_law_940 : decode cL_law 940 = .ok (.iadd, 1) ∧ 941 = 940 + 1 := by decide +kernel
theorem d_L_law_941 : decode cL_law 941 = .ok (.iaload, 1) ∧ 942 = 941 + 1 := by decide +kernel
theorem d_L_law_942 : decode cL_law 942 = .ok (.invokevirtual 97, 3) ∧ 945 = 942 + 3 := by decide +kernel
theorem d_L_law_945 : decode cL_law 945 = .ok (.if_icmp .eq 341, 3) ∧ 948 = 945 + 3 ∧ (945 : Int) + 341 = ((1286 : Nat) : Int) := by decide +kernel
theorem d_L_law_948 : decode cL_law 948 = .ok (.iconst 0, 1) ∧ 949 = 948 + 1 := by decide +kernel
theorem d_L_law_949 : decode cL_law 949 = .ok (.ireturn, 1) := by decide +kernel
theorem d_L_law_950 : decode cL_law 950 = .ok (.aload_n 1, 1) ∧ 951 = 950 + 1 := by decide +kernel
theorem d_L_law_951 : decode cL_law 951 = .ok (.aload_n 0, 1) ∧ 952 = 951 + 1 := by decide +kernel
theorem d_L_law_952 : decode cL_law 952 = .ok (.iload_n 3, 1) ∧ 953 = 952 + 1 := by decide +kernel
theorem d_L_law_953 : decode cL_law 953 = .ok (.iconst 1, 1) ∧ 954 = 953 + 1 := by decide +kernel
theorem d_L_law_954 : decode cL_law 954 = .ok (.iadd, 1) ∧ 955 = 954 + 1 := by decide +kernel
theorem d_L_law_955 : decode cL_law 955 = .ok (.iaload, 1) ∧ 956 = 955 + 1 := by decide +kernel
theorem d_L_law_956 : decode cL_law 956 = .ok (.aload_n 0, 1) ∧ 957 = 956 + 1 := by decide +kernel
theorem d_L_law_957 : decode cL_law 957 = .ok (.iload_n 3, 1) ∧ 958 = 957 + 1 := by decide +kernel
theorem d_L_law_958 : decode cL_law 958 = .ok (.iconst 2, 1) ∧ 959 = 958 + 1 := by decide +kernel
theorem d_L_law_959 : decode cL_law 959 = .ok (.iadd, 1) ∧ 960 = 959 + 1 := by decide +kernel
theorem d_L_law_960 : decode cL_law 960 = .ok (.iaload, 1) ∧ 961 = 960 + 1 := by decide +kernel
theorem d_L_law_961 : decode cL_law 961 = .ok (.aload_n 0, 1) ∧ 962 = 961 + 1 := by decide +kernel
theorem d_L_law_962 : decode cL_law 962 = .ok (.iload_n 3, 1) ∧ 963 = 962 + 1 := by decide +kernel
theorem d_L_law_963 : decode cL_law 963 = .ok (.iconst 3, 1) ∧ 964 = 963 + 1 := by decide +kernel
theorem d_L_law_964 : decode cL_law 964 = .ok (.iadd, 1) ∧ 965 = 964 + 1 := by decide +kernel
theorem d_L_law_965 : decode cL_law 965 = .ok (.iaload, 1) ∧ 966 = 965 + 1 := by decide +kernel
theorem d_L_law_966 : decode cL_law 966 = .ok (.aload_n 0, 1) ∧ 967 = 966 + 1 := by decide +kernel
theorem d_L_law_967 : decode cL_law 967 = .ok (.iload_n 3, 1) ∧ 968 = 967 + 1 := by decide +kernel
theorem d_L_law_968 : decode cL_law 968 = .ok (.iconst 4, 1) ∧ 969 = 968 + 1 := by decide +kernel
theorem d_L_law_969 : decode cL_law 969 = .ok (.iadd, 1) ∧ 970 = 969 + 1 := by decide +kernel
theorem d_L_law_970 : decode cL_law 970 = .ok (.iaload, 1) ∧ 971 = 970 + 1 := by decide +kernel
theorem d_L_law_971 : decode cL_law 971 = .ok (.invokevirtual 98, 3) ∧ 974 = 971 + 3 := by decide +kernel
theorem d_L_law_974 : decode cL_law 974 = .ok (.aload_n 2, 1) ∧ 975 = 974 + 1 := by decide +kernel
theorem d_L_law_975 : decode cL_law 975 = .ok (.aload_n 0, 1) ∧ 976 = 975 + 1 := by decide +kernel
theorem d_L_law_976 : decode cL_law 976 = .ok (.iload_n 3, 1) ∧ 977 = 976 + 1 := by decide +kernel
theorem d_L_law_977 : decode cL_law 977 = .ok (.iconst 1, 1) ∧ 978 = 977 + 1 := by decide +kernel
theorem d_L_law_978 : decode cL_law 978 = .ok (.iadd, 1) ∧ 979 = 978 + 1 := by decide +kernel
theorem d_L_law_979 : decode cL_law 979 = .ok (.iaload, 1) ∧ 980 = 979 + 1 := by decide +kernel
theorem d_L_law_980 : decode cL_law 980 = .ok (.aload_n 0, 1) ∧ 981 = 980 + 1 := by decide +kernel
theorem d_L_law_981 : decode cL_law 981 = .ok (.iload_n 3, 1) ∧ 982 = 981 + 1 := by decide +kernel
theorem d_L_law_982 : decode cL_law 982 = .ok (.iconst 2, 1) ∧ 983 = 982 + 1 := by decide +kernel
theorem d_L_law_983 : decode cL_law 983 = .ok (.iadd, 1) ∧ 984 = 983 + 1 := by decide +kernel
theorem d_L_law_984 : decode cL_law 984 = .ok (.iaload, 1) ∧ 985 = 984 + 1 := by decide +kernel
theorem d_L_law_985 : decode cL_law 985 = .ok (.aload_n 0, 1) ∧ 986 = 985 + 1 := by decide +kernel
theorem d_L_law_986 : decode cL_law 986 = .ok (.iload_n 3, 1) ∧ 987 = 986 + 1 := by decide +kernel
theorem d_L_law_987 : decode cL_law 987 = .ok (.iconst 3, 1) ∧ 988 = 987 + 1 := by decide +kernel
theorem d_L_law_988 : decode cL_law 988 = .ok (.iadd, 1) ∧ 989 = 988 + 1 := by decide +kernel
theorem d_L_law_989 : decode cL_law 989 = .ok (.iaload, 1) ∧ 990 = 989 + 1 := by decide +kernel
theorem d_L_law_990 : decode cL_law 990 = .ok (.aload_n 0, 1) ∧ 991 = 990 + 1 := by decide +kernel
theorem d_L_law_991 : decode cL_law 991 = .ok (.iload_n 3, 1) ∧ 992 = 991 + 1 := by decide +kernel
theorem d_L_law_992 : decode cL_law 992 = .ok (.iconst 4, 1) ∧ 993 = 992 + 1 := by decide +kernel
theorem d_L_law_993 : decode cL_law 993 = .ok (.iadd, 1) ∧ 994 = 993 + 1 := by decide +kernel
theorem d_L_law_994 : decode cL_law 994 = .ok (.iaload, 1) ∧ 995 = 994 + 1 := by decide +kernel
theorem d_L_law_995 : decode cL_law 995 = .ok (.invokevirtual 101, 3) ∧ 998 = 995 + 3 := by decide +kernel
theorem d_L_law_998 : decode cL_law 998 = .ok (.if_icmp .eq 288, 3) ∧ 1001 = 998 + 3 ∧ (998 : Int) + 288 = ((1286 : Nat) : Int) := by decide +kernel
theorem d_L_law_1001 : decode cL_law 1001 = .ok (.iconst 0, 1) ∧ 1002 = 1001 + 1 := by decide +kernel
theorem d_L_law_1002 : decode cL_law 1002 = .ok (.ireturn, 1) := by decide +kernel
theorem d_L_law_1003 : decode cL_law 1003 = .ok (.aload_n 1, 1) ∧ 1004 = 1003 + 1 := by decide +kernel
theorem d_L_law_1004 : decode cL_law 1004 = .ok (.aload_n 0, 1) ∧ 1005 = 1004 + 1 := by decide +kernel
theorem d_L_law_1005 : decode cL_law 1005 = .ok (.iload_n 3, 1) ∧ 1006 = 1005 + 1 := by decide +kernel
theorem d_L_law_1006 : decode cL_law 1006 = .ok (.iconst 1, 1) ∧ 1007 = 1006 + 1 := by decide +kernel
theorem d_L_law_1007 : decode cL_law 1007 = .ok (.iadd, 1) ∧ 1008 = 1007 + 1 := by decide +kernel
theorem d_L_law_1008 : decode cL_law 1008 = .ok (.iaload, 1) ∧ 1009 = 1008 + 1 := by decide +kernel
theorem d_L_law_1009 : decode cL_law 1009 = .ok (.aload_n 0, 1) ∧ 1010 = 1009 + 1 := by decide +kernel
theorem d_L_law_1010 : decode cL_law 1010 = .ok (.iload_n 3, 1) ∧ 1011 = 1010 + 1 := by decide +kernel
theorem d_L_law_1011 : decode cL_law 1011 = .ok (.iconst 2, 1) ∧ 1012 = 1011 + 1 := by decide +kernel
theorem d_L_law_1012 : decode cL_law 1012 = .ok (.iadd, 1) ∧ 1013 = 1012 + 1 := by decide +kernel
theorem d_L_law_1013 : decode cL_law 1013 = .ok (.iaload, 1) ∧ 1014 = 1013 + 1 := by decide +kernel
theorem d_L_law_1014 : decode cL_law 1014 = .ok (.invokevirtual 102, 3) ∧ 1017 = 1014 + 3 := by decide +kernel
theorem d_L_law_1017 : decode cL_law 1017 = .ok (.aload_n 2, 1) ∧ 1018 = 1017 + 1 := by decide +kernel
theorem d_L_law_1018 : decode cL_law 1018 = .ok (.aload_n 0, 1) ∧ 1019 = 1018 + 1 := by decide +kernel
theorem d_L_law_1019 : decode cL_law 1019 = .ok (.iload_n 3, 1) ∧ 1020 = 1019 + 1 := by decide +kernel
theorem d_L_law_1020 : decode cL_law 1020 = .ok (.iconst 1, 1) ∧ 1021 = 1020 + 1 := by decide +kernel
theorem d_L_law_1021 : decode cL_law 1021 = .ok (.iadd, 1) ∧ 1022 = 1021 + 1 := by decide +kernel
theorem d_L_law_1022 : decode cL_law 1022 = .ok (.iaload, 1) ∧ 1023 = 1022 + 1 := by decide +kernel
theorem d_L_law_1023 : decode cL_law 1023 = .ok (.aload_n 0, 1) ∧ 1024 = 1023 + 1 := by decide +kernel
theorem d_L_law_1024 : decode cL_law 1024 = .ok (.iload_n 3, 1) ∧ 1025 = 1024 + 1 := by decide +kernel
theorem d_L_law_1025 : decode cL_law 1025 = .ok (.iconst 2, 1) ∧ 1026 = 1025 + 1 := by decide +kernel
theorem d_L_law_1026 : decode cL_law 1026 = .ok (.iadd, 1) ∧ 1027 = 1026 + 1 := by decide +kernel
theorem d_L_law_1027 : decode cL_law 1027 = .ok (.iaload, 1) ∧ 1028 = 1027 + 1 := by decide +kernel
theorem d_L_law_1028 : decode cL_law 1028 = .ok (.invokevirtual 105, 3) ∧ 1031 = 1028 + 3 := by decide +kernel
theorem d_L_law_1031 : decode cL_law 1031 = .ok (.if_icmp .eq 255, 3) ∧ 1034 = 1031 + 3 ∧ (1031 : Int) + 255 = ((1286 : Nat) : Int) := by decide +kernel
theorem d_L_law_1034 : decode cL_law 1034 = .ok (.iconst 0, 1) ∧ 1035 = 1034 + 1 := by decide +kernel
theorem d_L_law_1035 : decode cL_law 1035 = .ok (.ireturn, 1) := by decide +kernel
theorem d_L_law_1036 : decode cL_law 1036 = .ok (.aload_n 1, 1) ∧ 1037 = 1036 + 1 := by decide +kernel
theorem d_L_law_1037 : decode cL_law 1037 = .ok (.aload_n 0, 1) ∧ 1038 = 1037 + 1 := by decide +kernel
theorem d_L_law_1038 : decode cL_law 1038 = .ok (.iload_n 3, 1) ∧ 1039 = 1038 + 1 := by decide +kernel
theorem d_L_law_1039 : decode cL_law 1039 = .ok (.iconst 1, 1) ∧ 1040 = 1039 + 1 := by decide +kernel
theorem d_L_law_1040 : decode cL_law 1040 = .ok (.iadd, 1) ∧ 1041 = 1040 + 1 := by decide +kernel
theorem d_L_law_1041 : decode cL_law 1041 = .ok (.iaload, 1) ∧ 1042 = 1041 + 1 := by decide +kernel
theorem d_L_law_1042 : decode cL_law 1042 = .ok (.aload_n 0, 1) ∧ 1043 = 1042 + 1 := by decide +kernel
theorem d_L_law_1043 : decode cL_law 1043 = .ok (.iload_n 3, 1) ∧ 1044 = 1043 + 1 := by decide +kernel
theorem d_L_law_1044 : decode cL_law 1044 = .ok (.iconst 2, 1) ∧ 1045 = 1044 + 1 := by decide +kernel
theorem d_L_law_1045 : decode cL_law 1045 = .ok (.iadd, 1) ∧ 1046 = 1045 + 1 := by decide +kernel
theorem d_L_law_1046 : decode cL_law 1046 = .ok (.iaload, 1) ∧ 1047 = 1046 + 1 := by decide +kernel
theorem d_L_law_1047 : decode cL_law 1047 = .ok (.aload_n 0, 1) ∧ 1048 = 1047 + 1 := by decide +kernel
theorem d_L_law_1048 : decode cL_law 1048 = .ok (.iload_n 3, 1) ∧ 1049 = 1048 + 1 := by decide +kernel
theorem d_L_law_1049 : decode cL_law 1049 = .ok (.iconst 3, 1) ∧ 1050 = 1049 + 1 := by decide +kernel
theorem d_L_law_1050 : decode cL_law 1050 = .ok (.iadd, 1) ∧ 1051 = 1050 + 1 := by decide +kernel
theorem d_L_law_1051 : decode cL_law 1051 = .ok (.iaload, 1) ∧ 1052 = 1051 + 1 := by decide +kernel
theorem d_L_law_1052 : decode cL_law 1052 = .ok (.invokevirtual 106, 3) ∧ 1055 = 1052 + 3 := by decide +kernel
theorem d_L_law_1055 : decode cL_law 1055 = .ok (.aload_n 2, 1) ∧ 1056 = 1055 + 1 := by decide +kernel
theorem d_L_law_1056 : decode cL_law 1056 = .ok (.aload_n 0, 1) ∧ 1057 = 1056 + 1 := by decide +kernel
theorem d_L_law_1057 : decode cL_law 1057 = .ok (.iload_n 3, 1) ∧ 1058 = 1057 + 1 := by decide +kernel
theorem d_L_law_1058 : decode cL_law 1058 = .ok (.iconst 1, 1) ∧ 1059 = 1058 + 1 := by decide +kernel
theorem d_L_law_1059 : decode cL_law 1059 = .ok (.iadd, 1) ∧ 1060 = 1059 + 1 := by decide +kernel
theorem d_L_law_1060 : decode cL_law 1060 = .ok (.iaload, 1) ∧ 1061 = 1060 + 1 := by decide +kernel
theorem d_L_law_1061 : decode cL_law 1061 = .ok (.aload_n 0, 1) ∧ 1062 = 1061 + 1 := by decide +kernel
theorem d_L_law_1062 : decode cL_law 1062 = .ok (.iload_n 3, 1) ∧ 1063 = 1062 + 1 := by decide +kernel
theorem d_L_law_1063 : decode cL_law 1063 = .ok (.iconst 2, 1) ∧ 1064 = 1063 + 1 := by decide +kernel
theorem d_L_law_1064 : decode cL_law 1064 = .ok (.iadd, 1) ∧ 1065 = 1064 + 1 := by decide +kernel
theorem d_L_law_1065 : decode cL_law 1065 = .ok (.iaload, 1) ∧ 1066 = 1065 + 1 := by decide +kernel
theorem d_L_law_1066 : decode cL_law 1066 = .ok (.aload_n 0, 1) ∧ 1067 = 1066 + 1 := by decide +kernel
theorem d_L_law_1067 : decode cL_law 1067 = .ok (.iload_n 3, 1) ∧ 1068 = 1067 + 1 := by decide +kernel
theorem d_L_law_1068 : decode cL_law 1068 = .ok (.iconst 3, 1) ∧ 1069 = 1068 + 1 := by decide +kernel
theorem d_L_law_1069 : decode cL_law 1069 = .ok (.iadd, 1) ∧ 1070 = 1069 + 1 := by decide +kernel
theorem d_L_law_1070 : decode cL_law 1070 = .ok (.iaload, 1) ∧ 1071 = 1070 + 1 := by decide +kernel
theorem d_L_law_1071 : decode cL_law 1071 = .ok (.invokevirtual 109, 3) ∧ 1074 = 1071 + 3 := by decide +kernel
theorem d_L_law_1074 : decode cL_law 1074 = .ok (.if_icmp .eq 212, 3) ∧ 1077 = 1074 + 3 ∧ (1074 : Int) + 212 = ((1286 : Nat) : Int) := by decide +kernel
theorem d_L_law_1077 : decode cL_law 1077 = .ok (.iconst 0, 1) ∧ 1078 = 1077 + 1 := by decide +kernel
theorem d_L_law_1078 : decode cL_law 1078 = .ok (.ireturn, 1) := by decide +kernel
theorem d_L_law_1079 : decode cL_law 1079 = .ok (.aload_n 1, 1) ∧ 1080 = 1079 + 1 := by decide +kernel
theorem d_L_law_1080 : decode cL_law 1080 = .ok (.aload_n 0, 1) ∧ 1081 = 1080 + 1 := by decide +kernel
theorem d_L_law_1081 : decode cL_law 1081 = .ok (.iload_n 3, 1) ∧ 1082 = 1081 + 1 := by decide +kernel
theorem d_L_law_1082 : decode cL_law 1082 = .ok (.iconst 1, 1) ∧ 1083 = 1082 + 1 := by decide +kernel
theorem d_L_law_1083 : decode cL_law 1083 = .ok (.iadd, 1) ∧ 1084 = 1083 + 1 := by decide +kernel
theorem d_L_law_1084 : decode cL_law 1084 = .ok (.iaload, 1) ∧ 1085 = 1084 + 1 := by decide +kernel
theorem d_L_law_1085 : decode cL_law 1085 = .ok (.aload_n 0, 1) ∧ 1086 = 1085 + 1 := by decide +kernel
theorem d_L_law_1086 : decode cL_law 1086 = .ok (.iload_n 3, 1) ∧ 1087 = 1086 + 1 := by decide +kernel
theorem d_L_law_1087 : decode cL_law 1087 = .ok (.iconst 2, 1) ∧ 1088 = 1087 + 1 := by decide +kernel
theorem d_L_law_1088 : decode cL_law 1088 = .ok (.iadd, 1) ∧ 1089 = 1088 + 1 := by decide +kernel
theorem d_L_law_1089 : decode cL_law 1089 = .ok (.iaload, 1) ∧ 1090 = 1089 + 1 := by decide +kernel
theorem d_L_law_1090 : decode cL_law 1090 = .ok (.invokevirtual 110, 3) ∧ 1093 = 1090 + 3 := by decide +kernel
theorem d_L_law_1093 : decode cL_law 1093 = .ok (.aload_n 2, 1) ∧ 1094 = 1093 + 1 := by decide +kernel
theorem d_L_law_1094 : decode cL_law 1094 = .ok (.aload_n 0, 1) ∧ 1095 = 1094 + 1 := by decide +kernel
theorem d_L_law_1095 : decode cL_law 1095 = .ok (.iload_n 3, 1) ∧ 1096 = 1095 + 1 := by decide +kernel
theorem d_L_law_1096 : decode cL_law 1096 = .ok (.iconst 1, 1) ∧ 1097 = 1096 + 1 := by decide +kernel
theorem d_L_law_1097 : decode cL_law 1097 = .ok (.iadd, 1) ∧ 1098 = 1097 + 1 := by decide +kernel
theorem d_L_law_1098 : decode cL_law 1098 = .ok (.iaload, 1) ∧ 1099 = 1098 + 1 := by decide +kernel
theorem d_L_law_1099 : decode cL_law 1099 = .ok (.aload_n 0, 1) ∧ 1100 = 1099 + 1 := by decide +kernel
theorem d_L_law_1100 : decode cL_law 1100 = .ok (.iload_n 3, 1) ∧ 1101 = 1100 + 1 := by decide +kernel
theorem d_L_law_1101 : decode cL_law 1101 = .ok (.iconst 2, 1) ∧ 1102 = 1101 + 1 := by decide +kernel
theorem d_L_law_1102 : decode cL_law 1102 = .ok (.iadd, 1) ∧ 1103 = 1102 + 1 := by decide +kernel
theorem d_L_law_1103 : decode cL_law 1103 = .ok (.iaload, 1) ∧ 1104 = 1103 + 1 := by decide +kernel
theorem d_L_law_1104 : decode cL_law 1104 = .ok (.invokevirtual 113, 3) ∧ 1107 = 1104 + 3 := by decide +kernel
theorem d_L_law_1107 : decode cL_law 1107 = .ok (.if_icmp .eq 179, 3) ∧ 1110 = 1107 + 3 ∧ (1107 : Int) + 179 = ((1286 : Nat) : Int) := by decide +kernel
theorem d_L_law_1110 : decode cL_law 1110 = .ok (.iconst 0, 1) ∧ 1111 = 1110 + 1 := by decide +kernel
theorem d_L_law_1111 : decode cL_law 1111 = .ok (.ireturn, 1) := by decide +kernel
theorem d_L_law_1112 : decode cL_law 1112 = .ok (.aload_n 1, 1) ∧ 1113 = 1112 + 1 := by decide +kernel
theorem d_L_law_1113 : decode cL_law 1113 = .ok (.aload_n 0, 1) ∧ 1114 = 1113 + 1 := by decide +kernel
theorem d_L_law_1114 : decode cL_law 1114 = .ok (.iload_n 3, 1) ∧ 1115 = 1114 + 1 := by decide +kernel
theorem d_L_law_1115 : decode cL_law 1115 = .ok (.iconst 1, 1) ∧ 1116 = 1115 + 1 := by decide +kernel
theorem d_L_law_1116 : decode cL_law 1116 = .ok (.iadd, 1) ∧ 1117 = 1116 + 1 := by decide +kernel
theorem d_L_law_1117 : decode cL_law 1117 = .ok (.iaload, 1) ∧ 1118 = 1117 + 1 := by decide +kernel
theorem d_L_law_1118 : decode cL_law 1118 = .ok (.aload_n 0, 1) ∧ 1119 = 1118 + 1 := by decide +kernel
theorem d_L_law_1119 : decode cL_law 1119 = .ok (.iload_n 3, 1) ∧ 1120 = 1119 + 1 := by decide +kernel
theorem d_L_law_1120 : decode cL_law 1120 = .ok (.iconst 2, 1) ∧ 1121 = 1120 + 1 := by decide +kernel
theorem d_L_law_1121 : decode cL_law 1121 = .ok (.iadd, 1) ∧ 1122 = 1121 + 1 := by decide +kernel
theorem d_L_law_1122 : decode cL_law 1122 = .ok (.iaload, 1) ∧ 1123 = 1122 + 1 := by decide +kernel
theorem d_L_law_1123 : decode cL_law 1123 = .ok (.invokevirtual 114, 3) ∧ 1126 = 1123 + 3 := by decide +kernel
theorem d_L_law_1126 : decode cL_law 1126 = .ok (.aload_n 2, 1) ∧ 1127 = 1126 + 1 := by decide +kernel
theorem d_L_law_1127 : decode cL_law 1127 = .ok (.aload_n 0, 1) ∧ 1128 = 1127 + 1 := by decide +kernel
theorem d_L_law_1128 : decode cL_law 1128 = .ok (.iload_n 3, 1) ∧ 1129 = 1128 + 1 := by decide +kernel
theorem d_L_law_1129 : decode cL_law 1129 = .ok (.iconst 1, 1) ∧ 1130 = 1129 + 1 := by decide +kernel
theorem d_L_law_1130 : decode cL_law 1130 = .ok (.iadd, 1) ∧ 1131 = 1130 + 1 := by decide +kernel
theorem d_L_law_1131 : decode cL_law 1131 = .ok (.iaload, 1) ∧ 1132 = 1131 + 1 := by decide +kernel
theorem d_L_law_1132 : decode cL_law 1132 = .ok (.aload_n 0, 1) ∧ 1133 = 1132 + 1 := by decide +kernel
theorem d_L_law_1133 : decode cL_law 1133 = .ok (.iload_n 3, 1) ∧ 1134 = 1133 + 1 := by decide +kernel
theorem d_L_law_1134 : decode cL_law 1134 = .ok (.iconst 2, 1) ∧ 1135 = 1134 + 1 := by decide +kernel
theorem d_L_law_1135 : decode cL_law 1135 = .ok (.iadd, 1) ∧ 1136 = 1135 + 1 := by decide +kernel
theorem d_L_law_1136 : decode cL_law 1136 = .ok (.iaload, 1) ∧ 1137 = 1136 + 1 := by decide +kernel
theorem d_L_law_1137 : decode cL_law 1137 = .ok (.invokevirtual 117, 3) ∧ 1140 = 1137 + 3 := by decide +kernel
theorem d_L_law_1140 : decode cL_law 1140 = .ok (.if_icmp .eq 146, 3) ∧ 1143 = 1140 + 3 ∧ (1140 : Int) + 146 = ((1286 : Nat) : Int) := by decide +kernel
theorem d_L_law_1143 : decode cL_law 1143 = .ok (.iconst 0, 1) ∧ 1144 = 1143 + 1 := by decide +kernel
theorem d_L_law_1144 : decode cL_law 1144 = .ok (.ireturn, 1) := by decide +kernel
theorem d_L_law_1145 : decode cL_law 1145 = .ok (.aload_n 1, 1) ∧ 1146 = 1145 + 1 := by decide +kernel
theorem d_L_law_1146 : decode cL_law 1146 = .ok (.aload_n 0, 1) ∧ 1147 = 1146 + 1 := by decide +kernel
theorem d_L_law_1147 : decode cL_law 1147 = .ok (.iload_n 3, 1) ∧ 1148 = 1147 + 1 := by decide +kernel
theorem d_L_law_1148 : decode cL_law 1148 = .ok (.iconst 1, 1) ∧ 1149 = 1148 + 1 := by decide +kernel
theorem d_L_law_1149 : decode cL_law 1149 = .ok (.iadd, 1) ∧ 1150 = 1149 + 1 := by decide +kernel
theorem d_L_law_1150 : decode cL_law 1150 = .ok (.iaload, 1) ∧ 1151 = 1150 + 1 := by decide +kernel
theorem d_L_law_1151 : decode cL_law 1151 = .ok (.aload_n 0, 1) ∧ 1152 = 1151 + 1 := by decide +kernel
theorem d_L_law_1152 : decode cL_law 1152 = .ok (.iload_n 3, 1) ∧ 1153 = 1152 + 1 := by decide +kernel
theorem d_L_law_1153 : decode cL_law 1153 = .ok (.iconst 2, 1) ∧ 1154 = 1153 + 1 := by decide +kernel
theorem d_L_law_1154 : decode cL_law 1154 = .ok (.iadd, 1) ∧ 1155 = 1154 + 1 := by decide +kernel
theorem d_L_law_1155 : decode cL_law 1155 = .ok (.iaload, 1) ∧ 1156 = 1155 + 1 := by decide +kernel
theorem d_L_law_1156 : decode cL_law 1156 = .ok (.ifCond .eq 7, 3) ∧ 1159 = 1156 + 3 ∧ (1156 : Int) + 7 = ((1163 : Nat) : Int) := by decide +kernel
theorem d_L_law_1159 : decode cL_law 1159 = .ok (.iconst 1, 1) ∧ 1160 = 1159 + 1 := by decide +kernel
theorem d_L_law_1160 : decode cL_law 1160 = .ok (.goto 4, 3) ∧ (1160 : Int) + (4) = ((1164 : Nat) : Int) := by decide +kernel
theorem d_L_law_1163 : decode cL_law 1163 = .ok (.iconst 0, 1) ∧ 1164 = 1163 + 1 := by decide +kernel
theorem d_L_law_1164 : decode cL_law 1164 = .ok (.invokevirtual 118, 3) ∧ 1167 = 1164 + 3 := by decide +kernel
theorem d_L_law_1167 : decode cL_law 1167 = .ok (.aload_n 2, 1) ∧ 1168 = 1167 + 1 := by decide +kernel
theorem d_L_law_1168 : decode cL_law 1168 = .ok (.aload_n 0, 1) ∧ 1169 = 1168 + 1 := by decide +kernel
theorem d_L_law_1169 : decode cL_law 1169 = .ok (.iload_n 3, 1) ∧ 1170 = 1169 + 1 := by decide +kernel
theorem d_L_law_1170 : decode cL_law 1170 = .ok (.iconst 1, 1) ∧ 1171 = 1170 + 1 := by decide +kernel
theorem d_L_law_1171 : decode cL_law 1171 = .ok (.iadd, 1) ∧ 1172 = 1171 + 1 := by decide +kernel
theorem d_L_law_1172 : decode cL_law 1172 = .ok (.iaload, 1) ∧ 1173 = 1172 + 1 := by decide +kernel
theorem d_L_law_1173 : decode cL_law 1173 = .ok (.aload_n 0, 1) ∧ 1174 = 1173 + 1 := by decide +kernel
theorem d_L_law_1174 : decode cL_law 1174 = .ok (.iload_n 3, 1) ∧ 1175 = 1174 + 1 := by decide +kernel
theorem d_L_law_1175 : decode cL_law 1175 = .ok (.iconst 2, 1) ∧ 1176 = 1175 + 1 := by decide +kernel
theorem d_L_law_1176 : decode cL_law 1176 = .ok (.iadd, 1) ∧ 1177 = 1176 + 1 := by decide +kernel
theorem d_L_law_1177 : decode cL_law 1177 = .ok (.iaload, 1) ∧ 1178 = 1177 + 1 := by decide +kernel
theorem d_L_law_1178 : decode cL_law 1178 = .ok (.ifCond .eq 7, 3) ∧ 1181 = 1178 + 3 ∧ (1178 : Int) + 7 = ((1185 : Nat) : Int) := by decide +kernel
theorem d_L_law_1181 : decode cL_law 1181 = .ok (.iconst 1, 1) ∧ 1182 = 1181 + 1 := by decide +kernel
theorem d_L_law_1182 : decode cL_law 1182 = .ok (.goto 4, 3) ∧ (1182 : Int) + (4) = ((1186 : Nat) : Int) := by decide +kernel
theorem d_L_law_1185 : decode cL_law 1185 = .ok (.iconst 0, 1) ∧ 1186 = 1185 + 1 := by decide +kernel
theorem d_L_law_1186 : decode cL_law 1186 = .ok (.invokevirtual 121, 3) ∧ 1189 = 1186 + 3 := by decide +kernel
theorem d_L_law_1189 : decode cL_law 1189 = .ok (.if_icmp .eq 97, 3) ∧ 1192 = 1189 + 3 ∧ (1189 : Int) + 97 = ((1286 : Nat) : Int) := by decide +kernel
theorem d_L_law_1192 : decode cL_law 1192 = .ok (.iconst 0, 1) ∧ 1193 = 1192 + 1 := by decide +kernel
theorem d_L_law_1193 : decode cL_law 1193 = .ok (.ireturn, 1) := by decide +kernel
theorem d_L_law_1194 : decode cL_law 1194 = .ok (.aload_n 1, 1) ∧ 1195 = 1194 + 1 := by decide +kernel
theorem d_L_law_1195 : decode cL_law 1195 = .ok (.aload_n 0, 1) ∧ 1196 = 1195 + 1 := by decide +kernel
theorem d_L_law_1196 : decode cL_law 1196 = .ok (.iload_n 3, 1) ∧ 1197 = 1196 + 1 := by decide +kernel
theorem d_L_law_1197 : decode cL_law 1197 = .ok (.iconst 1, 1) ∧ 1198 = 1197 + 1 := by decide +kernel
theorem d_L_law_1198 : decode cL_law 1198 = .ok (.iadd, 1) ∧ 1199 = 1198 + 1 := by decide +kernel
theorem d_L_law_1199 : decode cL_law 1199 = .ok (.iaload, 1) ∧ 1200 = 1199 + 1 := by decide +kernel
theorem d_L_law_1200 : decode cL_law 1200 = .ok (.aload_n 0, 1) ∧ 1201 = 1200 + 1 := by decide +kernel
theorem d_L_law_1201 : decode cL_law 1201 = .ok (.iload_n 3, 1) ∧ 1202 = 1201 + 1 := by decide +kernel
theorem d_L_law_1202 : decode cL_law 1202 = .ok (.iconst 2, 1) ∧ 1203 = 1202 + 1 := by decide +kernel
theorem d_L_law_1203 : decode cL_law 1203 = .ok (.iadd, 1) ∧ 1204 = 1203 + 1 := by decide +kernel
theorem d_L_law_1204 : decode cL_law 1204 = .ok (.iaload, 1) ∧ 1205 = 1204 + 1 := by decide +kernel
theorem d_L_law_1205 : decode cL_law 1205 = .ok (.aload_n 0, 1) ∧ 1206 = 1205 + 1 := by decide +kernel
theorem d_L_law_1206 : decode cL_law 1206 = .ok (.iload_n 3, 1) ∧ 1207 = 1206 + 1 := by decide +kernel
theorem d_L_law_1207 : decode cL_law 1207 = .ok (.iconst 3, 1) ∧ 1208 = 1207 + 1 := by decide +kernel
theorem d_L_law_1208 : decode cL_law 1208 = .ok (.iadd, 1) ∧ 1209 = 1208 + 1 := by decide +kernel
theorem d_L_law_1209 : decode cL_law 1209 = .ok (.iaload, 1) ∧ 1210 = 1209 + 1 := by decide +kernel
theorem d_L_law_1210 : decode cL_law 1210 = .ok (.invokevirtual 122, 3) ∧ 1213 = 1210 + 3 := by decide +kernel
theorem d_L_law_1213 : decode cL_law 1213 = .ok (.aload_n 2, 1) ∧ 1214 = 1213 + 1 := by decide +kernel
theorem d_L_law_1214 : decode cL_law 1214 = .ok (.aload_n 0, 1) ∧ 1215 = 1214 + 1 := by decide +kernel
theorem d_L_law_1215 : decode cL_law 1215 = .ok (.iload_n 3, 1) ∧ 1216 = 1215 + 1 := by decide +kernel
theorem d_L_law_1216 : decode cL_law 1216 = .ok (.iconst 1, 1) ∧ 1217 = 1216 + 1 := by decide +kernel
theorem d_L_law_1217 : decode cL_law 1217 = .ok (.iadd, 1) ∧ 1218 = 1217 + 1 := by decide +kernel
theorem d_L_law_1218 : decode cL_law 1218 = .ok (.iaload, 1) ∧ 1219 = 1218 + 1 := by decide +kernel
theorem d_L_law_1219 : decode cL_law 1219 = .ok (.aload_n 0, 1) ∧ 1220 = 1219 + 1 := by decide +kernel
theorem d_L_law_1220 : decode cL_law 1220 = .ok (.iload_n 3, 1) ∧ 1221 = 1220 + 1 := by decide +kernel
theorem d_L_law_1221 : decode cL_law 1221 = .ok (.iconst 2, 1) ∧ 1222 = 1221 + 1 := by decide +kernel
theorem d_L_law_1222 : decode cL_law 1222 = .ok (.iadd, 1) ∧ 1223 = 1222 + 1 := by decide +kernel
theorem d_L_law_1223 : decode cL_law 1223 = .ok (.iaload, 1) ∧ 1224 = 1223 + 1 := by decide +kernel
theorem d_L_law_1224 : decode cL_law 1224 = .ok (.aload_n 0, 1) ∧ 1225 = 1224 + 1 := by decide +kernel
theorem d_L_law_1225 : decode cL_law 1225 = .ok (.iload_n 3, 1) ∧ 1226 = 1225 + 1 := by decide +kernel
theorem d_L_law_1226 : decode cL_law 1226 = .ok (.iconst 3, 1) ∧ 1227 = 1226 + 1 := by decide +kernel
theorem d_L_law_1227 : decode cL_law 1227 = .ok (.iadd, 1) ∧ 1228 = 1227 + 1 := by decide +kernel
theorem d_L_law_1228 : decode cL_law 1228 = .ok (.iaload, 1) ∧ 1229 = 1228 + 1 := by decide +kernel
theorem d_L_law_1229 : decode cL_law 1229 = .ok (.invokevirtual 125, 3) ∧ 1232 = 1229 + 3 := by decide +kernel
theorem d_L_law_1232 : decode cL_law 1232 = .ok (.if_icmp .eq 54, 3) ∧ 1235 = 1232 + 3 ∧ (1232 : Int) + 54 = ((1286 : Nat) : Int) := by decide +kernel
theorem d_L_law_1235 : decode cL_law 1235 = .ok (.iconst 0, 1) ∧ 1236 = 1235 + 1 := by decide +kernel
theorem d_L_law_1236 : decode cL_law 1236 = .ok (.ireturn, 1) := by decide +kernel
theorem d_L_law_1237 : decode cL_law 1237 = .ok (.aload_n 1, 1) ∧ 1238 = 1237 + 1 := by decide +kernel
theorem d_L_law_1238 : decode cL_law 1238 = .ok (.invokevirtual 126, 3) ∧ 1241 = 1238 + 3 := by decide +kernel
theorem d_L_law_1241 : decode cL_law 1241 = .ok (.aload_n 2, 1) ∧ 1242 = 1241 + 1 := by decide +kernel
theorem d_L_law_1242 : decode cL_law 1242 = .ok (.invokevirtual 129, 3) ∧ 1245 = 1242 + 3 := by decide +kernel
theorem d_L_law_1245 : decode cL_law 1245 = .ok (.if_icmp .eq 41, 3) ∧ 1248 = 1245 + 3 ∧ (1245 : Int) + 41 = ((1286 : Nat) : Int) := by decide +kernel
theorem d_L_law_1248 : decode cL_law 1248 = .ok (.iconst 0, 1) ∧ 1249 = 1248 + 1 := by decide +kernel
theorem d_L_law_1249 : decode cL_law 1249 = .ok (.ireturn, 1) := by decide +kernel
theorem d_L_law_1250 : decode cL_law 1250 = .ok (.aload_n 1, 1) ∧ 1251 = 1250 + 1 := by decide +kernel
theorem d_L_law_1251 : decode cL_law 1251 = .ok (.invokevirtual 130, 3) ∧ 1254 = 1251 + 3 := by decide +kernel
theorem d_L_law_1254 : decode cL_law 1254 = .ok (.aload_n 2, 1) ∧ 1255 = 1254 + 1 := by decide +kernel
theorem d_L_law_1255 : decode cL_law 1255 = .ok (.invokevirtual 133, 3) ∧ 1258 = 1255 + 3 := by decide +kernel
theorem d_L_law_1258 : decode cL_law 1258 = .ok (.if_icmp .eq 28, 3) ∧ 1261 = 1258 + 3 ∧ (1258 : Int) + 28 = ((1286 : Nat) : Int) := by decide +kernel
theorem d_L_law_1261 : decode cL_law 1261 = .ok (.iconst 0, 1) ∧ 1262 = 1261 + 1 := by decide +kernel
theorem d_L_law_1262 : decode cL_law 1262 = .ok (.ireturn, 1) := by decide +kernel
theorem d_L_law_1263 : decode cL_law 1263 = .ok (.aload_n 1, 1) ∧ 1264 = 1263 + 1 := by decide +kernel
theorem d_L_law_1264 : decode cL_law 1264 = .ok (.aload_n 0, 1) ∧ 1265 = 1264 + 1 := by decide +kernel
theorem d_L_law_1265 : decode cL_law 1265 = .ok (.iload_n 3, 1) ∧ 1266 = 1265 + 1 := by decide +kernel
theorem d_L_law_1266 : decode cL_law 1266 = .ok (.iconst 1, 1) ∧ 1267 = 1266 + 1 := by decide +kernel
theorem d_L_law_1267 : decode cL_law 1267 = .ok (.iadd, 1) ∧ 1268 = 1267 + 1 := by decide +kernel
theorem d_L_law_1268 : decode cL_law 1268 = .ok (.iaload, 1) ∧ 1269 = 1268 + 1 := by decide +kernel
theorem d_L_law_1269 : decode cL_law 1269 = .ok (.invokevirtual 134, 3) ∧ 1272 = 1269 + 3 := by decide +kernel
theorem d_L_law_1272 : decode cL_law 1272 = .ok (.aload_n 2, 1) ∧ 1273 = 1272 + 1 := by decide +kernel
theorem d_L_law_1273 : decode cL_law 1273 = .ok (.aload_n 0, 1) ∧ 1274 = 1273 + 1 := by decide +kernel
theorem d_L_law_1274 : decode cL_law 1274 = .ok (.iload_n 3, 1) ∧ 1275 = 1274 + 1 := by decide +kernel
theorem d_L_law_1275 : decode cL_law 1275 = .ok (.iconst 1, 1) ∧ 1276 = 1275 + 1 := by decide +kernel
theorem d_L_law_1276 : decode cL_law 1276 = .ok (.iadd, 1) ∧ 1277 = 1276 + 1 := by decide +kernel
theorem d_L_law_1277 : decode cL_law 1277 = .ok (.iaload, 1) ∧ 1278 = 1277 + 1 := by decide +kernel
theorem d_L_law_1278 : decode cL_law 1278 = .ok (.invokevirtual 137, 3) ∧ 1281 = 1278 + 3 := by decide +kernel
theorem d_L_law_1281 : decode cL_law 1281 = .ok (.if_icmp .eq 5, 3) ∧ 1284 = 1281 + 3 ∧ (1281 : Int) + 5 = ((1286 : Nat) : Int) := by decide +kernel
theorem d_L_law_1284 : decode cL_law 1284 = .ok (.iconst 0, 1) ∧ 1285 = 1284 + 1 := by decide +kernel
theorem d_L_law_1285 : decode cL_law 1285 = .ok (.ireturn, 1) := by decide +kernel
theorem d_L_law_1286 : decode cL_law 1286 = .ok (.iinc 3 6, 3) ∧ 1289 = 1286 + 3 := by decide +kernel
theorem d_L_law_1289 : decode cL_law 1289 = .ok (.goto (-1271), 3) ∧ (1289 : Int) + ((-1271)) = ((18 : Nat) : Int) := by decide +kernel
theorem d_L_law_1292 : decode cL_law 1292 = .ok (.iconst 1, 1) ∧ 1293 = 1292 + 1 := by decide +kernel
theorem d_L_law_1293 : decode cL_law 1293 = .ok (.ireturn, 1) := by decide +kernel
