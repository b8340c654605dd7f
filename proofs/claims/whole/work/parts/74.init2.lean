/-! CONSTRUCTORS of the class and of the model -/
theorem q_t {M : MD} {κ : Nat × Nat} {Q : Option Value → AH → Prop} {pc pc2 a n k b : Nat} {h : AH} {ls : List (Option Value)} {st : List Value} {i : Int32} {f : Nat → Option Nat} {fs : List Value} (hd : decode M.2.1 pc = .ok (.aastore, 1) ∧ pc2 = pc + 1) (hc : Hs h a (aT n f)) (hv : Hs h b (.inr (8, fs))) (hi : i = nI k) (hk : k < n) (hn : n < 2 ^ 31) (kk : ∀ h1 : AH, Hs h1 a (aT n (va_up f k (some b))) → h1.2.1 = h.2.1 → Fr [a] h h1 → E M κ Q pc2 h1 ls st) : E M κ Q pc h ls (.ref b :: .int i :: .ref a :: st) :=
  e_tast hd hc hv (in_N hi hk hn).1 (by rw [(in_N hi hk hn).2]; exact kk _ hc.s rfl ((Fr.refl [a] h).up (List.mem_singleton.mpr rfl)))

theorem s_X10_init {h : AH} (H : Hs h 0 (.inr (10, [.null, .null, .null, .null, .null, .int 0, .null, .int 0, .null, .int 0, .int 0, .int 0, .null, .null, .null, .null, .null, .null]))) (hz : h.2.1 = 1) : Sp M_X10_init (65, 3511) h [.ref 0] (rV (fun h' => h'.1 = h.1 ∧ h'.2.1 = 66 ∧ Hs h' 0 (.inr (10, [.ref 1, .ref 6, .ref 12, .ref 17, .ref 20, .int 0, .ref 21, .int 0, .ref 22, .int (-1), .int (-1), .int (1000), .ref 24, .ref 27, .ref 31, .ref 35, .ref 39, .ref 40])) ∧ Hs h' 1 (.inr (0, [.ref 2, .ref 3, .ref 4, .ref 5, .int 0, .int 0, .int 0])) ∧ Hs h' 2 (aI 14 (fun _ => 0)) ∧ Hs h' 3 (aI 14 (fun _ => 0)) ∧ Hs h' 4 (aI 14 (fun _ => 0)) ∧ Hs h' 5 (aI 14 (fun _ => 0)) ∧ Hs h' 6 (.inr (9, [.ref 7, .ref 8, .ref 9, .ref 10, .ref 11, .int 0])) ∧ Hs h' 7 (aI 12 (fun _ => 0)) ∧ Hs h' 8 (aI 12 (fun _ => 0)) ∧ Hs h' 9 (aZ 12 (fun _ => 0)) ∧ Hs h' 10 (aI 12 (fun _ => 0)) ∧ Hs h' 11 (aI 168 (fillTo (-1) (fun _ => 0) 168)) ∧ Hs h' 12 (.inr (5, [.ref 13, .ref 14, .ref 15, .ref 16, .int 0, .int 0, .int 0])) ∧ Hs h' 13 (aI 20 (fun _ => 0)) ∧ Hs h' 14 (aI 20 (fun _ => 0)) ∧ Hs h' 15 (aI 12 (fun _ => 0)) ∧ Hs h' 16 (aI 12 (fun _ => 0)) ∧ Hs h' 17 (.inr (4, [.ref 18, .ref 19, .int 0])) ∧ Hs h' 18 (aI 8 (fun _ => 0)) ∧ Hs h' 19 (aI 8 (fun _ => 0)) ∧ Hs h' 21 (aI 300 (fun _ => 0)) ∧ Hs h' 22 (.inr (6, [.ref 23, .int 0, .int 0, .int 0, .null, .int 0, .int 0, .int 0, .int 0, .int 0, .int 0, .int 0, .int 0, .null, .int 0, .int 0])) ∧ Hs h' 23 (aI 32 (fun _ => 0)) ∧ Hs h' 24 (.inr (3, [.ref 25, .ref 26])) ∧ Hs h' 25 (aI 11 (fun _ => 0)) ∧ Hs h' 26 (aI 32 (fun _ => 0)) ∧ Hs h' 27 (.inr (1, [.ref 28, .ref 29, .ref 30, .int 0, .int (-1)])) ∧ Hs h' 28 (aI 14 (fun _ => 0)) ∧ Hs h' 29 (aI 14 (fun _ => 0)) ∧ Hs h' 30 (aI 1 (fun _ => 0)) ∧ Hs h' 31 (.inr (7, [.ref 32, .ref 33, .ref 34, .int 0])) ∧ Hs h' 32 (aI 128 (fun _ => 0)) ∧ Hs h' 33 (aI 128 (fun _ => 0)) ∧ Hs h' 34 (aI 16 (fun _ => 0)) ∧ Hs h' 35 (.inr (7, [.ref 36, .ref 37, .ref 38, .int 0])) ∧ Hs h' 36 (aI 128 (fun _ => 0)) ∧ Hs h' 37 (aI 128 (fun _ => 0)) ∧ Hs h' 38 (aI 16 (fun _ => 0)) ∧ Hs h' 39 (aI 12 (fun _ => 0)) ∧ Hs h' 40 (.inr (2, [.ref 41, .int 0, .int 0, .int 0, .int 0, .int 0, .int 0, .int 0, .int (1000)])) ∧ Hs h' 41 (aI 168 (fillTo (-1) (fun _ => 0) 168)) ∧ Hs h' 42 (.inr (8, [.ref 43, .ref 44, .ref 45, .int 0, .int 0, .int 0])) ∧ Hs h' 43 (aI 10 (fun _ => 0)) ∧ Hs h' 44 (aI 11 (fun _ => 0)) ∧ Hs h' 45 (aI 300 (fun _ => 0)) ∧ Hs h' 46 (.inr (8, [.ref 47, .ref 48, .ref 49, .int 0, .int 0, .int 0])) ∧ Hs h' 47 (aI 10 (fun _ => 0)) ∧ Hs h' 48 (aI 11 (fun _ => 0)) ∧ Hs h' 49 (aI 300 (fun _ => 0)) ∧ Hs h' 50 (.inr (8, [.ref 51, .ref 52, .ref 53, .int 0, .int 0, .int 0])) ∧ Hs h' 51 (aI 10 (fun _ => 0)) ∧ Hs h' 52 (aI 11 (fun _ => 0)) ∧ Hs h' 53 (aI 300 (fun _ => 0)) ∧ Hs h' 54 (.inr (8, [.ref 55, .ref 56, .ref 57, .int 0, .int 0, .int 0])) ∧ Hs h' 55 (aI 10 (fun _ => 0)) ∧ Hs h' 56 (aI 11 (fun _ => 0)) ∧ Hs h' 57 (aI 300 (fun _ => 0)) ∧ Hs h' 58 (.inr (8, [.ref 59, .ref 60, .ref 61, .int 0, .int 0, .int 0])) ∧ Hs h' 59 (aI 10 (fun _ => 0)) ∧ Hs h' 60 (aI 11 (fun _ => 0)) ∧ Hs h' 61 (aI 300 (fun _ => 0)) ∧ Hs h' 62 (.inr (8, [.ref 63, .ref 64, .ref 65, .int 0, .int 0, .int 0])) ∧ Hs h' 63 (aI 10 (fun _ => 0)) ∧ Hs h' 64 (aI 11 (fun _ => 0)) ∧ Hs h' 65 (aI 300 (fun _ => 0)) ∧ ∃ tx : Nat → Option Nat, Hs h' 20 (aT 6 tx) ∧ ∀ t, t < 6 → tx t = some (42 + 4 * t))) := by
  refine ⟨Nat.le_of_ble_eq_true rfl, ?_⟩
  show E _ _ _ 0 h [some (.ref 0), none] []
  refine e_aloadn d_X10_init_0 rfl ?_
  refine e_objInit d_X10_init_1 ⟨lw_in 105 (by decide +kernel) rfl, lw_in 106 (by decide +kernel) rfl, lw_in 107 (by decide +kernel) rfl⟩ (Nat.le_of_ble_eq_true rfl) (Nat.le_of_ble_eq_true rfl) ?_
  refine e_aloadn d_X10_init_4 rfl ?_
  refine n_O (ci := 0) (fs := [.null, .null, .null, .null, .int 0, .int 0, .int 0]) (N := 7) (b := 1) (κ' := (64, 3504)) d_X10_init_5 rfl ⟨lw_in 108 (by decide +kernel) rfl, lw_in 109 (by decide +kernel) rfl, lw_in 81 (by decide +kernel) rfl⟩ (fsdef rfl (by decide +kernel)) (fun g => rfl) hz rfl rfl (fun g1 B1 y1 e1 => ?_)
  refine e_dup d_X10_init_8 rfl ?_
  refine e_ctorN d_X10_init_9 l_X10_init_9 (s_X0_init (s := 2) B1 y1) (Nat.le_of_ble_eq_true rfl) (by decide) (fun h1 q1 => ?_)
  obtain ⟨z1, e1', A1_0, A1_1, A1_2, A1_3, A1_4⟩ := q1
  have f1 : Fr [] h h1 := Fr.new e1 (Nat.le_of_eq hz) e1'
  have H1 := f1.hs H List.not_mem_nil
  refine q_oF (fs' := [.ref 1, .null, .null, .null, .null, .int 0, .null, .int 0, .null, .int 0, .int 0, .int 0, .null, .null, .null, .null, .null, .null]) d_X10_init_12 f_X10_10 rfl rfl H1 (Nat.le_of_ble_eq_true rfl) rfl (fun h2 H2 y2 f2 => ?_)
  have z2 := y2.trans z1
  refine e_aloadn d_X10_init_15 rfl ?_
  refine n_O (ci := 9) (fs := [.null, .null, .null, .null, .null, .int 0]) (N := 6) (b := 6) (κ' := (59, 3442)) d_X10_init_16 rfl ⟨lw_in 146 (by decide +kernel) rfl, lw_in 147 (by decide +kernel) rfl, lw_in 82 (by decide +kernel) rfl⟩ (fsdef rfl (by decide +kernel)) (fun g => rfl) z2 rfl rfl (fun g3 B3 y3 e3 => ?_)
  refine e_dup d_X10_init_19 rfl ?_
  refine e_ctor d_X10_init_20 l_X10_init_18 (s_X9_init (s := 7) B3 y3) (Nat.le_of_ble_eq_true rfl) (by decide) (fun h3 q3 => ?_)
  obtain ⟨z3, e3', A3_0, A3_1, A3_2, A3_3, A3_4, A3_5⟩ := q3
  have f3 : Fr [] h2 h3 := Fr.new e3 (Nat.le_of_eq z2) e3'
  have H3 := f3.hs H2 List.not_mem_nil
  refine q_oF (fs' := [.ref 1, .ref 6, .null, .null, .null, .int 0, .null, .int 0, .null, .int 0, .int 0, .int 0, .null, .null, .null, .null, .null, .null]) d_X10_init_23 f_X10_19 rfl rfl H3 (Nat.le_of_ble_eq_true rfl) rfl (fun h4 H4 y4 f4 => ?_)
  have z4 := y4.trans z3
  refine e_aloadn d_X10_init_26 rfl ?_
  refine n_O (ci := 5) (fs := [.null, .null, .null, .null, .int 0, .int 0, .int 0]) (N := 7) (b := 12) (κ' := (53, 3219)) d_X10_init_27 rfl ⟨lw_in 179 (by decide +kernel) rfl, lw_in 180 (by decide +kernel) rfl, lw_in 84 (by decide +kernel) rfl⟩ (fsdef rfl (by decide +kernel)) (fun g => rfl) z4 rfl rfl (fun g5 B5 y5 e5 => ?_)
  refine e_dup d_X10_init_30 rfl ?_
  refine e_ctorN d_X10_init_31 l_X10_init_25 (s_X5_init (s := 13) B5 y5) (Nat.le_of_ble_eq_true rfl) (by decide) (fun h5 q5 => ?_)
  obtain ⟨z5, e5', A5_0, A5_1, A5_2, A5_3, A5_4⟩ := q5
  have f5 : Fr [] h4 h5 := Fr.new e5 (Nat.le_of_eq z4) e5'
  have H5 := f5.hs H4 List.not_mem_nil
  refine q_oF (fs' := [.ref 1, .ref 6, .ref 12, .null, .null, .int 0, .null, .int 0, .null, .int 0, .int 0, .int 0, .null, .null, .null, .null, .null, .null]) d_X10_init_34 f_X10_26 rfl rfl H5 (Nat.le_of_ble_eq_true rfl) rfl (fun h6 H6 y6 f6 => ?_)
  have z6 := y6.trans z5
  refine e_aloadn d_X10_init_37 rfl ?_
  refine n_O (ci := 4) (fs := [.null, .null, .int 0]) (N := 3) (b := 17) (κ' := (48, 3152)) d_X10_init_38 rfl ⟨lw_in 210 (by decide +kernel) rfl, lw_in 211 (by decide +kernel) rfl, lw_in 85 (by decide +kernel) rfl⟩ (fsdef rfl (by decide +kernel)) (fun g => rfl) z6 rfl rfl (fun g7 B7 y7 e7 => ?_)
  refine e_dup d_X10_init_41 rfl ?_
  refine e_ctorN d_X10_init_42 l_X10_init_32 (s_X4_init (s := 18) B7 y7) (Nat.le_of_ble_eq_true rfl) (by decide) (fun h7 q7 => ?_)
  obtain ⟨z7, e7', A7_0, A7_1, A7_2⟩ := q7
  have f7 : Fr [] h6 h7 := Fr.new e7 (Nat.le_of_eq z6) e7'
  have H7 := f7.hs H6 List.not_mem_nil
  refine q_oF (fs' := [.ref 1, .ref 6, .ref 12, .ref 17, .null, .int 0, .null, .int 0, .null, .int 0, .int 0, .int 0, .null, .null, .null, .null, .null, .null]) d_X10_init_45 f_X10_33 rfl rfl H7 (Nat.le_of_ble_eq_true rfl) rfl (fun h8 H8 y8 f8 => ?_)
  have z8 := y8.trans z7
  refine e_aloadn d_X10_init_48 rfl ?_
  refine e_bipush (v := 6) d_X10_init_49 (by decide) ?_
  refine n_T (N := 6) (b := 20) (κ' := (45, 3130)) d_X10_init_51 (lw_in 227 (by decide +kernel) rfl) z8 (by decide) (by decide) rfl rfl (fun h9 A9 z9 f9 => ?_)
  have H9 := f9.hs H8 List.not_mem_nil
  refine q_aF (fs' := [.ref 1, .ref 6, .ref 12, .ref 17, .ref 20, .int 0, .null, .int 0, .null, .int 0, .int 0, .int 0, .null, .null, .null, .null, .null, .null]) d_X10_init_54 f_X10_39 rfl rfl H9 (Nat.le_of_ble_eq_true rfl) rfl (fun h10 H10 y10 f10 => ?_)
  have z10 := y10.trans z9
  refine e_aloadn d_X10_init_57 rfl ?_
  refine e_sipush (v := 300) d_X10_init_58 (by decide) ?_
  refine n_I (N := 300) (b := 21) (κ' := (44, 2830)) d_X10_init_61 z10 (by decide) (by decide) rfl rfl (fun h11 A11 z11 f11 => ?_)
  have H11 := f11.hs H10 List.not_mem_nil
  refine q_aF (fs' := [.ref 1, .ref 6, .ref 12, .ref 17, .ref 20, .int 0, .ref 21, .int 0, .null, .int 0, .int 0, .int 0, .null, .null, .null, .null, .null, .null]) d_X10_init_63 f_X10_43 rfl rfl H11 (Nat.le_of_ble_eq_true rfl) rfl (fun h12 H12 y12 f12 => ?_)
  have z12 := y12.trans z11
  refine e_aloadn d_X10_init_66 rfl ?_
  refine n_O (ci := 6) (fs := [.null, .int 0, .int 0, .int 0, .null, .int 0, .int 0, .int 0, .int 0, .int 0, .int 0, .int 0, .int 0, .null, .int 0, .int 0]) (N := 16) (b := 22) (κ' := (43, 2814)) d_X10_init_67 rfl ⟨lw_in 229 (by decide +kernel) rfl, lw_in 230 (by decide +kernel) rfl, lw_in 86 (by decide +kernel) rfl⟩ (fsdef rfl (by decide +kernel)) (fun g => rfl) z12 rfl rfl (fun g13 B13 y13 e13 => ?_)
  refine e_dup d_X10_init_70 rfl ?_
  refine e_ctorN d_X10_init_71 l_X10_init_49 (s_X6_init (s := 23) B13 y13) (Nat.le_of_ble_eq_true rfl) (by decide) (fun h13 q13 => ?_)
  obtain ⟨z13, e13', A13_0, A13_1⟩ := q13
  have f13 : Fr [] h12 h13 := Fr.new e13 (Nat.le_of_eq z12) e13'
  have H13 := f13.hs H12 List.not_mem_nil
  refine q_oF (fs' := [.ref 1, .ref 6, .ref 12, .ref 17, .ref 20, .int 0, .ref 21, .int 0, .ref 22, .int 0, .int 0, .int 0, .null, .null, .null, .null, .null, .null]) d_X10_init_74 f_X10_50 rfl rfl H13 (Nat.le_of_ble_eq_true rfl) rfl (fun h14 H14 y14 f14 => ?_)
  have z14 := y14.trans z13
  refine e_aloadn d_X10_init_77 rfl ?_
  refine e_iconst (v := -1) d_X10_init_78 (by decide) ?_
  refine q_i (fs' := [.ref 1, .ref 6, .ref 12, .ref 17, .ref 20, .int 0, .ref 21, .int 0, .ref 22, .int (-1), .int 0, .int 0, .null, .null, .null, .null, .null, .null]) d_X10_init_79 f_X10_54 H14 (Nat.le_of_ble_eq_true rfl) rfl (fun h15 H15 y15 f15 => ?_)
  have z15 := y15.trans z14
  refine e_aloadn d_X10_init_82 rfl ?_
  refine e_iconst (v := -1) d_X10_init_83 (by decide) ?_
  refine q_i (fs' := [.ref 1, .ref 6, .ref 12, .ref 17, .ref 20, .int 0, .ref 21, .int 0, .ref 22, .int (-1), .int (-1), .int 0, .null, .null, .null, .null, .null, .null]) d_X10_init_84 f_X10_58 H15 (Nat.le_of_ble_eq_true rfl) rfl (fun h16 H16 y16 f16 => ?_)
  have z16 := y16.trans z15
  refine e_aloadn d_X10_init_87 rfl ?_
  refine e_sipush (v := 1000) d_X10_init_88 (by decide) ?_
  refine q_i (fs' := [.ref 1, .ref 6, .ref 12, .ref 17, .ref 20, .int 0, .ref 21, .int 0, .ref 22, .int (-1), .int (-1), .int (1000), .null, .null, .null, .null, .null, .null]) d_X10_init_91 f_X10_61 H16 (Nat.le_of_ble_eq_true rfl) rfl (fun h17 H17 y17 f17 => ?_)
  have z17 := y17.trans z16
  refine e_aloadn d_X10_init_94 rfl ?_
  refine n_O (ci := 3) (fs := [.null, .null]) (N := 2) (b := 24) (κ' := (41, 2780)) d_X10_init_95 rfl ⟨lw_in 286 (by decide +kernel) rfl, lw_in 287 (by decide +kernel) rfl, lw_in 87 (by decide +kernel) rfl⟩ (fsdef rfl (by decide +kernel)) (fun g => rfl) z17 rfl rfl (fun g18 B18 y18 e18 => ?_)
  refine e_dup d_X10_init_98 rfl ?_
  refine e_ctorN d_X10_init_99 l_X10_init_66 (s_X3_init (s := 25) B18 y18) (Nat.le_of_ble_eq_true rfl) (by decide) (fun h18 q18 => ?_)
  obtain ⟨z18, e18', A18_0, A18_1, A18_2⟩ := q18
  have f18 : Fr [] h17 h18 := Fr.new e18 (Nat.le_of_eq z17) e18'
  have H18 := f18.hs H17 List.not_mem_nil
  refine q_oF (fs' := [.ref 1, .ref 6, .ref 12, .ref 17, .ref 20, .int 0, .ref 21, .int 0, .ref 22, .int (-1), .int (-1), .int (1000), .ref 24, .null, .null, .null, .null, .null]) d_X10_init_102 f_X10_67 rfl rfl H18 (Nat.le_of_ble_eq_true rfl) rfl (fun h19 H19 y19 f19 => ?_)
  have z19 := y19.trans z18
  refine e_aloadn d_X10_init_105 rfl ?_
  refine n_O (ci := 1) (fs := [.null, .null, .null, .int 0, .int 0]) (N := 5) (b := 27) (κ' := (38, 2732)) d_X10_init_106 rfl ⟨lw_in 299 (by decide +kernel) rfl, lw_in 300 (by decide +kernel) rfl, lw_in 88 (by decide +kernel) rfl⟩ (fsdef rfl (by decide +kernel)) (fun g => rfl) z19 rfl rfl (fun g20 B20 y20 e20 => ?_)
  refine e_dup d_X10_init_109 rfl ?_
  refine e_ctorN d_X10_init_110 l_X10_init_73 (s_X1_init (s := 28) B20 y20) (Nat.le_of_ble_eq_true rfl) (by decide) (fun h20 q20 => ?_)
  obtain ⟨z20, e20', A20_0, A20_1, A20_2, A20_3⟩ := q20
  have f20 : Fr [] h19 h20 := Fr.new e20 (Nat.le_of_eq z19) e20'
  have H20 := f20.hs H19 List.not_mem_nil
  refine q_oF (fs' := [.ref 1, .ref 6, .ref 12, .ref 17, .ref 20, .int 0, .ref 21, .int 0, .ref 22, .int (-1), .int (-1), .int (1000), .ref 24, .ref 27, .null, .null, .null, .null]) d_X10_init_113 f_X10_74 rfl rfl H20 (Nat.le_of_ble_eq_true rfl) rfl (fun h21 H21 y21 f21 => ?_)
  have z21 := y21.trans z20
  refine e_aloadn d_X10_init_116 rfl ?_
  refine n_O (ci := 7) (fs := [.null, .null, .null, .int 0]) (N := 4) (b := 31) (κ' := (34, 2699)) d_X10_init_117 rfl ⟨lw_in 326 (by decide +kernel) rfl, lw_in 327 (by decide +kernel) rfl, lw_in 89 (by decide +kernel) rfl⟩ (fsdef rfl (by decide +kernel)) (fun g => rfl) z21 rfl rfl (fun g22 B22 y22 e22 => ?_)
  refine e_dup d_X10_init_120 rfl ?_
  refine e_ctorN d_X10_init_121 l_X10_init_80 (s_X7_init (s := 32) B22 y22) (Nat.le_of_ble_eq_true rfl) (by decide) (fun h22 q22 => ?_)
  obtain ⟨z22, e22', A22_0, A22_1, A22_2, A22_3⟩ := q22
  have f22 : Fr [] h21 h22 := Fr.new e22 (Nat.le_of_eq z21) e22'
  have H22 := f22.hs H21 List.not_mem_nil
  refine q_oF (fs' := [.ref 1, .ref 6, .ref 12, .ref 17, .ref 20, .int 0, .ref 21, .int 0, .ref 22, .int (-1), .int (-1), .int (1000), .ref 24, .ref 27, .ref 31, .null, .null, .null]) d_X10_init_124 f_X10_81 rfl rfl H22 (Nat.le_of_ble_eq_true rfl) rfl (fun h23 H23 y23 f23 => ?_)
  have z23 := y23.trans z22
  refine e_aloadn d_X10_init_127 rfl ?_
  refine n_O (ci := 7) (fs := [.null, .null, .null, .int 0]) (N := 4) (b := 35) (κ' := (30, 2423)) d_X10_init_128 rfl ⟨lw_in 326 (by decide +kernel) rfl, lw_in 327 (by decide +kernel) rfl, lw_in 89 (by decide +kernel) rfl⟩ (fsdef rfl (by decide +kernel)) (fun g => rfl) z23 rfl rfl (fun g24 B24 y24 e24 => ?_)
  refine e_dup d_X10_init_131 rfl ?_
  refine e_ctorN d_X10_init_132 l_X10_init_80 (s_X7_init (s := 36) B24 y24) (Nat.le_of_ble_eq_true rfl) (by decide) (fun h24 q24 => ?_)
  obtain ⟨z24, e24', A24_0, A24_1, A24_2, A24_3⟩ := q24
  have f24 : Fr [] h23 h24 := Fr.new e24 (Nat.le_of_eq z23) e24'
  have H24 := f24.hs H23 List.not_mem_nil
  refine q_oF (fs' := [.ref 1, .ref 6, .ref 12, .ref 17, .ref 20, .int 0, .ref 21, .int 0, .ref 22, .int (-1), .int (-1), .int (1000), .ref 24, .ref 27, .ref 31, .ref 35, .null, .null]) d_X10_init_135 f_X10_85 rfl rfl H24 (Nat.le_of_ble_eq_true rfl) rfl (fun h25 H25 y25 f25 => ?_)
  have z25 := y25.trans z24
  refine e_aloadn d_X10_init_138 rfl ?_
  refine e_bipush (v := 12) d_X10_init_139 (by decide) ?_
  refine n_I (N := 12) (b := 39) (κ' := (26, 2139)) d_X10_init_141 z25 (by decide) (by decide) rfl rfl (fun h26 A26 z26 f26 => ?_)
  have H26 := f26.hs H25 List.not_mem_nil
  refine q_aF (fs' := [.ref 1, .ref 6, .ref 12, .ref 17, .ref 20, .int 0, .ref 21, .int 0, .ref 22, .int (-1), .int (-1), .int (1000), .ref 24, .ref 27, .ref 31, .ref 35, .ref 39, .null]) d_X10_init_143 f_X10_88 rfl rfl H26 (Nat.le_of_ble_eq_true rfl) rfl (fun h27 H27 y27 f27 => ?_)
  have z27 := y27.trans z26
  refine e_aloadn d_X10_init_146 rfl ?_
  refine n_O (ci := 2) (fs := [.null, .int 0, .int 0, .int 0, .int 0, .int 0, .int 0, .int 0, .int 0]) (N := 9) (b := 40) (κ' := (25, 2130)) d_X10_init_147 rfl ⟨lw_in 345 (by decide +kernel) rfl, lw_in 346 (by decide +kernel) rfl, lw_in 90 (by decide +kernel) rfl⟩ (fsdef rfl (by decide +kernel)) (fun g => rfl) z27 rfl rfl (fun g28 B28 y28 e28 => ?_)
  refine e_dup d_X10_init_150 rfl ?_
  refine e_ctor d_X10_init_151 l_X10_init_93 (s_X2_init (s := 41) B28 y28) (Nat.le_of_ble_eq_true rfl) (by decide) (fun h28 q28 => ?_)
  obtain ⟨z28, e28', A28_0, A28_1⟩ := q28
  have f28 : Fr [] h27 h28 := Fr.new e28 (Nat.le_of_eq z27) e28'
  have H28 := f28.hs H27 List.not_mem_nil
  refine q_oF (fs' := [.ref 1, .ref 6, .ref 12, .ref 17, .ref 20, .int 0, .ref 21, .int 0, .ref 22, .int (-1), .int (-1), .int (1000), .ref 24, .ref 27, .ref 31, .ref 35, .ref 39, .ref 40]) d_X10_init_154 f_X10_94 rfl rfl H28 (Nat.le_of_ble_eq_true rfl) rfl (fun h29 H29 y29 f29 => ?_)
  have z29 := y29.trans z28
  refine e_iconst (v := 0) d_X10_init_157 (by decide) ?_
  refine e_istoren d_X10_init_158 (by decide) rfl ?_
  have T0 := ((f29).hs ((Fr.any (S := [0]) f28).hs ((f27).hs ((Fr.any (S := [0]) f26).hs ((f25).hs ((Fr.any (S := [0]) f24).hs ((f23).hs ((Fr.any (S := [0]) f22).hs ((f21).hs ((Fr.any (S := [0]) f20).hs ((f19).hs ((Fr.any (S := [0]) f18).hs ((f17).hs ((f16).hs ((f15).hs ((f14).hs ((Fr.any (S := [0]) f13).hs ((f12).hs ((Fr.any (S := [0]) f11).hs ((f10).hs A9 (by decide)) (by decide)) (by decide)) (by decide)) (by decide)) (by decide)) (by decide)) (by decide)) (by decide)) (by decide)) (by decide)) (by decide)) (by decide)) (by decide)) (by decide)) (by decide)) (by decide)) (by decide)) (by decide)) (by decide))
  show E _ _ _ 159 h29 [some (.ref 0), some (.int 0)] []
  refine e_iloadn d_X10_init_159 rfl ?_
  refine e_bipush (v := 6) d_X10_init_160 (by decide) ?_
  refine e_icmp_ge d_X10_init_162 (fun z => absurd z (by decide)) (fun _ => ?_)
  refine e_aloadn d_X10_init_165 rfl ?_
  refine e_get d_X10_init_166 f_X10_39 H29 rfl ?_
  refine e_iloadn d_X10_init_169 rfl ?_
  refine n_O (ci := 8) (fs := [.null, .null, .null, .int 0, .int 0, .int 0]) (N := 6) (b := 42) (κ' := (23, 1956)) d_X10_init_170 rfl ⟨lw_in 227 (by decide +kernel) rfl, lw_in 382 (by decide +kernel) rfl, lw_in 91 (by decide +kernel) rfl⟩ (fsdef rfl (by decide +kernel)) (fun g => rfl) z29 rfl rfl (fun g30 B30 y30 e30 => ?_)
  refine e_dup d_X10_init_173 rfl ?_
  refine e_ctorN d_X10_init_174 l_X10_init_98 (s_X8_init (s := 43) B30 y30) (Nat.le_of_ble_eq_true rfl) (by decide) (fun h30 q30 => ?_)
  obtain ⟨z30, e30', A30_0, A30_1, A30_2, A30_3⟩ := q30
  have f30 : Fr [] h29 h30 := Fr.new e30 (Nat.le_of_eq z29) e30'
  have H30 := f30.hs H29 List.not_mem_nil
  have U0 := f30.hs T0 List.not_mem_nil
  refine q_t (k := 0) d_X10_init_177 U0 A30_0 (by decide) (by decide) (by decide) (fun h31 T1 y31 f31 => ?_)
  have z31 := y31.trans z30
  have H31 := f31.hs H30 (by decide)
  refine e_iincw (w := 1) d_X10_init_178 rfl (by decide) (by decide) rfl ?_
  refine e_gt d_X10_init_181 ?_
  show E _ _ _ 159 h31 [some (.ref 0), some (.int 1)] []
  refine e_iloadn d_X10_init_159 rfl ?_
  refine e_bipush (v := 6) d_X10_init_160 (by decide) ?_
  refine e_icmp_ge d_X10_init_162 (fun z => absurd z (by decide)) (fun _ => ?_)
  refine e_aloadn d_X10_init_165 rfl ?_
  refine e_get d_X10_init_166 f_X10_39 H31 rfl ?_
  refine e_iloadn d_X10_init_169 rfl ?_
  refine n_O (ci := 8) (fs := [.null, .null, .null, .int 0, .int 0, .int 0]) (N := 6) (b := 46) (κ' := (19, 1629)) d_X10_init_170 rfl ⟨lw_in 227 (by decide +kernel) rfl, lw_in 382 (by decide +kernel) rfl, lw_in 91 (by decide +kernel) rfl⟩ (fsdef rfl (by decide +kernel)) (fun g => rfl) z31 rfl rfl (fun g32 B32 y32 e32 => ?_)
  refine e_dup d_X10_init_173 rfl ?_
  refine e_ctorN d_X10_init_174 l_X10_init_98 (s_X8_init (s := 47) B32 y32) (Nat.le_of_ble_eq_true rfl) (by decide) (fun h32 q32 => ?_)
  obtain ⟨z32, e32', A32_0, A32_1, A32_2, A32_3⟩ := q32
  have f32 : Fr [] h31 h32 := Fr.new e32 (Nat.le_of_eq z31) e32'
  have H32 := f32.hs H31 List.not_mem_nil
  have U1 := f32.hs T1 List.not_mem_nil
  refine q_t (k := 1) d_X10_init_177 U1 A32_0 (by decide) (by decide) (by decide) (fun h33 T2 y33 f33 => ?_)
  have z33 := y33.trans z32
  have H33 := f33.hs H32 (by decide)
  refine e_iincw (w := 1) d_X10_init_178 rfl (by decide) (by decide) rfl ?_
  refine e_gt d_X10_init_181 ?_
  show E _ _ _ 159 h33 [some (.ref 0), some (.int 2)] []
  refine e_iloadn d_X10_init_159 rfl ?_
  refine e_bipush (v := 6) d_X10_init_160 (by decide) ?_
  refine e_icmp_ge d_X10_init_162 (fun z => absurd z (by decide)) (fun _ => ?_)
  refine e_aloadn d_X10_init_165 rfl ?_
  refine e_get d_X10_init_166 f_X10_39 H33 rfl ?_
  refine e_iloadn d_X10_init_169 rfl ?_
  refine n_O (ci := 8) (fs := [.null, .null, .null, .int 0, .int 0, .int 0]) (N := 6) (b := 50) (κ' := (15, 1302)) d_X10_init_170 rfl ⟨lw_in 227 (by decide +kernel) rfl, lw_in 382 (by decide +kernel) rfl, lw_in 91 (by decide +kernel) rfl⟩ (fsdef rfl (by decide +kernel)) (fun g => rfl) z33 rfl rfl (fun g34 B34 y34 e34 => ?_)
  refine e_dup d_X10_init_173 rfl ?_
  refine e_ctorN d_X10_init_174 l_X10_init_98 (s_X8_init (s := 51) B34 y34) (Nat.le_of_ble_eq_true rfl) (by decide) (fun h34 q34 => ?_)
  obtain ⟨z34, e34', A34_0, A34_1, A34_2, A34_3⟩ := q34
  have f34 : Fr [] h33 h34 := Fr.new e34 (Nat.le_of_eq z33) e34'
  have H34 := f34.hs H33 List.not_mem_nil
  have U2 := f34.hs T2 List.not_mem_nil
  refine q_t (k := 2) d_X10_init_177 U2 A34_0 (by decide) (by decide) (by decide) (fun h35 T3 y35 f35 => ?_)
  have z35 := y35.trans z34
  have H35 := f35.hs H34 (by decide)
  refine e_iincw (w := 1) d_X10_init_178 rfl (by decide) (by decide) rfl ?_
  refine e_gt d_X10_init_181 ?_
  show E _ _ _ 159 h35 [some (.ref 0), some (.int 3)] []
  refine e_iloadn d_X10_init_159 rfl ?_
  refine e_bipush (v := 6) d_X10_init_160 (by decide) ?_
  refine e_icmp_ge d_X10_init_162 (fun z => absurd z (by decide)) (fun _ => ?_)
  refine e_aloadn d_X10_init_165 rfl ?_
  refine e_get d_X10_init_166 f_X10_39 H35 rfl ?_
  refine e_iloadn d_X10_init_169 rfl ?_
  refine n_O (ci := 8) (fs := [.null, .null, .null, .int 0, .int 0, .int 0]) (N := 6) (b := 54) (κ' := (11, 975)) d_X10_init_170 rfl ⟨lw_in 227 (by decide +kernel) rfl, lw_in 382 (by decide +kernel) rfl, lw_in 91 (by decide +kernel) rfl⟩ (fsdef rfl (by decide +kernel)) (fun g => rfl) z35 rfl rfl (fun g36 B36 y36 e36 => ?_)
  refine e_dup d_X10_init_173 rfl ?_
  refine e_ctorN d_X10_init_174 l_X10_init_98 (s_X8_init (s := 55) B36 y36) (Nat.le_of_ble_eq_true rfl) (by decide) (fun h36 q36 => ?_)
  obtain ⟨z36, e36', A36_0, A36_1, A36_2, A36_3⟩ := q36
  have f36 : Fr [] h35 h36 := Fr.new e36 (Nat.le_of_eq z35) e36'
  have H36 := f36.hs H35 List.not_mem_nil
  have U3 := f36.hs T3 List.not_mem_nil
  refine q_t (k := 3) d_X10_init_177 U3 A36_0 (by decide) (by decide) (by decide) (fun h37 T4 y37 f37 => ?_)
  have z37 := y37.trans z36
  have H37 := f37.hs H36 (by decide)
  refine e_iincw (w := 1) d_X10_init_178 rfl (by decide) (by decide) rfl ?_
  refine e_gt d_X10_init_181 ?_
  show E _ _ _ 159 h37 [some (.ref 0), some (.int 4)] []
  refine e_iloadn d_X10_init_159 rfl ?_
  refine e_bipush (v := 6) d_X10_init_160 (by decide) ?_
  refine e_icmp_ge d_X10_init_162 (fun z => absurd z (by decide)) (fun _ => ?_)
  refine e_aloadn d_X10_init_165 rfl ?_
  refine e_get d_X10_init_166 f_X10_39 H37 rfl ?_
  refine e_iloadn d_X10_init_169 rfl ?_
  refine n_O (ci := 8) (fs := [.null, .null, .null, .int 0, .int 0, .int 0]) (N := 6) (b := 58) (κ' := (7, 648)) d_X10_init_170 rfl ⟨lw_in 227 (by decide +kernel) rfl, lw_in 382 (by decide +kernel) rfl, lw_in 91 (by decide +kernel) rfl⟩ (fsdef rfl (by decide +kernel)) (fun g => rfl) z37 rfl rfl (fun g38 B38 y38 e38 => ?_)
  refine e_dup d_X10_init_173 rfl ?_
  refine e_ctorN d_X10_init_174 l_X10_init_98 (s_X8_init (s := 59) B38 y38) (Nat.le_of_ble_eq_true rfl) (by decide) (fun h38 q38 => ?_)
  obtain ⟨z38, e38', A38_0, A38_1, A38_2, A38_3⟩ := q38
  have f38 : Fr [] h37 h38 := Fr.new e38 (Nat.le_of_eq z37) e38'
  have H38 := f38.hs H37 List.not_mem_nil
  have U4 := f38.hs T4 List.not_mem_nil
  refine q_t (k := 4) d_X10_init_177 U4 A38_0 (by decide) (by decide) (by decide) (fun h39 T5 y39 f39 => ?_)
  have z39 := y39.trans z38
  have H39 := f39.hs H38 (by decide)
  refine e_iincw (w := 1) d_X10_init_178 rfl (by decide) (by decide) rfl ?_
  refine e_gt d_X10_init_181 ?_
  show E _ _ _ 159 h39 [some (.ref 0), some (.int 5)] []
  refine e_iloadn d_X10_init_159 rfl ?_
  refine e_bipush (v := 6) d_X10_init_160 (by decide) ?_
  refine e_icmp_ge d_X10_init_162 (fun z => absurd z (by decide)) (fun _ => ?_)
  refine e_aloadn d_X10_init_165 rfl ?_
  refine e_get d_X10_init_166 f_X10_39 H39 rfl ?_
  refine e_iloadn d_X10_init_169 rfl ?_
  refine n_O (ci := 8) (fs := [.null, .null, .null, .int 0, .int 0, .int 0]) (N := 6) (b := 62) (κ' := (3, 321)) d_X10_init_170 rfl ⟨lw_in 227 (by decide +kernel) rfl, lw_in 382 (by decide +kernel) rfl, lw_in 91 (by decide +kernel) rfl⟩ (fsdef rfl (by decide +kernel)) (fun g => rfl) z39 rfl rfl (fun g40 B40 y40 e40 => ?_)
  refine e_dup d_X10_init_173 rfl ?_
  refine e_ctorN d_X10_init_174 l_X10_init_98 (s_X8_init (s := 63) B40 y40) (Nat.le_of_ble_eq_true rfl) (by decide) (fun h40 q40 => ?_)
  obtain ⟨z40, e40', A40_0, A40_1, A40_2, A40_3⟩ := q40
  have f40 : Fr [] h39 h40 := Fr.new e40 (Nat.le_of_eq z39) e40'
  have H40 := f40.hs H39 List.not_mem_nil
  have U5 := f40.hs T5 List.not_mem_nil
  refine q_t (k := 5) d_X10_init_177 U5 A40_0 (by decide) (by decide) (by decide) (fun h41 T6 y41 f41 => ?_)
  have z41 := y41.trans z40
  have H41 := f41.hs H40 (by decide)
  refine e_iincw (w := 1) d_X10_init_178 rfl (by decide) (by decide) rfl ?_
  refine e_gt d_X10_init_181 ?_
  show E _ _ _ 159 h41 [some (.ref 0), some (.int 6)] []
  refine e_iloadn d_X10_init_159 rfl ?_
  refine e_bipush (v := 6) d_X10_init_160 (by decide) ?_
  refine e_icmp_ge d_X10_init_162 (fun _ => ?_) (fun z => absurd (by decide) z)
  have g41 := Fr.refl [0, 20] h41
  have g40 : Fr [0, 20] h40 h41 := (f41.mono (by simp)).trans g41
  have g39 : Fr [0, 20] h39 h41 := (Fr.any (S := [0, 20]) f40).trans g40
  have g38 : Fr [0, 20] h38 h41 := (f39.mono (by simp)).trans g39
  have g37 : Fr [0, 20] h37 h41 := (Fr.any (S := [0, 20]) f38).trans g38
  have g36 : Fr [0, 20] h36 h41 := (f37.mono (by simp)).trans g37
  have g35 : Fr [0, 20] h35 h41 := (Fr.any (S := [0, 20]) f36).trans g36
  have g34 : Fr [0, 20] h34 h41 := (f35.mono (by simp)).trans g35
  have g33 : Fr [0, 20] h33 h41 := (Fr.any (S := [0, 20]) f34).trans g34
  have g32 : Fr [0, 20] h32 h41 := (f33.mono (by simp)).trans g33
  have g31 : Fr [0, 20] h31 h41 := (Fr.any (S := [0, 20]) f32).trans g32
  have g30 : Fr [0, 20] h30 h41 := (f31.mono (by simp)).trans g31
  have g29 : Fr [0, 20] h29 h41 := (Fr.any (S := [0, 20]) f30).trans g30
  have g28 : Fr [0, 20] h28 h41 := (f29.mono (by simp)).trans g29
  have g27 : Fr [0, 20] h27 h41 := (Fr.any (S := [0, 20]) f28).trans g28
  have g26 : Fr [0, 20] h26 h41 := (f27.mono (by simp)).trans g27
  have g25 : Fr [0, 20] h25 h41 := (Fr.any (S := [0, 20]) f26).trans g26
  have g24 : Fr [0, 20] h24 h41 := (f25.mono (by simp)).trans g25
  have g23 : Fr [0, 20] h23 h41 := (Fr.any (S := [0, 20]) f24).trans g24
  have g22 : Fr [0, 20] h22 h41 := (f23.mono (by simp)).trans g23
  have g21 : Fr [0, 20] h21 h41 := (Fr.any (S := [0, 20]) f22).trans g22
  have g20 : Fr [0, 20] h20 h41 := (f21.mono (by simp)).trans g21
  have g19 : Fr [0, 20] h19 h41 := (Fr.any (S := [0, 20]) f20).trans g20
  have g18 : Fr [0, 20] h18 h41 := (f19.mono (by simp)).trans g19
  have g17 : Fr [0, 20] h17 h41 := (Fr.any (S := [0, 20]) f18).trans g18
  have g16 : Fr [0, 20] h16 h41 := (f17.mono (by simp)).trans g17
  have g15 : Fr [0, 20] h15 h41 := (f16.mono (by simp)).trans g16
  have g14 : Fr [0, 20] h14 h41 := (f15.mono (by simp)).trans g15
  have g13 : Fr [0, 20] h13 h41 := (f14.mono (by simp)).trans g14
  have g12 : Fr [0, 20] h12 h41 := (Fr.any (S := [0, 20]) f13).trans g13
  have g11 : Fr [0, 20] h11 h41 := (f12.mono (by simp)).trans g12
  have g10 : Fr [0, 20] h10 h41 := (Fr.any (S := [0, 20]) f11).trans g11
  have g9 : Fr [0, 20] h9 h41 := (f10.mono (by simp)).trans g10
  have g8 : Fr [0, 20] h8 h41 := (Fr.any (S := [0, 20]) f9).trans g9
  have g7 : Fr [0, 20] h7 h41 := (f8.mono (by simp)).trans g8
  have g6 : Fr [0, 20] h6 h41 := (Fr.any (S := [0, 20]) f7).trans g7
  have g5 : Fr [0, 20] h5 h41 := (f6.mono (by simp)).trans g6
  have g4 : Fr [0, 20] h4 h41 := (Fr.any (S := [0, 20]) f5).trans g5
  have g3 : Fr [0, 20] h3 h41 := (f4.mono (by simp)).trans g4
  have g2 : Fr [0, 20] h2 h41 := (Fr.any (S := [0, 20]) f3).trans g3
  have g1 : Fr [0, 20] h1 h41 := (f2.mono (by simp)).trans g2
  have g0 : Fr [0, 20] h h41 := (Fr.any (S := [0, 20]) f1).trans g1
  exact e_vret d_X10_init_184 rfl ⟨rfl, g0.1, z41, H41, g1.hs A1_0 (by decide), g1.hs A1_1 (by decide), g1.hs A1_2 (by decide), g1.hs A1_3 (by decide), g1.hs A1_4 (by decide), g3.hs A3_0 (by decide), g3.hs A3_1 (by decide), g3.hs A3_2 (by decide), g3.hs A3_3 (by decide), g3.hs A3_4 (by decide), g3.hs A3_5 (by decide), g5.hs A5_0 (by decide), g5.hs A5_1 (by decide), g5.hs A5_2 (by decide), g5.hs A5_3 (by decide), g5.hs A5_4 (by decide), g7.hs A7_0 (by decide), g7.hs A7_1 (by decide), g7.hs A7_2 (by decide), g11.hs A11 (by decide), g13.hs A13_0 (by decide), g13.hs A13_1 (by decide), g18.hs A18_0 (by decide), g18.hs A18_1 (by decide), g18.hs A18_2 (by decide), g20.hs A20_0 (by decide), g20.hs A20_1 (by decide), g20.hs A20_2 (by decide), g20.hs A20_3 (by decide), g22.hs A22_0 (by decide), g22.hs A22_1 (by decide), g22.hs A22_2 (by decide), g22.hs A22_3 (by decide), g24.hs A24_0 (by decide), g24.hs A24_1 (by decide), g24.hs A24_2 (by decide), g24.hs A24_3 (by decide), g26.hs A26 (by decide), g28.hs A28_0 (by decide), g28.hs A28_1 (by decide), g30.hs A30_0 (by decide), g30.hs A30_1 (by decide), g30.hs A30_2 (by decide), g30.hs A30_3 (by decide), g32.hs A32_0 (by decide), g32.hs A32_1 (by decide), g32.hs A32_2 (by decide), g32.hs A32_3 (by decide), g34.hs A34_0 (by decide), g34.hs A34_1 (by decide), g34.hs A34_2 (by decide), g34.hs A34_3 (by decide), g36.hs A36_0 (by decide), g36.hs A36_1 (by decide), g36.hs A36_2 (by decide), g36.hs A36_3 (by decide), g38.hs A38_0 (by decide), g38.hs A38_1 (by decide), g38.hs A38_2 (by decide), g38.hs A38_3 (by decide), g40.hs A40_0 (by decide), g40.hs A40_1 (by decide), g40.hs A40_2 (by decide), g40.hs A40_3 (by decide), _, T6, by decide +kernel⟩
theorem s_X11_init {h : AH} (H : Hs h 66 (.inr (11, [.null, .null, .null, .int 0, .int 0, .int 0, .null, .null, .null, .null, .null, .null, .long 0, .long 0, .int 0, .int 0, .int 0, .int 0, .int 0, .int 0, .int 0, .int 0, .int 0, .null, .null, .int 0, .null, .null, .int 0, .int 0, .int 0, .null, .null, .null, .int 0, .null, .null, .null, .null, .int 0, .null, .null, .null, .null, .null, .null, .long 0, .long 0]))) (hz : h.2.1 = 67) : Sp M_X11_init (26, 23776) h [.ref 66] (rV (fun h' => h'.2.1 = 93 ∧ Fr [66] h h' ∧ Hs h' 66 (.inr (11, [.ref 67, .ref 68, .ref 69, .int 0, .int (-1), .int (-1), .ref 70, .ref 71, .ref 72, .ref 73, .ref 74, .ref 75, .long 0, .long 0, .int 0, .int 0, .int 0, .int 0, .int 0, .int 0, .int 0, .int 0, .int 0, .ref 76, .ref 77, .int 0, .ref 78, .ref 79, .int 0, .int 0, .int 0, .ref 80, .ref 81, .ref 82, .int 0, .ref 83, .ref 84, .ref 85, .ref 86, .int 0, .ref 87, .ref 88, .ref 89, .ref 90, .ref 91, .ref 92, .long 0, .long 0])) ∧ Hs h' 67 (aI 380 (va_up (fun _ => 0) 5 1000)) ∧ Hs h' 68 (aI 380 (cpN (va_up (fun _ => 0) 5 1000) (fun _ => 0) 380)) ∧ Hs h' 69 (aB 300 (fun _ => 0)) ∧ Hs h' 70 (aI 6 (fun _ => 0)) ∧ Hs h' 71 (aI 60 (fun _ => 0)) ∧ Hs h' 72 (aI 60 (fun _ => 0)) ∧ Hs h' 73 (aI 60 (fun _ => 0)) ∧ Hs h' 74 (aI 2400 (fun _ => 0)) ∧ Hs h' 75 (aI 2400 (fun _ => 0)) ∧ Hs h' 76 (aI 40 (fun _ => 0)) ∧ Hs h' 77 (aI 41 (fun _ => 0)) ∧ Hs h' 78 (aI 80 (fun _ => 0)) ∧ Hs h' 79 (aI 80 (fun _ => 0)) ∧ Hs h' 80 (aI 10 (fun _ => 0)) ∧ Hs h' 81 (aI 10 (fun _ => 0)) ∧ Hs h' 82 (aI 10 (fun _ => 0)) ∧ Hs h' 83 (aI 400 (fun _ => 0)) ∧ Hs h' 84 (aI 400 (fun _ => 0)) ∧ Hs h' 85 (aI 11 (fun _ => 0)) ∧ Hs h' 86 (aJ 200 (fun _ => 0)) ∧ Hs h' 87 (aI 16384 (fun _ => 0)) ∧ Hs h' 88 (aI 14 (fun _ => 0)) ∧ Hs h' 89 (aI 14 (fun _ => 0)) ∧ Hs h' 90 (aI 12 (fun _ => 0)) ∧ Hs h' 91 (aI 12 (fun _ => 0)) ∧ Hs h' 92 (aI 12 (fun _ => 0)))) := by
  refine ⟨Nat.le_of_ble_eq_true rfl, ?_⟩
  show E _ _ _ 0 h [some (.ref 66)] []
  refine e_aloadn d_X11_init_0 rfl ?_
  refine e_objInit d_X11_init_1 ⟨lw_in 990 (by decide +kernel) rfl, lw_in 106 (by decide +kernel) rfl, lw_in 107 (by decide +kernel) rfl⟩ (Nat.le_of_ble_eq_true rfl) (Nat.le_of_ble_eq_true rfl) ?_
  refine e_aloadn d_X11_init_4 rfl ?_
  refine e_sipush (v := 380) d_X11_init_5 (by decide) ?_
  refine n_I (N := 380) (b := 67) (κ' := (25, 23396)) d_X11_init_8 hz (by decide) (by decide) rfl rfl (fun h1 A1 z1 f1 => ?_)
  have H1 := f1.hs H List.not_mem_nil
  refine q_aF (fs' := [.ref 67, .null, .null, .int 0, .int 0, .int 0, .null, .null, .null, .null, .null, .null, .long 0, .long 0, .int 0, .int 0, .int 0, .int 0, .int 0, .int 0, .int 0, .int 0, .int 0, .null, .null, .int 0, .null, .null, .int 0, .int 0, .int 0, .null, .null, .null, .int 0, .null, .null, .null, .null, .int 0, .null, .null, .null, .null, .null, .null, .long 0, .long 0]) d_X11_init_10 f_X11_7 rfl rfl H1 (Nat.le_of_ble_eq_true rfl) rfl (fun h2 H2 y2 f2 => ?_)
  have z2 := y2.trans z1
  refine e_aloadn d_X11_init_13 rfl ?_
  refine e_sipush (v := 380) d_X11_init_14 (by decide) ?_
  refine n_I (N := 380) (b := 68) (κ' := (24, 23016)) d_X11_init_17 z2 (by decide) (by decide) rfl rfl (fun h3 A3 z3 f3 => ?_)
  have H3 := f3.hs H2 List.not_mem_nil
  refine q_aF (fs' := [.ref 67, .ref 68, .null, .int 0, .int 0, .int 0, .null, .null, .null, .null, .null, .null, .long 0, .long 0, .int 0, .int 0, .int 0, .int 0, .int 0, .int 0, .int 0, .int 0, .int 0, .null, .null, .int 0, .null, .null, .int 0, .int 0, .int 0, .null, .null, .null, .int 0, .null, .null, .null, .null, .int 0, .null, .null, .null, .null, .null, .null, .long 0, .long 0]) d_X11_init_19 f_X11_13 rfl rfl H3 (Nat.le_of_ble_eq_true rfl) rfl (fun h4 H4 y4 f4 => ?_)
  have z4 := y4.trans z3
  refine e_aloadn d_X11_init_22 rfl ?_
  refine e_sipush (v := 300) d_X11_init_23 (by decide) ?_
  refine n_B (N := 300) (b := 69) (κ' := (23, 22716)) d_X11_init_26 z4 (by decide) (by decide) rfl rfl (fun h5 A5 z5 f5 => ?_)
  have H5 := f5.hs H4 List.not_mem_nil
  refine q_aF (fs' := [.ref 67, .ref 68, .ref 69, .int 0, .int 0, .int 0, .null, .null, .null, .null, .null, .null, .long 0, .long 0, .int 0, .int 0, .int 0, .int 0, .int 0, .int 0, .int 0, .int 0, .int 0, .null, .null, .int 0, .null, .null, .int 0, .int 0, .int 0, .null, .null, .null, .int 0, .null, .null, .null, .null, .int 0, .null, .null, .null, .null, .null, .null, .long 0, .long 0]) d_X11_init_28 f_X11_16 rfl rfl H5 (Nat.le_of_ble_eq_true rfl) rfl (fun h6 H6 y6 f6 => ?_)
  have z6 := y6.trans z5
  refine e_aloadn d_X11_init_31 rfl ?_
  refine e_iconst (v := -1) d_X11_init_32 (by decide) ?_
  refine q_i (fs' := [.ref 67, .ref 68, .ref 69, .int 0, .int (-1), .int 0, .null, .null, .null, .null, .null, .null, .long 0, .long 0, .int 0, .int 0, .int 0, .int 0, .int 0, .int 0, .int 0, .int 0, .int 0, .null, .null, .int 0, .null, .null, .int 0, .int 0, .int 0, .null, .null, .null, .int 0, .null, .null, .null, .null, .int 0, .null, .null, .null, .null, .null, .null, .long 0, .long 0]) d_X11_init_33 f_X11_20 H6 (Nat.le_of_ble_eq_true rfl) rfl (fun h7 H7 y7 f7 => ?_)
  have z7 := y7.trans z6
  refine e_aloadn d_X11_init_36 rfl ?_
  refine e_iconst (v := -1) d_X11_init_37 (by decide) ?_
  refine q_i (fs' := [.ref 67, .ref 68, .ref 69, .int 0, .int (-1), .int (-1), .null, .null, .null, .null, .null, .null, .long 0, .long 0, .int 0, .int 0, .int 0, .int 0, .int 0, .int 0, .int 0, .int 0, .int 0, .null, .null, .int 0, .null, .null, .int 0, .int 0, .int 0, .null, .null, .null, .int 0, .null, .null, .null, .null, .int 0, .null, .null, .null, .null, .null, .null, .long 0, .long 0]) d_X11_init_38 f_X11_24 H7 (Nat.le_of_ble_eq_true rfl) rfl (fun h8 H8 y8 f8 => ?_)
  have z8 := y8.trans z7
  refine e_aloadn d_X11_init_41 rfl ?_
  refine e_bipush (v := 6) d_X11_init_42 (by decide) ?_
  refine n_I (N := 6) (b := 70) (κ' := (22, 22710)) d_X11_init_44 z8 (by decide) (by decide) rfl rfl (fun h9 A9 z9 f9 => ?_)
  have H9 := f9.hs H8 List.not_mem_nil
  refine q_aF (fs' := [.ref 67, .ref 68, .ref 69, .int 0, .int (-1), .int (-1), .ref 70, .null, .null, .null, .null, .null, .long 0, .long 0, .int 0, .int 0, .int 0, .int 0, .int 0, .int 0, .int 0, .int 0, .int 0, .null, .null, .int 0, .null, .null, .int 0, .int 0, .int 0, .null, .null, .null, .int 0, .null, .null, .null, .null, .int 0, .null, .null, .null, .null, .null, .null, .long 0, .long 0]) d_X11_init_46 f_X11_27 rfl rfl H9 (Nat.le_of_ble_eq_true rfl) rfl (fun h10 H10 y10 f10 => ?_)
  have z10 := y10.trans z9
  refine e_aloadn d_X11_init_49 rfl ?_
  refine e_bipush (v := 60) d_X11_init_50 (by decide) ?_
  refine n_I (N := 60) (b := 71) (κ' := (21, 22650)) d_X11_init_52 z10 (by decide) (by decide) rfl rfl (fun h11 A11 z11 f11 => ?_)
  have H11 := f11.hs H10 List.not_mem_nil
  refine q_aF (fs' := [.ref 67, .ref 68, .ref 69, .int 0, .int (-1), .int (-1), .ref 70, .ref 71, .null, .null, .null, .null, .long 0, .long 0, .int 0, .int 0, .int 0, .int 0, .int 0, .int 0, .int 0, .int 0, .int 0, .null, .null, .int 0, .null, .null, .int 0, .int 0, .int 0, .null, .null, .null, .int 0, .null, .null, .null, .null, .int 0, .null, .null, .null, .null, .null, .null, .long 0, .long 0]) d_X11_init_54 f_X11_30 rfl rfl H11 (Nat.le_of_ble_eq_true rfl) rfl (fun h12 H12 y12 f12 => ?_)
  have z12 := y12.trans z11
  refine e_aloadn d_X11_init_57 rfl ?_
  refine e_bipush (v := 60) d_X11_init_58 (by decide) ?_
  refine n_I (N := 60) (b := 72) (κ' := (20, 22590)) d_X11_init_60 z12 (by decide) (by decide) rfl rfl (fun h13 A13 z13 f13 => ?_)
  have H13 := f13.hs H12 List.not_mem_nil
  refine q_aF (fs' := [.ref 67, .ref 68, .ref 69, .int 0, .int (-1), .int (-1), .ref 70, .ref 71, .ref 72, .null, .null, .null, .long 0, .long 0, .int 0, .int 0, .int 0, .int 0, .int 0, .int 0, .int 0, .int 0, .int 0, .null, .null, .int 0, .null, .null, .int 0, .int 0, .int 0, .null, .null, .null, .int 0, .null, .null, .null, .null, .int 0, .null, .null, .null, .null, .null, .null, .long 0, .long 0]) d_X11_init_62 f_X11_33 rfl rfl H13 (Nat.le_of_ble_eq_true rfl) rfl (fun h14 H14 y14 f14 => ?_)
  have z14 := y14.trans z13
  refine e_aloadn d_X11_init_65 rfl ?_
  refine e_bipush (v := 60) d_X11_init_66 (by decide) ?_
  refine n_I (N := 60) (b := 73) (κ' := (19, 22530)) d_X11_init_68 z14 (by decide) (by decide) rfl rfl (fun h15 A15 z15 f15 => ?_)
  have H15 := f15.hs H14 List.not_mem_nil
  refine q_aF (fs' := [.ref 67, .ref 68, .ref 69, .int 0, .int (-1), .int (-1), .ref 70, .ref 71, .ref 72, .ref 73, .null, .null, .long 0, .long 0, .int 0, .int 0, .int 0, .int 0, .int 0, .int 0, .int 0, .int 0, .int 0, .null, .null, .int 0, .null, .null, .int 0, .int 0, .int 0, .null, .null, .null, .int 0, .null, .null, .null, .null, .int 0, .null, .null, .null, .null, .null, .null, .long 0, .long 0]) d_X11_init_70 f_X11_36 rfl rfl H15 (Nat.le_of_ble_eq_true rfl) rfl (fun h16 H16 y16 f16 => ?_)
  have z16 := y16.trans z15
  refine e_aloadn d_X11_init_73 rfl ?_
  refine e_sipush (v := 2400) d_X11_init_74 (by decide) ?_
  refine n_I (N := 2400) (b := 74) (κ' := (18, 20130)) d_X11_init_77 z16 (by decide) (by decide) rfl rfl (fun h17 A17 z17 f17 => ?_)
  have H17 := f17.hs H16 List.not_mem_nil
  refine q_aF (fs' := [.ref 67, .ref 68, .ref 69, .int 0, .int (-1), .int (-1), .ref 70, .ref 71, .ref 72, .ref 73, .ref 74, .null, .long 0, .long 0, .int 0, .int 0, .int 0, .int 0, .int 0, .int 0, .int 0, .int 0, .int 0, .null, .null, .int 0, .null, .null, .int 0, .int 0, .int 0, .null, .null, .null, .int 0, .null, .null, .null, .null, .int 0, .null, .null, .null, .null, .null, .null, .long 0, .long 0]) d_X11_init_79 f_X11_39 rfl rfl H17 (Nat.le_of_ble_eq_true rfl) rfl (fun h18 H18 y18 f18 => ?_)
  have z18 := y18.trans z17
  refine e_aloadn d_X11_init_82 rfl ?_
  refine e_sipush (v := 2400) d_X11_init_83 (by decide) ?_
  refine n_I (N := 2400) (b := 75) (κ' := (17, 17730)) d_X11_init_86 z18 (by decide) (by decide) rfl rfl (fun h19 A19 z19 f19 => ?_)
  have H19 := f19.hs H18 List.not_mem_nil
  refine q_aF (fs' := [.ref 67, .ref 68, .ref 69, .int 0, .int (-1), .int (-1), .ref 70, .ref 71, .ref 72, .ref 73, .ref 74, .ref 75, .long 0, .long 0, .int 0, .int 0, .int 0, .int 0, .int 0, .int 0, .int 0, .int 0, .int 0, .null, .null, .int 0, .null, .null, .int 0, .int 0, .int 0, .null, .null, .null, .int 0, .null, .null, .null, .null, .int 0, .null, .null, .null, .null, .null, .null, .long 0, .long 0]) d_X11_init_88 f_X11_42 rfl rfl H19 (Nat.le_of_ble_eq_true rfl) rfl (fun h20 H20 y20 f20 => ?_)
  have z20 := y20.trans z19
  refine e_aloadn d_X11_init_91 rfl ?_
  refine e_bipush (v := 40) d_X11_init_92 (by decide) ?_
  refine n_I (N := 40) (b := 76) (κ' := (16, 17690)) d_X11_init_94 z20 (by decide) (by decide) rfl rfl (fun h21 A21 z21 f21 => ?_)
  have H21 := f21.hs H20 List.not_mem_nil
  refine q_aF (fs' := [.ref 67, .ref 68, .ref 69, .int 0, .int (-1), .int (-1), .ref 70, .ref 71, .ref 72, .ref 73, .ref 74, .ref 75, .long 0, .long 0, .int 0, .int 0, .int 0, .int 0, .int 0, .int 0, .int 0, .int 0, .int 0, .ref 76, .null, .int 0, .null, .null, .int 0, .int 0, .int 0, .null, .null, .null, .int 0, .null, .null, .null, .null, .int 0, .null, .null, .null, .null, .null, .null, .long 0, .long 0]) d_X11_init_96 f_X11_45 rfl rfl H21 (Nat.le_of_ble_eq_true rfl) rfl (fun h22 H22 y22 f22 => ?_)
  have z22 := y22.trans z21
  refine e_aloadn d_X11_init_99 rfl ?_
  refine e_bipush (v := 41) d_X11_init_100 (by decide) ?_
  refine n_I (N := 41) (b := 77) (κ' := (15, 17649)) d_X11_init_102 z22 (by decide) (by decide) rfl rfl (fun h23 A23 z23 f23 => ?_)
  have H23 := f23.hs H22 List.not_mem_nil
  refine q_aF (fs' := [.ref 67, .ref 68, .ref 69, .int 0, .int (-1), .int (-1), .ref 70, .ref 71, .ref 72, .ref 73, .ref 74, .ref 75, .long 0, .long 0, .int 0, .int 0, .int 0, .int 0, .int 0, .int 0, .int 0, .int 0, .int 0, .ref 76, .ref 77, .int 0, .null, .null, .int 0, .int 0, .int 0, .null, .null, .null, .int 0, .null, .null, .null, .null, .int 0, .null, .null, .null, .null, .null, .null, .long 0, .long 0]) d_X11_init_104 f_X11_48 rfl rfl H23 (Nat.le_of_ble_eq_true rfl) rfl (fun h24 H24 y24 f24 => ?_)
  have z24 := y24.trans z23
  refine e_aloadn d_X11_init_107 rfl ?_
  refine e_bipush (v := 80) d_X11_init_108 (by decide) ?_
  refine n_I (N := 80) (b := 78) (κ' := (14, 17569)) d_X11_init_110 z24 (by decide) (by decide) rfl rfl (fun h25 A25 z25 f25 => ?_)
  have H25 := f25.hs H24 List.not_mem_nil
  refine q_aF (fs' := [.ref 67, .ref 68, .ref 69, .int 0, .int (-1), .int (-1), .ref 70, .ref 71, .ref 72, .ref 73, .ref 74, .ref 75, .long 0, .long 0, .int 0, .int 0, .int 0, .int 0, .int 0, .int 0, .int 0, .int 0, .int 0, .ref 76, .ref 77, .int 0, .ref 78, .null, .int 0, .int 0, .int 0, .null, .null, .null, .int 0, .null, .null, .null, .null, .int 0, .null, .null, .null, .null, .null, .null, .long 0, .long 0]) d_X11_init_112 f_X11_51 rfl rfl H25 (Nat.le_of_ble_eq_true rfl) rfl (fun h26 H26 y26 f26 => ?_)
  have z26 := y26.trans z25
  refine e_aloadn d_X11_init_115 rfl ?_
  refine e_bipush (v := 80) d_X11_init_116 (by decide) ?_
  refine n_I (N := 80) (b := 79) (κ' := (13, 17489)) d_X11_init_118 z26 (by decide) (by decide) rfl rfl (fun h27 A27 z27 f27 => ?_)
  have H27 := f27.hs H26 List.not_mem_nil
  refine q_aF (fs' := [.ref 67, .ref 68, .ref 69, .int 0, .int (-1), .int (-1), .ref 70, .ref 71, .ref 72, .ref 73, .ref 74, .ref 75, .long 0, .long 0, .int 0, .int 0, .int 0, .int 0, .int 0, .int 0, .int 0, .int 0, .int 0, .ref 76, .ref 77, .int 0, .ref 78, .ref 79, .int 0, .int 0, .int 0, .null, .null, .null, .int 0, .null, .null, .null, .null, .int 0, .null, .null, .null, .null, .null, .null, .long 0, .long 0]) d_X11_init_120 f_X11_54 rfl rfl H27 (Nat.le_of_ble_eq_true rfl) rfl (fun h28 H28 y28 f28 => ?_)
  have z28 := y28.trans z27
  refine e_aloadn d_X11_init_123 rfl ?_
  refine e_bipush (v := 10) d_X11_init_124 (by decide) ?_
  refine n_I (N := 10) (b := 80) (κ' := (12, 17479)) d_X11_init_126 z28 (by decide) (by decide) rfl rfl (fun h29 A29 z29 f29 => ?_)
  have H29 := f29.hs H28 List.not_mem_nil
  refine q_aF (fs' := [.ref 67, .ref 68, .ref 69, .int 0, .int (-1), .int (-1), .ref 70, .ref 71, .ref 72, .ref 73, .ref 74, .ref 75, .long 0, .long 0, .int 0, .int 0, .int 0, .int 0, .int 0, .int 0, .int 0, .int 0, .int 0, .ref 76, .ref 77, .int 0, .ref 78, .ref 79, .int 0, .int 0, .int 0, .ref 80, .null, .null, .int 0, .null, .null, .null, .null, .int 0, .null, .null, .null, .null, .null, .null, .long 0, .long 0]) d_X11_init_128 f_X11_57 rfl rfl H29 (Nat.le_of_ble_eq_true rfl) rfl (fun h30 H30 y30 f30 => ?_)
  have z30 := y30.trans z29
  refine e_aloadn d_X11_init_131 rfl ?_
  refine e_bipush (v := 10) d_X11_init_132 (by decide) ?_
  refine n_I (N := 10) (b := 81) (κ' := (11, 17469)) d_X11_init_134 z30 (by decide) (by decide) rfl rfl (fun h31 A31 z31 f31 => ?_)
  have H31 := f31.hs H30 List.not_mem_nil
  refine q_aF (fs' := [.ref 67, .ref 68, .ref 69, .int 0, .int (-1), .int (-1), .ref 70, .ref 71, .ref 72, .ref 73, .ref 74, .ref 75, .long 0, .long 0, .int 0, .int 0, .int 0, .int 0, .int 0, .int 0, .int 0, .int 0, .int 0, .ref 76, .ref 77, .int 0, .ref 78, .ref 79, .int 0, .int 0, .int 0, .ref 80, .ref 81, .null, .int 0, .null, .null, .null, .null, .int 0, .null, .null, .null, .null, .null, .null, .long 0, .long 0]) d_X11_init_136 f_X11_60 rfl rfl H31 (Nat.le_of_ble_eq_true rfl) rfl (fun h32 H32 y32 f32 => ?_)
  have z32 := y32.trans z31
  refine e_aloadn d_X11_init_139 rfl ?_
  refine e_bipush (v := 10) d_X11_init_140 (by decide) ?_
  refine n_I (N := 10) (b := 82) (κ' := (10, 17459)) d_X11_init_142 z32 (by decide) (by decide) rfl rfl (fun h33 A33 z33 f33 => ?_)
  have H33 := f33.hs H32 List.not_mem_nil
  refine q_aF (fs' := [.ref 67, .ref 68, .ref 69, .int 0, .int (-1), .int (-1), .ref 70, .ref 71, .ref 72, .ref 73, .ref 74, .ref 75, .long 0, .long 0, .int 0, .int 0, .int 0, .int 0, .int 0, .int 0, .int 0, .int 0, .int 0, .ref 76, .ref 77, .int 0, .ref 78, .ref 79, .int 0, .int 0, .int 0, .ref 80, .ref 81, .ref 82, .int 0, .null, .null, .null, .null, .int 0, .null, .null, .null, .null, .null, .null, .long 0, .long 0]) d_X11_init_144 f_X11_63 rfl rfl H33 (Nat.le_of_ble_eq_true rfl) rfl (fun h34 H34 y34 f34 => ?_)
  have z34 := y34.trans z33
  refine e_aloadn d_X11_init_147 rfl ?_
  refine e_sipush (v := 400) d_X11_init_148 (by decide) ?_
  refine n_I (N := 400) (b := 83) (κ' := (9, 17059)) d_X11_init_151 z34 (by decide) (by decide) rfl rfl (fun h35 A35 z35 f35 => ?_)
  have H35 := f35.hs H34 List.not_mem_nil
  refine q_aF (fs' := [.ref 67, .ref 68, .ref 69, .int 0, .int (-1), .int (-1), .ref 70, .ref 71, .ref 72, .ref 73, .ref 74, .ref 75, .long 0, .long 0, .int 0, .int 0, .int 0, .int 0, .int 0, .int 0, .int 0, .int 0, .int 0, .ref 76, .ref 77, .int 0, .ref 78, .ref 79, .int 0, .int 0, .int 0, .ref 80, .ref 81, .ref 82, .int 0, .ref 83, .null, .null, .null, .int 0, .null, .null, .null, .null, .null, .null, .long 0, .long 0]) d_X11_init_153 f_X11_66 rfl rfl H35 (Nat.le_of_ble_eq_true rfl) rfl (fun h36 H36 y36 f36 => ?_)
  have z36 := y36.trans z35
  refine e_aloadn d_X11_init_156 rfl ?_
  refine e_sipush (v := 400) d_X11_init_157 (by decide) ?_
  refine n_I (N := 400) (b := 84) (κ' := (8, 16659)) d_X11_init_160 z36 (by decide) (by decide) rfl rfl (fun h37 A37 z37 f37 => ?_)
  have H37 := f37.hs H36 List.not_mem_nil
  refine q_aF (fs' := [.ref 67, .ref 68, .ref 69, .int 0, .int (-1), .int (-1), .ref 70, .ref 71, .ref 72, .ref 73, .ref 74, .ref 75, .long 0, .long 0, .int 0, .int 0, .int 0, .int 0, .int 0, .int 0, .int 0, .int 0, .int 0, .ref 76, .ref 77, .int 0, .ref 78, .ref 79, .int 0, .int 0, .int 0, .ref 80, .ref 81, .ref 82, .int 0, .ref 83, .ref 84, .null, .null, .int 0, .null, .null, .null, .null, .null, .null, .long 0, .long 0]) d_X11_init_162 f_X11_69 rfl rfl H37 (Nat.le_of_ble_eq_true rfl) rfl (fun h38 H38 y38 f38 => ?_)
  have z38 := y38.trans z37
  refine e_aloadn d_X11_init_165 rfl ?_
  refine e_bipush (v := 11) d_X11_init_166 (by decide) ?_
  refine n_I (N := 11) (b := 85) (κ' := (7, 16648)) d_X11_init_168 z38 (by decide) (by decide) rfl rfl (fun h39 A39 z39 f39 => ?_)
  have H39 := f39.hs H38 List.not_mem_nil
  refine q_aF (fs' := [.ref 67, .ref 68, .ref 69, .int 0, .int (-1), .int (-1), .ref 70, .ref 71, .ref 72, .ref 73, .ref 74, .ref 75, .long 0, .long 0, .int 0, .int 0, .int 0, .int 0, .int 0, .int 0, .int 0, .int 0, .int 0, .ref 76, .ref 77, .int 0, .ref 78, .ref 79, .int 0, .int 0, .int 0, .ref 80, .ref 81, .ref 82, .int 0, .ref 83, .ref 84, .ref 85, .null, .int 0, .null, .null, .null, .null, .null, .null, .long 0, .long 0]) d_X11_init_170 f_X11_72 rfl rfl H39 (Nat.le_of_ble_eq_true rfl) rfl (fun h40 H40 y40 f40 => ?_)
  have z40 := y40.trans z39
  refine e_aloadn d_X11_init_173 rfl ?_
  refine e_sipush (v := 200) d_X11_init_174 (by decide) ?_
  refine n_J (N := 200) (b := 86) (κ' := (6, 16448)) d_X11_init_177 z40 (by decide) (by decide) rfl rfl (fun h41 A41 z41 f41 => ?_)
  have H41 := f41.hs H40 List.not_mem_nil
  refine q_aF (fs' := [.ref 67, .ref 68, .ref 69, .int 0, .int (-1), .int (-1), .ref 70, .ref 71, .ref 72, .ref 73, .ref 74, .ref 75, .long 0, .long 0, .int 0, .int 0, .int 0, .int 0, .int 0, .int 0, .int 0, .int 0, .int 0, .ref 76, .ref 77, .int 0, .ref 78, .ref 79, .int 0, .int 0, .int 0, .ref 80, .ref 81, .ref 82, .int 0, .ref 83, .ref 84, .ref 85, .ref 86, .int 0, .null, .null, .null, .null, .null, .null, .long 0, .long 0]) d_X11_init_179 f_X11_75 rfl rfl H41 (Nat.le_of_ble_eq_true rfl) rfl (fun h42 H42 y42 f42 => ?_)
  have z42 := y42.trans z41
  refine e_aloadn d_X11_init_182 rfl ?_
  refine e_sipush (v := 16384) d_X11_init_183 (by decide) ?_
  refine n_I (N := 16384) (b := 87) (κ' := (5, 64)) d_X11_init_186 z42 (by decide) (by decide) rfl rfl (fun h43 A43 z43 f43 => ?_)
  have H43 := f43.hs H42 List.not_mem_nil
  refine q_aF (fs' := [.ref 67, .ref 68, .ref 69, .int 0, .int (-1), .int (-1), .ref 70, .ref 71, .ref 72, .ref 73, .ref 74, .ref 75, .long 0, .long 0, .int 0, .int 0, .int 0, .int 0, .int 0, .int 0, .int 0, .int 0, .int 0, .ref 76, .ref 77, .int 0, .ref 78, .ref 79, .int 0, .int 0, .int 0, .ref 80, .ref 81, .ref 82, .int 0, .ref 83, .ref 84, .ref 85, .ref 86, .int 0, .ref 87, .null, .null, .null, .null, .null, .long 0, .long 0]) d_X11_init_188 f_X11_79 rfl rfl H43 (Nat.le_of_ble_eq_true rfl) rfl (fun h44 H44 y44 f44 => ?_)
  have z44 := y44.trans z43
  refine e_aloadn d_X11_init_191 rfl ?_
  refine e_bipush (v := 14) d_X11_init_192 (by decide) ?_
  refine n_I (N := 14) (b := 88) (κ' := (4, 50)) d_X11_init_194 z44 (by decide) (by decide) rfl rfl (fun h45 A45 z45 f45 => ?_)
  have H45 := f45.hs H44 List.not_mem_nil
  refine q_aF (fs' := [.ref 67, .ref 68, .ref 69, .int 0, .int (-1), .int (-1), .ref 70, .ref 71, .ref 72, .ref 73, .ref 74, .ref 75, .long 0, .long 0, .int 0, .int 0, .int 0, .int 0, .int 0, .int 0, .int 0, .int 0, .int 0, .ref 76, .ref 77, .int 0, .ref 78, .ref 79, .int 0, .int 0, .int 0, .ref 80, .ref 81, .ref 82, .int 0, .ref 83, .ref 84, .ref 85, .ref 86, .int 0, .ref 87, .ref 88, .null, .null, .null, .null, .long 0, .long 0]) d_X11_init_196 f_X11_82 rfl rfl H45 (Nat.le_of_ble_eq_true rfl) rfl (fun h46 H46 y46 f46 => ?_)
  have z46 := y46.trans z45
  refine e_aloadn d_X11_init_199 rfl ?_
  refine e_bipush (v := 14) d_X11_init_200 (by decide) ?_
  refine n_I (N := 14) (b := 89) (κ' := (3, 36)) d_X11_init_202 z46 (by decide) (by decide) rfl rfl (fun h47 A47 z47 f47 => ?_)
  have H47 := f47.hs H46 List.not_mem_nil
  refine q_aF (fs' := [.ref 67, .ref 68, .ref 69, .int 0, .int (-1), .int (-1), .ref 70, .ref 71, .ref 72, .ref 73, .ref 74, .ref 75, .long 0, .long 0, .int 0, .int 0, .int 0, .int 0, .int 0, .int 0, .int 0, .int 0, .int 0, .ref 76, .ref 77, .int 0, .ref 78, .ref 79, .int 0, .int 0, .int 0, .ref 80, .ref 81, .ref 82, .int 0, .ref 83, .ref 84, .ref 85, .ref 86, .int 0, .ref 87, .ref 88, .ref 89, .null, .null, .null, .long 0, .long 0]) d_X11_init_204 f_X11_85 rfl rfl H47 (Nat.le_of_ble_eq_true rfl) rfl (fun h48 H48 y48 f48 => ?_)
  have z48 := y48.trans z47
  refine e_aloadn d_X11_init_207 rfl ?_
  refine e_bipush (v := 12) d_X11_init_208 (by decide) ?_
  refine n_I (N := 12) (b := 90) (κ' := (2, 24)) d_X11_init_210 z48 (by decide) (by decide) rfl rfl (fun h49 A49 z49 f49 => ?_)
  have H49 := f49.hs H48 List.not_mem_nil
  refine q_aF (fs' := [.ref 67, .ref 68, .ref 69, .int 0, .int (-1), .int (-1), .ref 70, .ref 71, .ref 72, .ref 73, .ref 74, .ref 75, .long 0, .long 0, .int 0, .int 0, .int 0, .int 0, .int 0, .int 0, .int 0, .int 0, .int 0, .ref 76, .ref 77, .int 0, .ref 78, .ref 79, .int 0, .int 0, .int 0, .ref 80, .ref 81, .ref 82, .int 0, .ref 83, .ref 84, .ref 85, .ref 86, .int 0, .ref 87, .ref 88, .ref 89, .ref 90, .null, .null, .long 0, .long 0]) d_X11_init_212 f_X11_88 rfl rfl H49 (Nat.le_of_ble_eq_true rfl) rfl (fun h50 H50 y50 f50 => ?_)
  have z50 := y50.trans z49
  refine e_aloadn d_X11_init_215 rfl ?_
  refine e_bipush (v := 12) d_X11_init_216 (by decide) ?_
  refine n_I (N := 12) (b := 91) (κ' := (1, 12)) d_X11_init_218 z50 (by decide) (by decide) rfl rfl (fun h51 A51 z51 f51 => ?_)
  have H51 := f51.hs H50 List.not_mem_nil
  refine q_aF (fs' := [.ref 67, .ref 68, .ref 69, .int 0, .int (-1), .int (-1), .ref 70, .ref 71, .ref 72, .ref 73, .ref 74, .ref 75, .long 0, .long 0, .int 0, .int 0, .int 0, .int 0, .int 0, .int 0, .int 0, .int 0, .int 0, .ref 76, .ref 77, .int 0, .ref 78, .ref 79, .int 0, .int 0, .int 0, .ref 80, .ref 81, .ref 82, .int 0, .ref 83, .ref 84, .ref 85, .ref 86, .int 0, .ref 87, .ref 88, .ref 89, .ref 90, .ref 91, .null, .long 0, .long 0]) d_X11_init_220 f_X11_91 rfl rfl H51 (Nat.le_of_ble_eq_true rfl) rfl (fun h52 H52 y52 f52 => ?_)
  have z52 := y52.trans z51
  refine e_aloadn d_X11_init_223 rfl ?_
  refine e_bipush (v := 12) d_X11_init_224 (by decide) ?_
  refine n_I (N := 12) (b := 92) (κ' := (0, 0)) d_X11_init_226 z52 (by decide) (by decide) rfl rfl (fun h53 A53 z53 f53 => ?_)
  have H53 := f53.hs H52 List.not_mem_nil
  refine q_aF (fs' := [.ref 67, .ref 68, .ref 69, .int 0, .int (-1), .int (-1), .ref 70, .ref 71, .ref 72, .ref 73, .ref 74, .ref 75, .long 0, .long 0, .int 0, .int 0, .int 0, .int 0, .int 0, .int 0, .int 0, .int 0, .int 0, .ref 76, .ref 77, .int 0, .ref 78, .ref 79, .int 0, .int 0, .int 0, .ref 80, .ref 81, .ref 82, .int 0, .ref 83, .ref 84, .ref 85, .ref 86, .int 0, .ref 87, .ref 88, .ref 89, .ref 90, .ref 91, .ref 92, .long 0, .long 0]) d_X11_init_228 f_X11_94 rfl rfl H53 (Nat.le_of_ble_eq_true rfl) rfl (fun h54 H54 y54 f54 => ?_)
  have z54 := y54.trans z53
  refine e_aloadn d_X11_init_231 rfl ?_
  refine e_get d_X11_init_232 f_X11_7 H54 rfl ?_
  refine e_iconst (v := 5) d_X11_init_235 (by decide) ?_
  refine e_sipush (v := 1000) d_X11_init_236 (by decide) ?_
  have g54 := Fr.refl [66] h54
  have g53 := (f54).trans g54
  have g52 := (Fr.any (S := [66]) f53).trans g53
  have g51 := (f52).trans g52
  have g50 := (Fr.any (S := [66]) f51).trans g51
  have g49 := (f50).trans g50
  have g48 := (Fr.any (S := [66]) f49).trans g49
  have g47 := (f48).trans g48
  have g46 := (Fr.any (S := [66]) f47).trans g47
  have g45 := (f46).trans g46
  have g44 := (Fr.any (S := [66]) f45).trans g45
  have g43 := (f44).trans g44
  have g42 := (Fr.any (S := [66]) f43).trans g43
  have g41 := (f42).trans g42
  have g40 := (Fr.any (S := [66]) f41).trans g41
  have g39 := (f40).trans g40
  have g38 := (Fr.any (S := [66]) f39).trans g39
  have g37 := (f38).trans g38
  have g36 := (Fr.any (S := [66]) f37).trans g37
  have g35 := (f36).trans g36
  have g34 := (Fr.any (S := [66]) f35).trans g35
  have g33 := (f34).trans g34
  have g32 := (Fr.any (S := [66]) f33).trans g33
  have g31 := (f32).trans g32
  have g30 := (Fr.any (S := [66]) f31).trans g31
  have g29 := (f30).trans g30
  have g28 := (Fr.any (S := [66]) f29).trans g29
  have g27 := (f28).trans g28
  have g26 := (Fr.any (S := [66]) f27).trans g27
  have g25 := (f26).trans g26
  have g24 := (Fr.any (S := [66]) f25).trans g25
  have g23 := (f24).trans g24
  have g22 := (Fr.any (S := [66]) f23).trans g23
  have g21 := (f22).trans g22
  have g20 := (Fr.any (S := [66]) f21).trans g21
  have g19 := (f20).trans g20
  have g18 := (Fr.any (S := [66]) f19).trans g19
  have g17 := (f18).trans g18
  have g16 := (Fr.any (S := [66]) f17).trans g17
  have g15 := (f16).trans g16
  have g14 := (Fr.any (S := [66]) f15).trans g15
  have g13 := (f14).trans g14
  have g12 := (Fr.any (S := [66]) f13).trans g13
  have g11 := (f12).trans g12
  have g10 := (Fr.any (S := [66]) f11).trans g11
  have g9 := (f10).trans g10
  have g8 := (Fr.any (S := [66]) f9).trans g9
  have g7 := (f8).trans g8
  have g6 := (f7).trans g7
  have g5 := (f6).trans g6
  have g4 := (Fr.any (S := [66]) f5).trans g5
  have g3 := (f4).trans g4
  have g2 := (Fr.any (S := [66]) f3).trans g3
  have g1 := (f2).trans g2
  have g0 := (Fr.any (S := [66]) f1).trans g1
  have HA := g1.hs A1 (by decide)
  have HI := g3.hs A3 (by decide)
  refine e_iastN (k := 5) d_X11_init_239 HA (by decide) (by decide) (by decide) ?_
  refine e_aloadn d_X11_init_240 rfl ?_
  refine e_iconst (v := 1) d_X11_init_241 (by decide) ?_
  have HM := H54.n (c' := aI 380 (va_up (fun _ => 0) 5 1000)) (a := 67) (by decide)
  refine e_callVV d_X11_init_242 l_X11_init_97 HM rfl rfl (s_X11_copies_out HM HA.s (HI.n (by decide))) rfl rfl (Nat.le_of_ble_eq_true rfl) ?_
  have gF1 : Fr [67] h54 (up h54 67 (aI 380 (va_up (fun _ => 0) 5 1000))) := (Fr.refl [67] h54).up (List.mem_singleton.mpr rfl)
  have gF2 : Fr [68] (up h54 67 (aI 380 (va_up (fun _ => 0) 5 1000))) (up (up h54 67 (aI 380 (va_up (fun _ => 0) 5 1000))) 68 (aI 380 (cpN (va_up (fun _ => 0) 5 1000) (fun _ => 0) 380))) := (Fr.refl [68] _).up (List.mem_singleton.mpr rfl)
  have gF := Fr.new (Fr.new g0 (by omega) gF1) (by omega) gF2
  exact e_vret d_X11_init_245 rfl ⟨rfl, z54, gF, HM.n (by decide), HA.s.n (by decide), (HI.n (by decide)).s, ((g5.hs A5 (by decide)).n (by decide)).n (by decide), ((g9.hs A9 (by decide)).n (by decide)).n (by decide), ((g11.hs A11 (by decide)).n (by decide)).n (by decide), ((g13.hs A13 (by decide)).n (by decide)).n (by decide), ((g15.hs A15 (by decide)).n (by decide)).n (by decide), ((g17.hs A17 (by decide)).n (by decide)).n (by decide), ((g19.hs A19 (by decide)).n (by decide)).n (by decide), ((g21.hs A21 (by decide)).n (by decide)).n (by decide), ((g23.hs A23 (by decide)).n (by decide)).n (by decide), ((g25.hs A25 (by decide)).n (by decide)).n (by decide), ((g27.hs A27 (by decide)).n (by decide)).n (by decide), ((g29.hs A29 (by decide)).n (by decide)).n (by decide), ((g31.hs A31 (by decide)).n (by decide)).n (by decide), ((g33.hs A33 (by decide)).n (by decide)).n (by decide), ((g35.hs A35 (by decide)).n (by decide)).n (by decide), ((g37.hs A37 (by decide)).n (by decide)).n (by decide), ((g39.hs A39 (by decide)).n (by decide)).n (by decide), ((g41.hs A41 (by decide)).n (by decide)).n (by decide), ((g43.hs A43 (by decide)).n (by decide)).n (by decide), ((g45.hs A45 (by decide)).n (by decide)).n (by decide), ((g47.hs A47 (by decide)).n (by decide)).n (by decide), ((g49.hs A49 (by decide)).n (by decide)).n (by decide), ((g51.hs A51 (by decide)).n (by decide)).n (by decide), ((g53.hs A53 (by decide)).n (by decide)).n (by decide)⟩
