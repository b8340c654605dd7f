/-! THE MODEL: few, changed -/
theorem s_X11_standsWithout_0 {h : AH} {N T S0  : Nat} {t : Int32} {a dl : Nat → Int32} {L : List Nat} {ans less : Nat → Int32} {mtp mfl mfa mln mat mtk mso mto mwr mwp mop mfs mws mst mnc mnk mnr : Int32} {mup mlo mgu mgl : Int64} (H_md : Hs h 66 (oMd mtp mfl mfa mup mlo mln mat mtk mso mto mwr mwp mop mfs mws mst mnc mnk mnr (nI L.length) mgu mgl)) (H_a : Hs h 67 (aI 380 a)) (ha0 : a 0 = nI N) (hN : N ≤ 14) (hbits : bitsOf (fun c => a (80 + c)) N = nI S0) (H_mdl : Hs h 87 (aI 16384 dl)) (hT : T < 12) (hS1 : S0 < 16384) (hVm9 : ∀ c, c < N → a (150 + 14 * T + c) = -1 ∨ ∃ v, v ≤ 99 ∧ a (150 + 14 * T + c) = nI v) (hV : ∀ t, t < 12 → ∀ c, c < 14 → ans (t * 14 + c) = -1 ∨ ∃ v, v ≤ 99 ∧ ans (t * 14 + c) = nI v) (R9 : mAn a ans less N T (2 ^ N - 1) 2) (hRw : RwL dl L) (hL8 : L.length ≤ 16384) (hL9 : ∀ x, x ∈ L → x < 16384) : Sp M_X11_standsWithout (0, 0) h [.ref 66, .int (nI T), .int t, .int (-1), .int (-1)] (rI (fun x h' => x = bI (stC (farC ans less (2 ^ N - 1) (dlF L) T S0 L.length) t L.length = true) ∧ (∃ up9 lo9 : Int64, Hs h' 66 (oMd mtp mfl mfa up9 lo9 mln mat mtk mso mto mwr mwp mop mfs mws mst mnc mnk mnr (nI L.length) mgu mgl)) ∧ Hs h' 67 (aI 380 a) ∧ Fr [66, 67] h h')) := by
  refine ⟨Nat.le_of_ble_eq_true rfl, ?_⟩
  show E _ _ _ 0 h [some (.ref 66), some (.int (nI T)), some (.int t), some (.int (-1)), some (.int (-1)), none, none, none] []
  refine e_iloadn d_X11_standsWithout_0 rfl ?_
  refine e_iconst (v := -1) d_X11_standsWithout_1 (by decide) ?_
  refine e_icmp_ne d_X11_standsWithout_2 (fun z => by first | exact absurd (fun z => z rfl) z | exact absurd z (fun z => z rfl)) (fun _ => ?_)
  refine e_iconst (v := -1) d_X11_standsWithout_5 (by decide) ?_
  refine e_gt d_X11_standsWithout_6 ?_
  refine e_istore d_X11_standsWithout_15 (by decide) rfl ?_
  refine e_iload d_X11_standsWithout_17 rfl ?_
  refine e_iconst (v := -1) d_X11_standsWithout_19 (by decide) ?_
  refine e_icmp_ne d_X11_standsWithout_20 (fun z => by first | exact absurd (fun z => z rfl) z | exact absurd z (fun z => z rfl)) (fun _ => ?_)
  refine e_iconst (v := -1) d_X11_standsWithout_23 (by decide) ?_
  refine e_gt d_X11_standsWithout_24 ?_
  refine e_istore d_X11_standsWithout_34 (by decide) rfl ?_
  refine e_iloadn d_X11_standsWithout_36 rfl ?_
  refine e_iconst (v := -1) d_X11_standsWithout_37 (by decide) ?_
  refine e_icmp_eq d_X11_standsWithout_38 (fun _ => ?_) (fun z => by first | exact absurd (rfl) z | exact absurd z (rfl))
  refine e_iload d_X11_standsWithout_57 rfl ?_
  refine e_iconst (v := -1) d_X11_standsWithout_59 (by decide) ?_
  refine e_icmp_eq d_X11_standsWithout_60 (fun _ => ?_) (fun z => by first | exact absurd (rfl) z | exact absurd z (rfl))
  refine e_aloadn d_X11_standsWithout_80 rfl ?_
  refine e_aloadn d_X11_standsWithout_81 rfl ?_
  refine e_iloadn d_X11_standsWithout_82 rfl ?_
  refine e_aloadn d_X11_standsWithout_83 rfl ?_
  refine e_callVI d_X11_standsWithout_84 l_X11_standsWithout_131 H_md rfl rfl (s_X11_hadBits H_md H_a ha0 hN) rfl rfl (Nat.le_of_ble_eq_true rfl) ?_
  rw [hbits]
  refine e_callRVI d_X11_standsWithout_87 l_X11_standsWithout_362 H_md rfl rfl (s_X11_asFar (T := T) (S0 := S0) (A := (2 ^ N - 1)) H_md H_a ha0 hN H_mdl (by omega) hS1 hVm9 hV R9 hRw hL8 hL9) rfl rfl (Nat.le_of_ble_eq_true rfl) (fun x_87 h_87 q_87 s_87 => ?_)
  obtain ⟨rfl, ⟨up_87, lo_87, H_md⟩, fr_87⟩ := q_87
  have H_a := fr_87.hs H_a (by first | decide | (simp; omega))
  have H_mdl := fr_87.hs H_mdl (by first | decide | (simp; omega))
  refine e_iloadn d_X11_standsWithout_90 rfl ?_
  refine e_callVI d_X11_standsWithout_91 l_X11_standsWithout_365 H_md rfl rfl (s_X11_stands H_md) rfl rfl (Nat.le_of_ble_eq_true rfl) ?_
  refine e_istore d_X11_standsWithout_94 (by decide) rfl ?_
  refine e_iloadn d_X11_standsWithout_96 rfl ?_
  refine e_iconst (v := -1) d_X11_standsWithout_97 (by decide) ?_
  refine e_icmp_eq d_X11_standsWithout_98 (fun _ => ?_) (fun z => by first | exact absurd (rfl) z | exact absurd z (rfl))
  refine e_iload d_X11_standsWithout_118 rfl ?_
  refine e_iconst (v := -1) d_X11_standsWithout_120 (by decide) ?_
  refine e_icmp_eq d_X11_standsWithout_121 (fun _ => ?_) (fun z => by first | exact absurd (rfl) z | exact absurd z (rfl))
  refine e_iload d_X11_standsWithout_142 rfl ?_
  exact e_iret d_X11_standsWithout_144 rfl (nar_bI) (⟨_, rfl, rfl, ⟨_, _, H_md⟩, H_a, (Fr.refl [66, 67] h).trans (fr_87.mono (by decide))⟩)

theorem s_X11_standsWithout_1 {h : AH} {N T S0 k : Nat} {t : Int32} {a dl : Nat → Int32} {L : List Nat} {ans less : Nat → Int32} {mtp mfl mfa mln mat mtk mso mto mwr mwp mop mfs mws mst mnc mnk mnr : Int32} {mup mlo mgu mgl : Int64} (H_md : Hs h 66 (oMd mtp mfl mfa mup mlo mln mat mtk mso mto mwr mwp mop mfs mws mst mnc mnk mnr (nI L.length) mgu mgl)) (H_a : Hs h 67 (aI 380 a)) (ha0 : a 0 = nI N) (hN : N ≤ 14) (hbits : bitsOf (fun c => a (80 + c)) N = nI S0) (H_mdl : Hs h 87 (aI 16384 dl)) (hT : T < 12) (hS1 : S0 < 16384) (hVm9 : ∀ c, c < N → a (150 + 14 * T + c) = -1 ∨ ∃ v, v ≤ 99 ∧ a (150 + 14 * T + c) = nI v) (hV : ∀ t, t < 12 → ∀ c, c < 14 → ans (t * 14 + c) = -1 ∨ ∃ v, v ≤ 99 ∧ ans (t * 14 + c) = nI v) (R9 : mAn a ans less N T (2 ^ N - 1) 2) (hRw : RwL dl L) (hL8 : L.length ≤ 16384) (hL9 : ∀ x, x ∈ L → x < 16384) (hk : k < N) : Sp M_X11_standsWithout (0, 0) h [.ref 66, .int (nI T), .int t, .int (nI k), .int (-1)] (rI (fun x h' => x = bI (stC (farC ans less (sd (2 ^ N - 1) (2 ^ k)) (dlF L) T S0 L.length) t L.length = true) ∧ (∃ up9 lo9 : Int64, Hs h' 66 (oMd mtp mfl mfa up9 lo9 mln mat mtk mso mto mwr mwp mop mfs mws mst mnc mnk mnr (nI L.length) mgu mgl)) ∧ Hs h' 67 (aI 380 a) ∧ Fr [66, 67] h h')) := by
  refine ⟨Nat.le_of_ble_eq_true rfl, ?_⟩
  show E _ _ _ 0 h [some (.ref 66), some (.int (nI T)), some (.int t), some (.int (nI k)), some (.int (-1)), none, none, none] []
  refine e_iloadn d_X11_standsWithout_0 rfl ?_
  refine e_iconst (v := -1) d_X11_standsWithout_1 (by decide) ?_
  refine e_icmp_ne d_X11_standsWithout_2 (fun _ => ?_) (fun z => by first | exact absurd (nI_neg1 (by omega)) z | exact absurd z (nI_neg1 (by omega)))
  refine e_aloadn d_X11_standsWithout_9 rfl ?_
  refine e_iloadn d_X11_standsWithout_10 rfl ?_
  refine e_iloadn d_X11_standsWithout_11 rfl ?_
  refine e_callVI d_X11_standsWithout_12 l_X11_standsWithout_112 H_md rfl rfl (s_X11_answerOf (c := T) (d := k) H_md H_a rfl rfl (by omega)) rfl rfl (Nat.le_of_ble_eq_true rfl) ?_
  refine e_istore d_X11_standsWithout_15 (by decide) rfl ?_
  refine e_iload d_X11_standsWithout_17 rfl ?_
  refine e_iconst (v := -1) d_X11_standsWithout_19 (by decide) ?_
  refine e_icmp_ne d_X11_standsWithout_20 (fun z => by first | exact absurd (fun z => z rfl) z | exact absurd z (fun z => z rfl)) (fun _ => ?_)
  refine e_iconst (v := -1) d_X11_standsWithout_23 (by decide) ?_
  refine e_gt d_X11_standsWithout_24 ?_
  refine e_istore d_X11_standsWithout_34 (by decide) rfl ?_
  refine e_iloadn d_X11_standsWithout_36 rfl ?_
  refine e_iconst (v := -1) d_X11_standsWithout_37 (by decide) ?_
  refine e_icmp_eq d_X11_standsWithout_38 (fun z => by first | exact absurd (nI_neg1 (by omega)) z | exact absurd z (nI_neg1 (by omega))) (fun _ => ?_)
  refine e_aloadn d_X11_standsWithout_41 rfl ?_
  refine e_get d_X11_standsWithout_42 f_X11_7 H_md rfl ?_
  refine e_sipush (v := 150) d_X11_standsWithout_45 (by decide) ?_
  refine e_bipush (v := 14) d_X11_standsWithout_48 (by decide) ?_
  refine e_iloadn d_X11_standsWithout_50 rfl ?_
  refine e_imul d_X11_standsWithout_51 ?_
  refine e_iadd d_X11_standsWithout_52 ?_
  refine e_iloadn d_X11_standsWithout_53 rfl ?_
  refine e_iadd d_X11_standsWithout_54 ?_
  refine e_iconst (v := -1) d_X11_standsWithout_55 (by decide) ?_
  refine e_iastN (k := 150 + 14 * T + k) d_X11_standsWithout_56 H_a (by simp only [fa_lit, nI_add, pk_mul]) (by omega) (by omega) ?_
  refine e_iload d_X11_standsWithout_57 rfl ?_
  refine e_iconst (v := -1) d_X11_standsWithout_59 (by decide) ?_
  refine e_icmp_eq d_X11_standsWithout_60 (fun _ => ?_) (fun z => by first | exact absurd (rfl) z | exact absurd z (rfl))
  refine e_aloadn d_X11_standsWithout_80 rfl ?_
  refine e_aloadn d_X11_standsWithout_81 rfl ?_
  refine e_iloadn d_X11_standsWithout_82 rfl ?_
  refine e_aloadn d_X11_standsWithout_83 rfl ?_
  refine e_callVI d_X11_standsWithout_84 l_X11_standsWithout_131 (H_md.n (by decide)) rfl rfl (s_X11_hadBits (H_md.n (by decide)) H_a.s (by rw [va_up_ne _ _ (by omega)]; exact ha0) hN) rfl rfl (Nat.le_of_ble_eq_true rfl) ?_
  rw [bits_up (by omega) hN, hbits]
  refine e_callRVI d_X11_standsWithout_87 l_X11_standsWithout_362 (H_md.n (by decide)) rfl rfl (s_X11_asFar (T := T) (S0 := S0) (A := (sd (2 ^ N - 1) (2 ^ k))) (H_md.n (by decide)) H_a.s (by rw [va_up_ne _ _ (by omega)]; exact ha0) hN (H_mdl.n (by decide)) (by omega) hS1 (hV_up hVm9) hV (mAn_without (by omega) hN R9) hRw hL8 hL9) rfl rfl (Nat.le_of_ble_eq_true rfl) (fun x_87 h_87 q_87 s_87 => ?_)
  obtain ⟨rfl, ⟨up_87, lo_87, H_md⟩, fr_87⟩ := q_87
  have H_a := fr_87.hs H_a.s (by first | decide | (simp; omega))
  have H_mdl := fr_87.hs (H_mdl.n (by decide)) (by first | decide | (simp; omega))
  refine e_iloadn d_X11_standsWithout_90 rfl ?_
  refine e_callVI d_X11_standsWithout_91 l_X11_standsWithout_365 H_md rfl rfl (s_X11_stands H_md) rfl rfl (Nat.le_of_ble_eq_true rfl) ?_
  refine e_istore d_X11_standsWithout_94 (by decide) rfl ?_
  refine e_iloadn d_X11_standsWithout_96 rfl ?_
  refine e_iconst (v := -1) d_X11_standsWithout_97 (by decide) ?_
  refine e_icmp_eq d_X11_standsWithout_98 (fun z => by first | exact absurd (nI_neg1 (by omega)) z | exact absurd z (nI_neg1 (by omega))) (fun _ => ?_)
  refine e_aloadn d_X11_standsWithout_101 rfl ?_
  refine e_get d_X11_standsWithout_102 f_X11_7 H_md rfl ?_
  refine e_sipush (v := 150) d_X11_standsWithout_105 (by decide) ?_
  refine e_bipush (v := 14) d_X11_standsWithout_108 (by decide) ?_
  refine e_iloadn d_X11_standsWithout_110 rfl ?_
  refine e_imul d_X11_standsWithout_111 ?_
  refine e_iadd d_X11_standsWithout_112 ?_
  refine e_iloadn d_X11_standsWithout_113 rfl ?_
  refine e_iadd d_X11_standsWithout_114 ?_
  refine e_iload d_X11_standsWithout_115 rfl ?_
  refine e_iastN (k := 150 + 14 * T + k) d_X11_standsWithout_117 H_a (by simp only [fa_lit, nI_add, pk_mul]) (by omega) (by omega) ?_
  refine e_iload d_X11_standsWithout_118 rfl ?_
  refine e_iconst (v := -1) d_X11_standsWithout_120 (by decide) ?_
  refine e_icmp_eq d_X11_standsWithout_121 (fun _ => ?_) (fun z => by first | exact absurd (rfl) z | exact absurd z (rfl))
  refine e_iload d_X11_standsWithout_142 rfl ?_
  exact e_iret d_X11_standsWithout_144 rfl (nar_bI) (⟨_, rfl, rfl, ⟨_, _, (H_md.n (by decide))⟩, (by rw [va_back]; exact H_a.s), (((((Fr.refl [66, 67] h).up (by decide))).trans (fr_87.mono (by decide))).up (by decide))⟩)

theorem s_X11_standsWithout_2 {h : AH} {N T S0 j k : Nat} {t : Int32} {a dl : Nat → Int32} {L : List Nat} {ans less : Nat → Int32} {mtp mfl mfa mln mat mtk mso mto mwr mwp mop mfs mws mst mnc mnk mnr : Int32} {mup mlo mgu mgl : Int64} (H_md : Hs h 66 (oMd mtp mfl mfa mup mlo mln mat mtk mso mto mwr mwp mop mfs mws mst mnc mnk mnr (nI L.length) mgu mgl)) (H_a : Hs h 67 (aI 380 a)) (ha0 : a 0 = nI N) (hN : N ≤ 14) (hbits : bitsOf (fun c => a (80 + c)) N = nI S0) (H_mdl : Hs h 87 (aI 16384 dl)) (hT : T < 12) (hS1 : S0 < 16384) (hVm9 : ∀ c, c < N → a (150 + 14 * T + c) = -1 ∨ ∃ v, v ≤ 99 ∧ a (150 + 14 * T + c) = nI v) (hV : ∀ t, t < 12 → ∀ c, c < 14 → ans (t * 14 + c) = -1 ∨ ∃ v, v ≤ 99 ∧ ans (t * 14 + c) = nI v) (R9 : mAn a ans less N T (2 ^ N - 1) 2) (hRw : RwL dl L) (hL8 : L.length ≤ 16384) (hL9 : ∀ x, x ∈ L → x < 16384) (hk : k < N) (hj : j < k) : Sp M_X11_standsWithout (0, 0) h [.ref 66, .int (nI T), .int t, .int (nI j), .int (nI k)] (rI (fun x h' => x = bI (stC (farC ans less (sd (2 ^ N - 1) (2 ^ j ||| 2 ^ k)) (dlF L) T S0 L.length) t L.length = true) ∧ (∃ up9 lo9 : Int64, Hs h' 66 (oMd mtp mfl mfa up9 lo9 mln mat mtk mso mto mwr mwp mop mfs mws mst mnc mnk mnr (nI L.length) mgu mgl)) ∧ Hs h' 67 (aI 380 a) ∧ Fr [66, 67] h h')) := by
  refine ⟨Nat.le_of_ble_eq_true rfl, ?_⟩
  show E _ _ _ 0 h [some (.ref 66), some (.int (nI T)), some (.int t), some (.int (nI j)), some (.int (nI k)), none, none, none] []
  refine e_iloadn d_X11_standsWithout_0 rfl ?_
  refine e_iconst (v := -1) d_X11_standsWithout_1 (by decide) ?_
  refine e_icmp_ne d_X11_standsWithout_2 (fun _ => ?_) (fun z => by first | exact absurd (nI_neg1 (by omega)) z | exact absurd z (nI_neg1 (by omega)))
  refine e_aloadn d_X11_standsWithout_9 rfl ?_
  refine e_iloadn d_X11_standsWithout_10 rfl ?_
  refine e_iloadn d_X11_standsWithout_11 rfl ?_
  refine e_callVI d_X11_standsWithout_12 l_X11_standsWithout_112 H_md rfl rfl (s_X11_answerOf (c := T) (d := j) H_md H_a rfl rfl (by omega)) rfl rfl (Nat.le_of_ble_eq_true rfl) ?_
  refine e_istore d_X11_standsWithout_15 (by decide) rfl ?_
  refine e_iload d_X11_standsWithout_17 rfl ?_
  refine e_iconst (v := -1) d_X11_standsWithout_19 (by decide) ?_
  refine e_icmp_ne d_X11_standsWithout_20 (fun _ => ?_) (fun z => by first | exact absurd (nI_neg1 (by omega)) z | exact absurd z (nI_neg1 (by omega)))
  refine e_aloadn d_X11_standsWithout_27 rfl ?_
  refine e_iloadn d_X11_standsWithout_28 rfl ?_
  refine e_iload d_X11_standsWithout_29 rfl ?_
  refine e_callVI d_X11_standsWithout_31 l_X11_standsWithout_112 H_md rfl rfl (s_X11_answerOf (c := T) (d := k) H_md H_a rfl rfl (by omega)) rfl rfl (Nat.le_of_ble_eq_true rfl) ?_
  refine e_istore d_X11_standsWithout_34 (by decide) rfl ?_
  refine e_iloadn d_X11_standsWithout_36 rfl ?_
  refine e_iconst (v := -1) d_X11_standsWithout_37 (by decide) ?_
  refine e_icmp_eq d_X11_standsWithout_38 (fun z => by first | exact absurd (nI_neg1 (by omega)) z | exact absurd z (nI_neg1 (by omega))) (fun _ => ?_)
  refine e_aloadn d_X11_standsWithout_41 rfl ?_
  refine e_get d_X11_standsWithout_42 f_X11_7 H_md rfl ?_
  refine e_sipush (v := 150) d_X11_standsWithout_45 (by decide) ?_
  refine e_bipush (v := 14) d_X11_standsWithout_48 (by decide) ?_
  refine e_iloadn d_X11_standsWithout_50 rfl ?_
  refine e_imul d_X11_standsWithout_51 ?_
  refine e_iadd d_X11_standsWithout_52 ?_
  refine e_iloadn d_X11_standsWithout_53 rfl ?_
  refine e_iadd d_X11_standsWithout_54 ?_
  refine e_iconst (v := -1) d_X11_standsWithout_55 (by decide) ?_
  refine e_iastN (k := 150 + 14 * T + j) d_X11_standsWithout_56 H_a (by simp only [fa_lit, nI_add, pk_mul]) (by omega) (by omega) ?_
  refine e_iload d_X11_standsWithout_57 rfl ?_
  refine e_iconst (v := -1) d_X11_standsWithout_59 (by decide) ?_
  refine e_icmp_eq d_X11_standsWithout_60 (fun z => by first | exact absurd (nI_neg1 (by omega)) z | exact absurd z (nI_neg1 (by omega))) (fun _ => ?_)
  refine e_aloadn d_X11_standsWithout_63 rfl ?_
  refine e_get d_X11_standsWithout_64 f_X11_7 (H_md.n (by decide)) rfl ?_
  refine e_sipush (v := 150) d_X11_standsWithout_67 (by decide) ?_
  refine e_bipush (v := 14) d_X11_standsWithout_70 (by decide) ?_
  refine e_iloadn d_X11_standsWithout_72 rfl ?_
  refine e_imul d_X11_standsWithout_73 ?_
  refine e_iadd d_X11_standsWithout_74 ?_
  refine e_iload d_X11_standsWithout_75 rfl ?_
  refine e_iadd d_X11_standsWithout_77 ?_
  refine e_iconst (v := -1) d_X11_standsWithout_78 (by decide) ?_
  refine e_iastN (k := 150 + 14 * T + k) d_X11_standsWithout_79 H_a.s (by simp only [fa_lit, nI_add, pk_mul]) (by omega) (by omega) ?_
  refine e_aloadn d_X11_standsWithout_80 rfl ?_
  refine e_aloadn d_X11_standsWithout_81 rfl ?_
  refine e_iloadn d_X11_standsWithout_82 rfl ?_
  refine e_aloadn d_X11_standsWithout_83 rfl ?_
  refine e_callVI d_X11_standsWithout_84 l_X11_standsWithout_131 ((H_md.n (by decide)).n (by decide)) rfl rfl (s_X11_hadBits ((H_md.n (by decide)).n (by decide)) H_a.s.s (by rw [va_up_ne _ _ (by omega), va_up_ne _ _ (by omega)]; exact ha0) hN) rfl rfl (Nat.le_of_ble_eq_true rfl) ?_
  rw [bits_up (by omega) hN, bits_up (by omega) hN, hbits]
  refine e_callRVI d_X11_standsWithout_87 l_X11_standsWithout_362 ((H_md.n (by decide)).n (by decide)) rfl rfl (s_X11_asFar (T := T) (S0 := S0) (A := (sd (2 ^ N - 1) (2 ^ j ||| 2 ^ k))) ((H_md.n (by decide)).n (by decide)) H_a.s.s (by rw [va_up_ne _ _ (by omega), va_up_ne _ _ (by omega)]; exact ha0) hN ((H_mdl.n (by decide)).n (by decide)) (by omega) hS1 (hV_up (hV_up hVm9)) hV (by rw [← sd_sd]; exact mAn_without (by omega) hN (mAn_without (by omega) hN R9)) hRw hL8 hL9) rfl rfl (Nat.le_of_ble_eq_true rfl) (fun x_87 h_87 q_87 s_87 => ?_)
  obtain ⟨rfl, ⟨up_87, lo_87, H_md⟩, fr_87⟩ := q_87
  have H_a := fr_87.hs H_a.s.s (by first | decide | (simp; omega))
  have H_mdl := fr_87.hs ((H_mdl.n (by decide)).n (by decide)) (by first | decide | (simp; omega))
  refine e_iloadn d_X11_standsWithout_90 rfl ?_
  refine e_callVI d_X11_standsWithout_91 l_X11_standsWithout_365 H_md rfl rfl (s_X11_stands H_md) rfl rfl (Nat.le_of_ble_eq_true rfl) ?_
  refine e_istore d_X11_standsWithout_94 (by decide) rfl ?_
  refine e_iloadn d_X11_standsWithout_96 rfl ?_
  refine e_iconst (v := -1) d_X11_standsWithout_97 (by decide) ?_
  refine e_icmp_eq d_X11_standsWithout_98 (fun z => by first | exact absurd (nI_neg1 (by omega)) z | exact absurd z (nI_neg1 (by omega))) (fun _ => ?_)
  refine e_aloadn d_X11_standsWithout_101 rfl ?_
  refine e_get d_X11_standsWithout_102 f_X11_7 H_md rfl ?_
  refine e_sipush (v := 150) d_X11_standsWithout_105 (by decide) ?_
  refine e_bipush (v := 14) d_X11_standsWithout_108 (by decide) ?_
  refine e_iloadn d_X11_standsWithout_110 rfl ?_
  refine e_imul d_X11_standsWithout_111 ?_
  refine e_iadd d_X11_standsWithout_112 ?_
  refine e_iloadn d_X11_standsWithout_113 rfl ?_
  refine e_iadd d_X11_standsWithout_114 ?_
  refine e_iload d_X11_standsWithout_115 rfl ?_
  refine e_iastN (k := 150 + 14 * T + j) d_X11_standsWithout_117 H_a (by simp only [fa_lit, nI_add, pk_mul]) (by omega) (by omega) ?_
  refine e_iload d_X11_standsWithout_118 rfl ?_
  refine e_iconst (v := -1) d_X11_standsWithout_120 (by decide) ?_
  refine e_icmp_eq d_X11_standsWithout_121 (fun z => by first | exact absurd (nI_neg1 (by omega)) z | exact absurd z (nI_neg1 (by omega))) (fun _ => ?_)
  refine e_aloadn d_X11_standsWithout_124 rfl ?_
  refine e_get d_X11_standsWithout_125 f_X11_7 (H_md.n (by decide)) rfl ?_
  refine e_sipush (v := 150) d_X11_standsWithout_128 (by decide) ?_
  refine e_bipush (v := 14) d_X11_standsWithout_131 (by decide) ?_
  refine e_iloadn d_X11_standsWithout_133 rfl ?_
  refine e_imul d_X11_standsWithout_134 ?_
  refine e_iadd d_X11_standsWithout_135 ?_
  refine e_iload d_X11_standsWithout_136 rfl ?_
  refine e_iadd d_X11_standsWithout_138 ?_
  refine e_iload d_X11_standsWithout_139 rfl ?_
  refine e_iastN (k := 150 + 14 * T + k) d_X11_standsWithout_141 H_a.s (by simp only [fa_lit, nI_add, pk_mul]) (by omega) (by omega) ?_
  refine e_iload d_X11_standsWithout_142 rfl ?_
  exact e_iret d_X11_standsWithout_144 rfl (nar_bI) (⟨_, rfl, rfl, ⟨_, _, ((H_md.n (by decide)).n (by decide))⟩, (by rw [va_back2 (by omega)]; exact H_a.s.s), (((((((((Fr.refl [66, 67] h).up (by decide))).up (by decide))).trans (fr_87.mono (by decide))).up (by decide))).up (by decide))⟩)

theorem s_X11_few {h : AH} {N n S0 : Nat} {ca : Nat → Nat → Nat} {a : Nat → Int32} {ans less : Nat → Int32} {mtp mfl mfa mln mat mtk mso mto mwr mwp mop mfs mws mst mnc mnk mnr mdn : Int32} {mup mlo mgu mgl : Int64} {tp nc tcn : Nat} {kd : Nat → Nat} {cd : Nat → List Nat} {many near : Int32} {dl0 : Nat → Int32} {T : Nat} {t w : Int32} (H_md : Hs h 66 (oMd mtp mfl mfa mup mlo mln mat mtk mso mto mwr mwp mop mfs mws mst mnc mnk mnr mdn mgu mgl)) (H_a : Hs h 67 (aI 380 a)) (ha0 : a 0 = nI N) (hN : N ≤ 14) (hca : ∀ c k, c < N → k < 4 → ca c k ≤ 99) (hca4 : ∀ c k, c < N → k < 4 → a (10 + 5 * c + k) = nI (ca c k)) (ha1 : a 1 = nI n) (hn : n ≤ 12) (hbits : bitsOf (fun c => a (80 + c)) N = nI S0) (hS0 : S0 < 2 ^ N) (hV : ∀ t, t < 12 → ∀ c, c < 14 → ans (t * 14 + c) = -1 ∨ ∃ v, v ≤ 99 ∧ ans (t * 14 + c) = nI v) (hVm : ∀ t, t < n → ∀ c, c < N → a (150 + 14 * t + c) = -1 ∨ ∃ v, v ≤ 99 ∧ a (150 + 14 * t + c) = nI v) (R : ∀ t, t < n → mAn a ans less N t (2 ^ N - 1) 2) (ha2 : a 2 = nI tcn) (htp : tp < tcn) (htc : tcn ≤ 6) (hT0 : TxM h tp nc kd cd many near) (hok : okT nc kd cd) (hR0 : MdR h) (H_mdl : Hs h 87 (aI 16384 dl0)) (hTn : T < n) (ht1 : 1 ≤ t ∧ t ≤ 1000) (hw2 : 0 ≤ w ∧ w ≤ 2) : Sp M_X11_few (0, 0) h [.ref 66, .int (nI tp), .int (nI T), .int t, .int w] (rI (fun x h' => x = fewA (farC ans less (2 ^ N - 1) (dlF (DLs ca N nc kd cd many near)) T S0 (DLs ca N nc kd cd many near).length) (fewS (fun A => stC (farC ans less A (dlF (DLs ca N nc kd cd many near)) T S0 (DLs ca N nc kd cd many near).length) t (DLs ca N nc kd cd many near).length) N) w ∧ MdO h' mtp mfl mfa ∧ (∃ dl : Nat → Int32, Hs h' 87 (aI 16384 dl)) ∧ MdR h' ∧ Hs h' 67 (aI 380 a) ∧ Fr (67 :: FSm) h h')) := by
  refine ⟨Nat.le_of_ble_eq_true rfl, ?_⟩
  show E _ _ _ 0 h [some (.ref 66), some (.int (nI tp)), some (.int (nI T)), some (.int t), some (.int w), none, none] []
  have hS1 : S0 < 16384 := Nat.lt_of_lt_of_le hS0 (pw_31 N hN)
  obtain ⟨⟨⟨nms0, H_mnm⟩, pi0, H_mpi⟩, ⟨wi0, H_mwi⟩, wo0, H_mwo⟩ := id hR0
  refine e_aloadn d_X11_few_0 rfl ?_
  refine e_iloadn d_X11_few_1 rfl ?_
  refine e_callVI d_X11_few_2 l_X11_few_356 H_md rfl rfl (s_X11_isText H_md H_a) rfl rfl (Nat.le_of_ble_eq_true rfl) ?_
  refine e_if_eq d_X11_few_5 (fun z => by first | exact absurd (fun z => bI_0.mp z ⟨(nI_leI (a := 0) (by decide) (by omega)).mpr (by omega), by rw [ha2, nI_le1 (by omega)]; exact (nI_leI (by omega) (by omega)).mpr (by omega)⟩) z | exact absurd z (fun z => bI_0.mp z ⟨(nI_leI (a := 0) (by decide) (by omega)).mpr (by omega), by rw [ha2, nI_le1 (by omega)]; exact (nI_leI (by omega) (by omega)).mpr (by omega)⟩)) (fun _ => ?_)
  refine e_aloadn d_X11_few_8 rfl ?_
  refine e_iloadn d_X11_few_9 rfl ?_
  refine e_callVI d_X11_few_10 l_X11_few_109 H_md rfl rfl (s_X11_isThing H_md H_a) rfl rfl (Nat.le_of_ble_eq_true rfl) ?_
  refine e_if_eq d_X11_few_13 (fun z => by first | exact absurd (fun z => bI_0.mp z ⟨(nI_leI (a := 0) (by decide) (by omega)).mpr (by omega), by rw [ha1, nI_le1 (by omega)]; exact (nI_leI (by omega) (by omega)).mpr (by omega)⟩) z | exact absurd z (fun z => bI_0.mp z ⟨(nI_leI (a := 0) (by decide) (by omega)).mpr (by omega), by rw [ha1, nI_le1 (by omega)]; exact (nI_leI (by omega) (by omega)).mpr (by omega)⟩)) (fun _ => ?_)
  refine e_iloadn d_X11_few_16 rfl ?_
  refine e_iconst (v := 1) d_X11_few_17 (by decide) ?_
  refine e_sipush (v := 1000) d_X11_few_18 (by decide) ?_
  refine e_callSI d_X11_few_21 l_X11_few_101 (s_X11_in) rfl rfl (Nat.le_of_ble_eq_true rfl) ?_
  refine e_if_eq d_X11_few_24 (fun z => by first | exact absurd (fun z => bI_0.mp z ht1) z | exact absurd z (fun z => bI_0.mp z ht1)) (fun _ => ?_)
  refine e_iload d_X11_few_27 rfl ?_
  refine e_iconst (v := 0) d_X11_few_29 (by decide) ?_
  refine e_iconst (v := 2) d_X11_few_30 (by decide) ?_
  refine e_callSI d_X11_few_31 l_X11_few_101 (s_X11_in) rfl rfl (Nat.le_of_ble_eq_true rfl) ?_
  refine e_if_ne d_X11_few_34 (fun _ => ?_) (fun z => by first | exact absurd (fun z => bI_0.mp z hw2) z | exact absurd z (fun z => bI_0.mp z hw2))
  refine e_aloadn d_X11_few_39 rfl ?_
  refine e_iloadn d_X11_few_40 rfl ?_
  have hLq := DL_len (fit := fitB ca N nc kd cd many near) (over := ovN ca N nc kd cd) (2 ^ N)
  have hLp := pw_31 N hN
  have hL8 : (DLs ca N nc kd cd many near).length ≤ 16384 := Nat.le_trans hLq hLp
  have hL9 : ∀ x, x ∈ (DLs ca N nc kd cd many near) → x < 16384 := fun x hx => Nat.lt_of_lt_of_le (DL_lt x hx) hLp
  refine e_callRVV d_X11_few_41 l_X11_few_359 H_md rfl rfl (s_X11_laysDeals H_md H_a ha0 hN hca hca4 hT0 hok H_mnm H_mpi H_mwi H_mwo H_mdl) rfl rfl (Nat.le_of_ble_eq_true rfl) (fun h_41 q_41 s_41 => ?_)
  obtain ⟨H_md, ⟨dl, H_mdl, hRw⟩, hR9, fq⟩ := q_41
  have H_a := fq.hs H_a (by first | decide | (simp; omega))
  have G_mdl := H_mdl
  refine e_aloadn d_X11_few_44 rfl ?_
  refine e_iloadn d_X11_few_45 rfl ?_
  refine e_aloadn d_X11_few_46 rfl ?_
  refine e_callVI d_X11_few_47 l_X11_few_131 H_md rfl rfl (s_X11_hadBits H_md H_a ha0 hN) rfl rfl (Nat.le_of_ble_eq_true rfl) ?_
  rw [hbits]
  refine e_callRVI d_X11_few_50 l_X11_few_362 H_md rfl rfl (s_X11_asFar (T := T) (S0 := S0) (A := (2 ^ N - 1)) H_md H_a ha0 hN H_mdl (by omega) hS1 (hVm T (by omega)) hV (R T (by omega)) hRw hL8 hL9) rfl rfl (Nat.le_of_ble_eq_true rfl) (fun x_50 h_50 q_50 s_50 => ?_)
  obtain ⟨rfl, ⟨up_50, lo_50, H_md⟩, fr_50⟩ := q_50
  have H_a := fr_50.hs H_a (by first | decide | (simp; omega))
  have H_mdl := fr_50.hs H_mdl (by first | decide | (simp; omega))
  refine e_iconst (v := -1) d_X11_few_53 (by decide) ?_
  refine e_icmp_ne d_X11_few_54 (fun c54 => ?_) (fun c54 => ?_)
  · refine e_aloadn d_X11_few_59 rfl ?_
    refine e_iloadn d_X11_few_60 rfl ?_
    refine e_iloadn d_X11_few_61 rfl ?_
    refine e_iconst (v := -1) d_X11_few_62 (by decide) ?_
    refine e_iconst (v := -1) d_X11_few_63 (by decide) ?_
    refine e_callRVI d_X11_few_64 l_X11_few_368 H_md rfl rfl (s_X11_standsWithout_0 (T := T) (S0 := S0) (t := t) H_md H_a ha0 hN hbits H_mdl (by omega) hS1 (hVm T hTn) hV (R T hTn) hRw hL8 hL9 ) rfl rfl (Nat.le_of_ble_eq_true rfl) (fun x_64 h_64 q_64 s_64 => ?_)
    obtain ⟨rfl, ⟨up_64, lo_64, H_md⟩, H_a, fr_64⟩ := q_64
    have H_mdl := fr_64.hs H_mdl (by first | decide | (simp; omega))
    refine e_if_ne d_X11_few_67 (fun c67 => ?_) (fun c67 => ?_)
    · have hs0 : (fun A => stC (farC ans less A (dlF (DLs ca N nc kd cd many near)) T S0 (DLs ca N nc kd cd many near).length) t (DLs ca N nc kd cd many near).length) (2 ^ N - 1) = true := bI_1.mp (bI_z.resolve_left c67)
      refine e_iconst (v := 0) d_X11_few_81 (by decide) ?_
      refine e_istore d_X11_few_82 (by decide) rfl ?_
      have hA_84 : ∀ i, i ≤ N → ∀ (k : AH) (F : Unit) (M : Unit) (A : Unit) (u : Unit) (y : Int32), (Fr [66, 67] h_41 k) → (∃ up9 lo9 : Int64, Hs k 66 (oMd mtp mfl mfa up9 lo9 mln mat mtk mso mto mwr mwp mop mfs mws mst mnc mnk mnr (nI (DLs ca N nc kd cd many near).length) mgu mgl)) → (Hs k 67 (aI 380 a)) → (∀ j, j < i → (fun A => stC (farC ans less A (dlF (DLs ca N nc kd cd many near)) T S0 (DLs ca N nc kd cd many near).length) t (DLs ca N nc kd cd many near).length) (sd (2 ^ N - 1) (2 ^ j)) = true) → (y = nI i) → E M_X11_few (0, 0) (rI (fun x h' => x = fewA (farC ans less (2 ^ N - 1) (dlF (DLs ca N nc kd cd many near)) T S0 (DLs ca N nc kd cd many near).length) (fewS (fun A => stC (farC ans less A (dlF (DLs ca N nc kd cd many near)) T S0 (DLs ca N nc kd cd many near).length) t (DLs ca N nc kd cd many near).length) N) w ∧ MdO h' mtp mfl mfa ∧ (∃ dl : Nat → Int32, Hs h' 87 (aI 16384 dl)) ∧ MdR h' ∧ Hs h' 67 (aI 380 a) ∧ Fr (67 :: FSm) h h')) 84 (k) [some (.ref 66), some (.int (nI tp)), some (.int (nI T)), some (.int t), some (.int w), some (.int y), none] [] := by
        refine loop_ind (n := N) ?_
        intro i hi_i ih_84 k F M A u y h_F h_M h_A h_u h_y
        subst h_y
        obtain ⟨up9, lo9, H_md⟩ := id h_M
        have H_a := h_A
        have H_mdl := h_F.hs G_mdl (by decide)
        refine e_iload d_X11_few_84 rfl ?_
        refine e_aloadn d_X11_few_86 rfl ?_
        refine e_get d_X11_few_87 f_X11_7 H_md rfl ?_
        refine e_iconst (v := 0) d_X11_few_90 (by decide) ?_
        refine e_ialdN (k := 0) d_X11_few_91 H_a rfl (by omega) (by omega) ?_
        rw [ha0]
        refine e_icmp_ge d_X11_few_92 (fun c => ?_) (fun c => ?_)
        · have c := i_le (by omega) (by omega) c
          obtain rfl : N = i := by omega
          refine e_iconst (v := 0) d_X11_few_135 (by decide) ?_
          refine e_istore d_X11_few_136 (by decide) rfl ?_
          have hA_138 : ∀ p, p ≤ N → ∀ (k : AH) (F : Unit) (M : Unit) (A : Unit) (v : Unit) (y : Int32), (Fr [66, 67] h_41 k) → (∃ up9 lo9 : Int64, Hs k 66 (oMd mtp mfl mfa up9 lo9 mln mat mtk mso mto mwr mwp mop mfs mws mst mnc mnk mnr (nI (DLs ca N nc kd cd many near).length) mgu mgl)) → (Hs k 67 (aI 380 a)) → (∀ a, a < p → ∀ b, b < N → a < b → (fun A => stC (farC ans less A (dlF (DLs ca N nc kd cd many near)) T S0 (DLs ca N nc kd cd many near).length) t (DLs ca N nc kd cd many near).length) (sd (2 ^ N - 1) (2 ^ a ||| 2 ^ b)) = true) → (y = nI p) → E M_X11_few (0, 0) (rI (fun x h' => x = fewA (farC ans less (2 ^ N - 1) (dlF (DLs ca N nc kd cd many near)) T S0 (DLs ca N nc kd cd many near).length) (fewS (fun A => stC (farC ans less A (dlF (DLs ca N nc kd cd many near)) T S0 (DLs ca N nc kd cd many near).length) t (DLs ca N nc kd cd many near).length) N) w ∧ MdO h' mtp mfl mfa ∧ (∃ dl : Nat → Int32, Hs h' 87 (aI 16384 dl)) ∧ MdR h' ∧ Hs h' 67 (aI 380 a) ∧ Fr (67 :: FSm) h h')) 138 (k) [some (.ref 66), some (.int (nI tp)), some (.int (nI T)), some (.int t), some (.int w), some (.int y), none] [] := by
            refine loop_ind (n := N) ?_
            intro p hi_p ih_138 k F M A v y h_F h_M h_A h_v h_y
            subst h_y
            obtain ⟨up9, lo9, H_md⟩ := id h_M
            have H_a := h_A
            have H_mdl := h_F.hs G_mdl (by decide)
            refine e_iload d_X11_few_138 rfl ?_
            refine e_aloadn d_X11_few_140 rfl ?_
            refine e_get d_X11_few_141 f_X11_7 H_md rfl ?_
            refine e_iconst (v := 0) d_X11_few_144 (by decide) ?_
            refine e_ialdN (k := 0) d_X11_few_145 H_a rfl (by omega) (by omega) ?_
            rw [ha0]
            refine e_icmp_ge d_X11_few_146 (fun cp => ?_) (fun cp => ?_)
            · have cp := i_le (by omega) (by omega) cp
              obtain rfl : N = p := by omega
              refine e_iconst (v := -1) d_X11_few_214 (by decide) ?_
              exact e_iret d_X11_few_215 rfl (rfl) (⟨_, rfl, by rw [oI_inj_n (fun r hr => by have := fewS_lt hN hr; omega) (few_none hs0 h_u (fun a ha b hb hab => h_v a ha b hb hab))]; simp only [fewA]; rw [if_neg c54], ⟨⟨_, _, _, _, _, _, _, _, _, _, _, _, _, _, _, _, _, _, _, H_md⟩, ⟨dl, H_mdl⟩, MdR.fr hR9 (h_F) (by decide), H_a, ((fq.mono (T := 67 :: FSm) (by decide)).trans ((h_F).mono (by decide)))⟩⟩)
            · have cp := i_nle (by omega) (by omega) cp
              refine e_iload d_X11_few_149 rfl ?_
              refine e_iconst (v := 1) d_X11_few_151 (by decide) ?_
              refine e_iadd d_X11_few_152 ?_
              refine e_istore d_X11_few_153 (by decide) rfl ?_
              have hA_155 : ∀ q, q ≤ N → ∀ (k : AH) (F : Unit) (M : Unit) (A : Unit) (w9 : Unit) (x : Unit) (z : Int32), (Fr [66, 67] h_41 k) → (∃ up9 lo9 : Int64, Hs k 66 (oMd mtp mfl mfa up9 lo9 mln mat mtk mso mto mwr mwp mop mfs mws mst mnc mnk mnr (nI (DLs ca N nc kd cd many near).length) mgu mgl)) → (Hs k 67 (aI 380 a)) → (∀ b, b < q → p < b → (fun A => stC (farC ans less A (dlF (DLs ca N nc kd cd many near)) T S0 (DLs ca N nc kd cd many near).length) t (DLs ca N nc kd cd many near).length) (sd (2 ^ N - 1) (2 ^ p ||| 2 ^ b)) = true) → (p < q) → (z = nI q) → E M_X11_few (0, 0) (rI (fun x h' => x = fewA (farC ans less (2 ^ N - 1) (dlF (DLs ca N nc kd cd many near)) T S0 (DLs ca N nc kd cd many near).length) (fewS (fun A => stC (farC ans less A (dlF (DLs ca N nc kd cd many near)) T S0 (DLs ca N nc kd cd many near).length) t (DLs ca N nc kd cd many near).length) N) w ∧ MdO h' mtp mfl mfa ∧ (∃ dl : Nat → Int32, Hs h' 87 (aI 16384 dl)) ∧ MdR h' ∧ Hs h' 67 (aI 380 a) ∧ Fr (67 :: FSm) h h')) 155 (k) [some (.ref 66), some (.int (nI tp)), some (.int (nI T)), some (.int t), some (.int w), some (.int (nI p)), some (.int z)] [] := by
                refine loop_ind (n := N) ?_
                intro q hi_q ih_155 k F M A w9 x z h_F h_M h_A h_w9 h_x h_z
                subst h_z
                obtain ⟨up9, lo9, H_md⟩ := id h_M
                have H_a := h_A
                have H_mdl := h_F.hs G_mdl (by decide)
                refine e_iload d_X11_few_155 rfl ?_
                refine e_aloadn d_X11_few_157 rfl ?_
                refine e_get d_X11_few_158 f_X11_7 H_md rfl ?_
                refine e_iconst (v := 0) d_X11_few_161 (by decide) ?_
                refine e_ialdN (k := 0) d_X11_few_162 H_a rfl (by omega) (by omega) ?_
                rw [ha0]
                refine e_icmp_ge d_X11_few_163 (fun cq => ?_) (fun cq => ?_)
                · have cq := i_le (by omega) (by omega) cq
                  obtain rfl : N = q := by omega
                  refine e_iincw (w := 1) d_X11_few_208 rfl (by decide) (by decide) rfl ?_
                  refine e_gt d_X11_few_211 ?_
                  refine e_drop1 6 ?_
                  refine ih_138 (p + 1) (by omega) (by omega) _ () () () () _ ?_ ?_ ?_ ?_ ?_
                  · exact h_F
                  · exact h_M
                  · exact h_A
                  · intro a ha b hb hab
                    by_cases e : a = p
                    · subst e; exact h_w9 b (by omega) hab
                    · exact h_v a (by omega) b hb hab
                  · exact nI_1 p
                · have cq := i_nle (by omega) (by omega) cq
                  refine e_aloadn d_X11_few_166 rfl ?_
                  refine e_iloadn d_X11_few_167 rfl ?_
                  refine e_iloadn d_X11_few_168 rfl ?_
                  refine e_iload d_X11_few_169 rfl ?_
                  refine e_iload d_X11_few_171 rfl ?_
                  refine e_callRVI d_X11_few_173 l_X11_few_368 H_md rfl rfl (s_X11_standsWithout_2 (T := T) (S0 := S0) (t := t) H_md H_a ha0 hN hbits H_mdl (by omega) hS1 (hVm T hTn) hV (R T hTn) hRw hL8 hL9 (j := p) (k := q) cq h_x) rfl rfl (Nat.le_of_ble_eq_true rfl) (fun x_173 h_173 q_173 s_173 => ?_)
                  obtain ⟨rfl, ⟨up_173, lo_173, H_md⟩, H_a, fr_173⟩ := q_173
                  have H_mdl := fr_173.hs H_mdl (by first | decide | (simp; omega))
                  refine e_if_ne d_X11_few_176 (fun c176 => ?_) (fun c176 => ?_)
                  · have hs2 : (fun A => stC (farC ans less A (dlF (DLs ca N nc kd cd many near)) T S0 (DLs ca N nc kd cd many near).length) t (DLs ca N nc kd cd many near).length) (sd (2 ^ N - 1) (2 ^ p ||| 2 ^ q)) = true := bI_1.mp (bI_z.resolve_left c176)
                    refine e_iincw (w := 1) d_X11_few_202 rfl (by decide) (by decide) rfl ?_
                    refine e_gt d_X11_few_205 ?_
                    refine ih_155 (q + 1) (by omega) (by omega) _ () () () () () _ ?_ ?_ ?_ ?_ ?_ ?_
                    · exact h_F.trans fr_173
                    · exact ⟨_, _, H_md⟩
                    · exact H_a
                    · intro b hb hpb
                      by_cases e : b = q
                      · subst e; exact hs2
                      · exact h_w9 b (by omega) hpb
                    · omega
                    · exact nI_1 q
                  · have hs2 : (fun A => stC (farC ans less A (dlF (DLs ca N nc kd cd many near)) T S0 (DLs ca N nc kd cd many near).length) t (DLs ca N nc kd cd many near).length) (sd (2 ^ N - 1) (2 ^ p ||| 2 ^ q)) = false := Bool.eq_false_iff.mpr (bI_0.mp c176)
                    refine e_iload d_X11_few_179 rfl ?_
                    refine e_if_ne d_X11_few_181 (fun c181 => ?_) (fun c181 => ?_)
                    · refine e_iload d_X11_few_188 rfl ?_
                      refine e_iconst (v := 1) d_X11_few_190 (by decide) ?_
                      refine e_icmp_ne d_X11_few_191 (fun c191 => ?_) (fun c191 => ?_)
                      · refine e_iload d_X11_few_199 rfl ?_
                        exact e_iret d_X11_few_201 rfl (rfl) (⟨_, rfl, by rw [oI_inj_p (v := 2 ^ p ||| 2 ^ q) (by have := or_lt14 (a := p) (b := q) (by omega) (by omega); omega) (fun r hr => by have := fewS_lt hN hr; omega) (few_pair hs0 h_u (fun a ha b hb hab => h_v a ha b hb hab) (fun b hb hpb => h_w9 b hb hpb) h_x cq hs2), few_2 c54 h_x (by omega)]; first | (rw [if_pos c181]; done) | (rw [if_neg c181, if_pos c191]; done) | (rw [if_neg c181, if_neg c191]; done), ⟨⟨_, _, _, _, _, _, _, _, _, _, _, _, _, _, _, _, _, _, _, H_md⟩, ⟨dl, H_mdl⟩, MdR.fr hR9 (h_F.trans fr_173) (by decide), H_a, ((fq.mono (T := 67 :: FSm) (by decide)).trans ((h_F.trans fr_173).mono (by decide)))⟩⟩)
                      · refine e_iload d_X11_few_194 rfl ?_
                        refine e_gt d_X11_few_196 ?_
                        exact e_iret d_X11_few_201 rfl (rfl) (⟨_, rfl, by rw [oI_inj_p (v := 2 ^ p ||| 2 ^ q) (by have := or_lt14 (a := p) (b := q) (by omega) (by omega); omega) (fun r hr => by have := fewS_lt hN hr; omega) (few_pair hs0 h_u (fun a ha b hb hab => h_v a ha b hb hab) (fun b hb hpb => h_w9 b hb hpb) h_x cq hs2), few_2 c54 h_x (by omega)]; first | (rw [if_pos c181]; done) | (rw [if_neg c181, if_pos c191]; done) | (rw [if_neg c181, if_neg c191]; done), ⟨⟨_, _, _, _, _, _, _, _, _, _, _, _, _, _, _, _, _, _, _, H_md⟩, ⟨dl, H_mdl⟩, MdR.fr hR9 (h_F.trans fr_173) (by decide), H_a, ((fq.mono (T := 67 :: FSm) (by decide)).trans ((h_F.trans fr_173).mono (by decide)))⟩⟩)
                    · refine e_iconst (v := 2) d_X11_few_184 (by decide) ?_
                      refine e_gt d_X11_few_185 ?_
                      exact e_iret d_X11_few_201 rfl (rfl) (⟨_, rfl, by rw [oI_inj_p (v := 2 ^ p ||| 2 ^ q) (by have := or_lt14 (a := p) (b := q) (by omega) (by omega); omega) (fun r hr => by have := fewS_lt hN hr; omega) (few_pair hs0 h_u (fun a ha b hb hab => h_v a ha b hb hab) (fun b hb hpb => h_w9 b hb hpb) h_x cq hs2), few_2 c54 h_x (by omega)]; first | (rw [if_pos c181]; done) | (rw [if_neg c181, if_pos c191]; done) | (rw [if_neg c181, if_neg c191]; done), ⟨⟨_, _, _, _, _, _, _, _, _, _, _, _, _, _, _, _, _, _, _, H_md⟩, ⟨dl, H_mdl⟩, MdR.fr hR9 (h_F.trans fr_173) (by decide), H_a, ((fq.mono (T := 67 :: FSm) (by decide)).trans ((h_F.trans fr_173).mono (by decide)))⟩⟩)
              exact hA_155 (p + 1) (by omega) _ () () () () () _ (h_F) (h_M) (h_A) (fun b h1 h2 => absurd h1 (by omega)) (Nat.lt_succ_self p) (nI_1 p)
          exact hA_138 0 (by omega) _ () () () () _ (h_F) (h_M) (h_A) (fun a ha => absurd ha (by omega)) (rfl)
        · have c := i_nle (by omega) (by omega) c
          refine e_aloadn d_X11_few_95 rfl ?_
          refine e_iloadn d_X11_few_96 rfl ?_
          refine e_iloadn d_X11_few_97 rfl ?_
          refine e_iload d_X11_few_98 rfl ?_
          refine e_iconst (v := -1) d_X11_few_100 (by decide) ?_
          refine e_callRVI d_X11_few_101 l_X11_few_368 H_md rfl rfl (s_X11_standsWithout_1 (T := T) (S0 := S0) (t := t) H_md H_a ha0 hN hbits H_mdl (by omega) hS1 (hVm T hTn) hV (R T hTn) hRw hL8 hL9 (k := i) c) rfl rfl (Nat.le_of_ble_eq_true rfl) (fun x_101 h_101 q_101 s_101 => ?_)
          obtain ⟨rfl, ⟨up_101, lo_101, H_md⟩, H_a, fr_101⟩ := q_101
          have H_mdl := fr_101.hs H_mdl (by first | decide | (simp; omega))
          refine e_if_ne d_X11_few_104 (fun c104 => ?_) (fun c104 => ?_)
          · have hs1 : (fun A => stC (farC ans less A (dlF (DLs ca N nc kd cd many near)) T S0 (DLs ca N nc kd cd many near).length) t (DLs ca N nc kd cd many near).length) (sd (2 ^ N - 1) (2 ^ i)) = true := bI_1.mp (bI_z.resolve_left c104)
            refine e_iincw (w := 1) d_X11_few_129 rfl (by decide) (by decide) rfl ?_
            refine e_gt d_X11_few_132 ?_
            refine ih_84 (i + 1) (by omega) (by omega) _ () () () () _ ?_ ?_ ?_ ?_ ?_
            · exact h_F.trans fr_101
            · exact ⟨_, _, H_md⟩
            · exact H_a
            · intro j hj
              by_cases e : j = i
              · subst e; exact hs1
              · exact h_u j (by omega)
            · exact nI_1 i
          · have hs1 : (fun A => stC (farC ans less A (dlF (DLs ca N nc kd cd many near)) T S0 (DLs ca N nc kd cd many near).length) t (DLs ca N nc kd cd many near).length) (sd (2 ^ N - 1) (2 ^ i)) = false := Bool.eq_false_iff.mpr (bI_0.mp c104)
            refine e_iload d_X11_few_107 rfl ?_
            refine e_if_ne d_X11_few_109 (fun c109 => ?_) (fun c109 => ?_)
            · refine e_iload d_X11_few_116 rfl ?_
              refine e_iconst (v := 1) d_X11_few_118 (by decide) ?_
              refine e_icmp_ne d_X11_few_119 (fun c119 => ?_) (fun c119 => ?_)
              · refine e_iconst (v := -1) d_X11_few_127 (by decide) ?_
                exact e_iret d_X11_few_128 rfl (rfl) (⟨_, rfl, by rw [fewS_1 hs0 c h_u hs1, few_1 c54 (by omega)]; first | (rw [if_pos c109]; done) | (rw [if_neg c109, if_pos c119]; done) | (rw [if_neg c109, if_neg c119]; done), ⟨⟨_, _, _, _, _, _, _, _, _, _, _, _, _, _, _, _, _, _, _, H_md⟩, ⟨dl, H_mdl⟩, MdR.fr hR9 (h_F.trans fr_101) (by decide), H_a, ((fq.mono (T := 67 :: FSm) (by decide)).trans ((h_F.trans fr_101).mono (by decide)))⟩⟩)
              · refine e_iload d_X11_few_122 rfl ?_
                refine e_gt d_X11_few_124 ?_
                exact e_iret d_X11_few_128 rfl (rfl) (⟨_, rfl, by rw [fewS_1 hs0 c h_u hs1, few_1 c54 (by omega)]; first | (rw [if_pos c109]; done) | (rw [if_neg c109, if_pos c119]; done) | (rw [if_neg c109, if_neg c119]; done), ⟨⟨_, _, _, _, _, _, _, _, _, _, _, _, _, _, _, _, _, _, _, H_md⟩, ⟨dl, H_mdl⟩, MdR.fr hR9 (h_F.trans fr_101) (by decide), H_a, ((fq.mono (T := 67 :: FSm) (by decide)).trans ((h_F.trans fr_101).mono (by decide)))⟩⟩)
            · refine e_iconst (v := 1) d_X11_few_112 (by decide) ?_
              refine e_gt d_X11_few_113 ?_
              exact e_iret d_X11_few_128 rfl (rfl) (⟨_, rfl, by rw [fewS_1 hs0 c h_u hs1, few_1 c54 (by omega)]; first | (rw [if_pos c109]; done) | (rw [if_neg c109, if_pos c119]; done) | (rw [if_neg c109, if_neg c119]; done), ⟨⟨_, _, _, _, _, _, _, _, _, _, _, _, _, _, _, _, _, _, _, H_md⟩, ⟨dl, H_mdl⟩, MdR.fr hR9 (h_F.trans fr_101) (by decide), H_a, ((fq.mono (T := 67 :: FSm) (by decide)).trans ((h_F.trans fr_101).mono (by decide)))⟩⟩)
      exact hA_84 0 (by omega) _ () () () () _ ((fr_50.mono (by decide)).trans fr_64) (⟨_, _, H_md⟩) (H_a) (fun j hj => absurd hj (by omega)) (rfl)
    · have hs0 : (fun A => stC (farC ans less A (dlF (DLs ca N nc kd cd many near)) T S0 (DLs ca N nc kd cd many near).length) t (DLs ca N nc kd cd many near).length) (2 ^ N - 1) = false := Bool.eq_false_iff.mpr (bI_0.mp c67)
      refine e_iload d_X11_few_70 rfl ?_
      refine e_if_ne d_X11_few_72 (fun c72 => ?_) (fun c72 => ?_)
      · refine e_iconst (v := -1) d_X11_few_79 (by decide) ?_
        exact e_iret d_X11_few_80 rfl (rfl) (⟨_, rfl, by rw [fewS_0 hs0, few_0 c54]; first | (rw [if_pos c72]; done) | (rw [if_neg c72]; done), ⟨⟨_, _, _, _, _, _, _, _, _, _, _, _, _, _, _, _, _, _, _, H_md⟩, ⟨dl, H_mdl⟩, MdR.fr hR9 ((fr_50.mono (T := [66, 67]) (by decide)).trans fr_64) (by decide), H_a, ((fq.mono (T := 67 :: FSm) (by decide)).trans (((fr_50.mono (T := [66, 67]) (by decide)).trans fr_64).mono (by decide)))⟩⟩)
      · refine e_iconst (v := 0) d_X11_few_75 (by decide) ?_
        refine e_gt d_X11_few_76 ?_
        exact e_iret d_X11_few_80 rfl (rfl) (⟨_, rfl, by rw [fewS_0 hs0, few_0 c54]; first | (rw [if_pos c72]; done) | (rw [if_neg c72]; done), ⟨⟨_, _, _, _, _, _, _, _, _, _, _, _, _, _, _, _, _, _, _, H_md⟩, ⟨dl, H_mdl⟩, MdR.fr hR9 ((fr_50.mono (T := [66, 67]) (by decide)).trans fr_64) (by decide), H_a, ((fq.mono (T := 67 :: FSm) (by decide)).trans (((fr_50.mono (T := [66, 67]) (by decide)).trans fr_64).mono (by decide)))⟩⟩)
  · refine e_iconst (v := -1) d_X11_few_57 (by decide) ?_
    exact e_iret d_X11_few_58 rfl (rfl) (⟨_, rfl, by simp only [fewA]; rw [if_pos c54], ⟨⟨_, _, _, _, _, _, _, _, _, _, _, _, _, _, _, _, _, _, _, H_md⟩, ⟨dl, H_mdl⟩, MdR.fr hR9 (fr_50) (by decide), H_a, ((fq.mono (T := 67 :: FSm) (by decide)).trans ((fr_50).mono (by decide)))⟩⟩)

theorem fw_lt {S N : Nat} (hS : S < 2 ^ N) (hN : N ≤ 14) : fw S 14 < 2 ^ N := by
  have := fw_end (N := N) hS (14 - N)
  rw [show N + (14 - N) = 14 by omega] at this
  rw [this]; exact bs_lt _ _
theorem fw_pc {S i : Nat} (hi : i ≤ 14) : pc (fw S i) 14 = min 4 (pc S i) := by
  have h1 : pc (fw S i) 14 = pc (fw S i) i := by
    have := pc_N (N := i) (bs_lt (fun c => bt S c && decide (pc S c < 4)) i) hi
    exact this
  rw [h1, pc_fw S i i (Nat.le_refl _)]
theorem and_pw (U i : Nat) : U &&& 2 ^ i = if bt U i = true then 2 ^ i else 0 := bt_ext (fun c => by
  rw [bt_and, bt_pow]
  by_cases e : c = i
  · subst e
    by_cases h : bt U c = true
    · rw [if_pos h, bt_pow, h]; simp
    · rw [if_neg h, bt_zero, Bool.eq_false_iff.mpr h]; rfl
  · rw [show decide (c = i) = false from decide_eq_false e, Bool.and_false]
    split
    · rw [bt_pow, decide_eq_false e]
    · rw [bt_zero])
theorem fw_step {S i : Nat} (h4 : pc S i < 4) : fw S (i + 1) = fw S i ||| (S &&& 2 ^ i) := by
  rw [fw_succ, and_pw, decide_eq_true h4, Bool.and_true]
theorem updB {mo : Bool} {b f : Int32} (h : f = -1) : b = updA mo b f := upd_f1 mo h
theorem s_X11_changed {h : AH} {N n S0 : Nat} {ca : Nat → Nat → Nat} {a : Nat → Int32} {ans less : Nat → Int32} {mtp mfl mfa mln mat mtk mso mto mwr mwp mop mfs mws mst mnc mnk mnr mdn : Int32} {mup mlo mgu mgl : Int64} {tp nc tcn : Nat} {kd : Nat → Nat} {cd : Nat → List Nat} {many near : Int32} {dl0 : Nat → Int32} {T co9 : Nat} {mo : Bool} (H_md : Hs h 66 (oMd mtp mfl mfa mup mlo mln mat mtk mso mto mwr mwp mop mfs mws mst mnc mnk mnr mdn mgu mgl)) (H_a : Hs h 67 (aI 380 a)) (ha0 : a 0 = nI N) (hN : N ≤ 14) (hca : ∀ c k, c < N → k < 4 → ca c k ≤ 99) (hca4 : ∀ c k, c < N → k < 4 → a (10 + 5 * c + k) = nI (ca c k)) (ha1 : a 1 = nI n) (hn : n ≤ 12) (hbits : bitsOf (fun c => a (80 + c)) N = nI S0) (hS0 : S0 < 2 ^ N) (hV : ∀ t, t < 12 → ∀ c, c < 14 → ans (t * 14 + c) = -1 ∨ ∃ v, v ≤ 99 ∧ ans (t * 14 + c) = nI v) (hVm : ∀ t, t < n → ∀ c, c < N → a (150 + 14 * t + c) = -1 ∨ ∃ v, v ≤ 99 ∧ a (150 + 14 * t + c) = nI v) (R : ∀ t, t < n → mAn a ans less N t (2 ^ N - 1) 2) (ha2 : a 2 = nI tcn) (htp : tp < tcn) (htc : tcn ≤ 6) (hT0 : TxM h tp nc kd cd many near) (hok : okT nc kd cd) (hR0 : MdR h) (H_mdl : Hs h 87 (aI 16384 dl0)) (hTn : T < n) (hcoins : bitsOf (fun c => a (10 + 5 * c + 4)) N = nI co9) (hco : co9 < 2 ^ N) : Sp M_X11_changed (0, 0) h [.ref 66, .int (nI tp), .int (nI T), .int (bI (mo = true))] (rI (fun x h' => x = chA mo (fun s => farC ans less (2 ^ N - 1) (dlF (DLs ca N nc kd cd many near)) T (S0 ^^^ s) (DLs ca N nc kd cd many near).length) (chS (fw (S0 ^^^ co9) 14) (2 ^ pc (fw (S0 ^^^ co9) 14) 14) 0) ∧ MdZ h h' mtp mfl mfa)) := by
  refine ⟨Nat.le_of_ble_eq_true rfl, ?_⟩
  show E _ _ _ 0 h [some (.ref 66), some (.int (nI tp)), some (.int (nI T)), some (.int (bI (mo = true))), none, none, none, none, none, none] []
  have hS1 : S0 < 16384 := Nat.lt_of_lt_of_le hS0 (pw_31 N hN)
  obtain ⟨⟨⟨nms0, H_mnm⟩, pi0, H_mpi⟩, ⟨wi0, H_mwi⟩, wo0, H_mwo⟩ := id hR0
  have hco1 : co9 < 16384 := Nat.lt_of_lt_of_le hco (pw_31 N hN)
  have hxor : S0 ^^^ co9 < 2 ^ N := Nat.xor_lt_two_pow hS0 hco
  have hpq := pw_31 N hN
  have hpp := Nat.two_pow_pos N
  refine e_aloadn d_X11_changed_0 rfl ?_
  refine e_iloadn d_X11_changed_1 rfl ?_
  refine e_callVI d_X11_changed_2 l_X11_changed_356 H_md rfl rfl (s_X11_isText H_md H_a) rfl rfl (Nat.le_of_ble_eq_true rfl) ?_
  refine e_if_eq d_X11_changed_5 (fun z => by first | exact absurd (fun z => bI_0.mp z ⟨(nI_leI (a := 0) (by decide) (by omega)).mpr (by omega), by rw [ha2, nI_le1 (by omega)]; exact (nI_leI (by omega) (by omega)).mpr (by omega)⟩) z | exact absurd z (fun z => bI_0.mp z ⟨(nI_leI (a := 0) (by decide) (by omega)).mpr (by omega), by rw [ha2, nI_le1 (by omega)]; exact (nI_leI (by omega) (by omega)).mpr (by omega)⟩)) (fun _ => ?_)
  refine e_aloadn d_X11_changed_8 rfl ?_
  refine e_iloadn d_X11_changed_9 rfl ?_
  refine e_callVI d_X11_changed_10 l_X11_changed_109 H_md rfl rfl (s_X11_isThing H_md H_a) rfl rfl (Nat.le_of_ble_eq_true rfl) ?_
  refine e_if_ne d_X11_changed_13 (fun _ => ?_) (fun z => by first | exact absurd (fun z => bI_0.mp z ⟨(nI_leI (a := 0) (by decide) (by omega)).mpr (by omega), by rw [ha1, nI_le1 (by omega)]; exact (nI_leI (by omega) (by omega)).mpr (by omega)⟩) z | exact absurd z (fun z => bI_0.mp z ⟨(nI_leI (a := 0) (by decide) (by omega)).mpr (by omega), by rw [ha1, nI_le1 (by omega)]; exact (nI_leI (by omega) (by omega)).mpr (by omega)⟩))
  refine e_aloadn d_X11_changed_18 rfl ?_
  refine e_iloadn d_X11_changed_19 rfl ?_
  have hLq := DL_len (fit := fitB ca N nc kd cd many near) (over := ovN ca N nc kd cd) (2 ^ N)
  have hLp := pw_31 N hN
  have hL8 : (DLs ca N nc kd cd many near).length ≤ 16384 := Nat.le_trans hLq hLp
  have hL9 : ∀ x, x ∈ (DLs ca N nc kd cd many near) → x < 16384 := fun x hx => Nat.lt_of_lt_of_le (DL_lt x hx) hLp
  refine e_callRVV d_X11_changed_20 l_X11_changed_359 H_md rfl rfl (s_X11_laysDeals H_md H_a ha0 hN hca hca4 hT0 hok H_mnm H_mpi H_mwi H_mwo H_mdl) rfl rfl (Nat.le_of_ble_eq_true rfl) (fun h_20 q_20 s_20 => ?_)
  obtain ⟨H_md, ⟨dl, H_mdl, hRw⟩, hR9, fq⟩ := q_20
  have H_a := fq.hs H_a (by first | decide | (simp; omega))
  refine e_aloadn d_X11_changed_23 rfl ?_
  refine e_callVI d_X11_changed_24 l_X11_changed_131 H_md rfl rfl (s_X11_hadBits H_md H_a ha0 hN) rfl rfl (Nat.le_of_ble_eq_true rfl) ?_
  rw [hbits]
  refine e_istore d_X11_changed_27 (by decide) rfl ?_
  refine e_iload d_X11_changed_29 rfl ?_
  refine e_aloadn d_X11_changed_31 rfl ?_
  refine e_callVI d_X11_changed_32 l_X11_changed_371 H_md rfl rfl (s_X11_coinBits H_md H_a ha0 hN) rfl rfl (Nat.le_of_ble_eq_true rfl) ?_
  rw [hcoins]
  refine e_ixor d_X11_changed_35 ?_
  rw [nI_xor]
  refine e_istore d_X11_changed_36 (by decide) rfl ?_
  refine e_iconst (v := 0) d_X11_changed_38 (by decide) ?_
  refine e_istore d_X11_changed_39 (by decide) rfl ?_
  refine e_iconst (v := 0) d_X11_changed_41 (by decide) ?_
  refine e_istore d_X11_changed_42 (by decide) rfl ?_
  have hA_44 : ∀ i, i ≤ N → ∀ (t9 : Int32) (y : Int32), (t9 = nI (fw (S0 ^^^ co9) i)) → (y = nI i) → E M_X11_changed (0, 0) (rI (fun x h' => x = chA mo (fun s => farC ans less (2 ^ N - 1) (dlF (DLs ca N nc kd cd many near)) T (S0 ^^^ s) (DLs ca N nc kd cd many near).length) (chS (fw (S0 ^^^ co9) 14) (2 ^ pc (fw (S0 ^^^ co9) 14) 14) 0) ∧ MdZ h h' mtp mfl mfa)) 44 (h_20) [some (.ref 66), some (.int (nI tp)), some (.int (nI T)), some (.int (bI (mo = true))), some (.int (nI S0)), some (.int (nI (S0 ^^^ co9))), some (.int t9), some (.int y), none, none] [] := by
    refine loop_ind (n := N) ?_
    intro i hi_i ih_44 t9 y h_t9 h_y
    subst h_y
    subst h_t9
    have hf14 : fw (S0 ^^^ co9) i < 16384 := bs_14 _ (by omega)
    refine e_iload d_X11_changed_44 rfl ?_
    refine e_aloadn d_X11_changed_46 rfl ?_
    refine e_get d_X11_changed_47 f_X11_7 H_md rfl ?_
    refine e_iconst (v := 0) d_X11_changed_50 (by decide) ?_
    refine e_ialdN (k := 0) d_X11_changed_51 H_a rfl (by omega) (by omega) ?_
    rw [ha0]
    refine e_icmp_ge d_X11_changed_52 (fun c => ?_) (fun c => ?_)
    · have c := i_le (by omega) (by omega) c
      have hfin : fw (S0 ^^^ co9) i = fw (S0 ^^^ co9) 14 := by
        have := fw_end (N := N) hxor (14 - N)
        rw [show N + (14 - N) = 14 by omega] at this
        rw [this, show i = N by omega]
      have G_a := H_a
      have G_mdl := H_mdl
      rw [hfin]
      generalize hTT : fw (S0 ^^^ co9) 14 = TT
      have hTN : TT < 2 ^ N := by rw [← hTT]; exact fw_lt hxor hN
      have hT4 : pc TT 14 ≤ 4 := by rw [← hTT, pc_fw _ 14 14 (Nat.le_refl _)]; exact Nat.min_le_left _ _
      refine e_iconst (v := -1) d_X11_changed_82 (by decide) ?_
      refine e_istore d_X11_changed_83 (by decide) rfl ?_
      refine e_iconst (v := 0) d_X11_changed_85 (by decide) ?_
      refine e_istore d_X11_changed_86 (by decide) rfl ?_
      have hA_88 : ∀ q, q ≤ (2 ^ N) → ∀ (k : AH) (F : Unit) (M : Unit) (b : Int32) (y : Int32), (Fr [66] h_20 k) → (∃ up9 lo9 : Int64, Hs k 66 (oMd mtp mfl mfa up9 lo9 mln mat mtk mso mto mwr mwp mop mfs mws mst mnc mnk mnr (nI (DLs ca N nc kd cd many near).length) mgu mgl)) → (b = chM mo (fun s => farC ans less (2 ^ N - 1) (dlF (DLs ca N nc kd cd many near)) T (S0 ^^^ s) (DLs ca N nc kd cd many near).length) TT q) → (y = nI q) → E M_X11_changed (0, 0) (rI (fun x h' => x = chA mo (fun s => farC ans less (2 ^ N - 1) (dlF (DLs ca N nc kd cd many near)) T (S0 ^^^ s) (DLs ca N nc kd cd many near).length) (chS TT (2 ^ pc TT 14) 0) ∧ MdZ h h' mtp mfl mfa)) 88 (k) [some (.ref 66), some (.int (nI tp)), some (.int (nI T)), some (.int (bI (mo = true))), some (.int (nI S0)), some (.int (nI (S0 ^^^ co9))), some (.int (nI TT)), some (.int b), some (.int y), none] [] := by
        refine loop_ind (n := (2 ^ N)) ?_
        intro q hi_q ih_88 k F M b y h_F h_M h_b h_y
        subst h_y
        obtain ⟨up9, lo9, H_md⟩ := id h_M
        have H_a := h_F.hs G_a (by decide)
        have H_mdl := h_F.hs G_mdl (by decide)
        refine e_iload d_X11_changed_88 rfl ?_
        refine e_iconst (v := 1) d_X11_changed_90 (by decide) ?_
        refine e_aloadn d_X11_changed_91 rfl ?_
        refine e_get d_X11_changed_92 f_X11_7 H_md rfl ?_
        refine e_iconst (v := 0) d_X11_changed_95 (by decide) ?_
        refine e_ialdN (k := 0) d_X11_changed_96 H_a rfl (by omega) (by omega) ?_
        rw [ha0]
        refine e_ishl d_X11_changed_97 ?_
        rw [pw14 N hN]
        refine e_icmp_ge d_X11_changed_98 (fun c => ?_) (fun c => ?_)
        · have c := i_le (by omega) (by omega) c
          have ei : q = 2 ^ N := by omega
          refine e_iload d_X11_changed_174 rfl ?_
          exact e_iret d_X11_changed_176 rfl (rfl) (⟨_, rfl, by rw [h_b, ei, chM, ch_flt hTN hN hT4], ⟨⟨_, _, _, _, _, _, _, _, _, _, _, _, _, _, _, _, _, _, _, H_md⟩, ⟨dl, H_mdl⟩, MdR.fr hR9 (h_F) (by decide), ((fq.mono (by decide)).trans ((h_F).mono (by decide)))⟩⟩)
        · have c := i_nle (by omega) (by omega) c
          refine e_iload d_X11_changed_101 rfl ?_
          refine e_iload d_X11_changed_103 rfl ?_
          refine e_iconst (v := -1) d_X11_changed_105 (by decide) ?_
          refine e_ixor d_X11_changed_106 ?_
          refine e_iand d_X11_changed_107 ?_
          rw [nI_sdx]
          have hsl := sd_le q TT
          refine e_if_ne d_X11_changed_108 (fun c108 => ?_) (fun c108 => ?_)
          · have hsd : ¬ sd q TT = 0 := fun z => c108 (by rw [z]; rfl)
            refine e_iincw (w := 1) d_X11_changed_168 rfl (by decide) (by decide) rfl ?_
            refine e_gt d_X11_changed_171 ?_
            refine ih_88 (q + 1) (by omega) (by omega) _ () () _ _ ?_ ?_ ?_ ?_
            · first
              | exact h_F.trans fr_118
              | exact h_F
            · exact ⟨_, _, H_md⟩
            · first | (rw [chM_f hsd]; exact h_b) | (rw [chM_t hsd, ← h_b]; first | exact upd_f1 mo c126 | exact upd_t mo c126 (Or.inl c137) | (rw [show mo = true from bI_1.mp (bI_z.resolve_left c146)]; exact upd_g c126 c137) | (rw [show mo = false from Bool.eq_false_iff.mpr (bI_0.mp c146)]; exact upd_s c126 c137))
            · exact nI_1 q
          · have hsd : sd q TT = 0 := (nI_eq (b := 0) (by omega) (by decide)).mp c108
            refine e_aloadn d_X11_changed_111 rfl ?_
            refine e_iloadn d_X11_changed_112 rfl ?_
            refine e_iload d_X11_changed_113 rfl ?_
            refine e_iload d_X11_changed_115 rfl ?_
            refine e_ixor d_X11_changed_117 ?_
            rw [nI_xor]
            refine e_callRVI d_X11_changed_118 l_X11_changed_362 H_md rfl rfl (s_X11_asFar (T := T) (S0 := (S0 ^^^ q)) (A := (2 ^ N - 1)) H_md H_a ha0 hN H_mdl (by omega) (xor_14 hS1 (by omega)) (hVm T (by omega)) hV (R T (by omega)) hRw hL8 hL9) rfl rfl (Nat.le_of_ble_eq_true rfl) (fun x_118 h_118 q_118 s_118 => ?_)
            obtain ⟨rfl, ⟨up_118, lo_118, H_md⟩, fr_118⟩ := q_118
            have H_a := fr_118.hs H_a (by first | decide | (simp; omega))
            have H_mdl := fr_118.hs H_mdl (by first | decide | (simp; omega))
            refine e_istore d_X11_changed_121 (by decide) rfl ?_
            refine e_iload d_X11_changed_123 rfl ?_
            refine e_iconst (v := -1) d_X11_changed_125 (by decide) ?_
            refine e_icmp_ne d_X11_changed_126 (fun c126 => ?_) (fun c126 => ?_)
            · refine e_iload d_X11_changed_134 rfl ?_
              refine e_iconst (v := -1) d_X11_changed_136 (by decide) ?_
              refine e_icmp_ne d_X11_changed_137 (fun c137 => ?_) (fun c137 => ?_)
              · refine e_iloadn d_X11_changed_145 rfl ?_
                refine e_if_eq d_X11_changed_146 (fun c146 => ?_) (fun c146 => ?_)
                · refine e_iload d_X11_changed_159 rfl ?_
                  refine e_iload d_X11_changed_161 rfl ?_
                  refine e_callSI d_X11_changed_163 l_X11_changed_377 (s_X11_lesser) rfl rfl (Nat.le_of_ble_eq_true rfl) ?_
                  refine e_istore d_X11_changed_166 (by decide) rfl ?_
                  refine e_iincw (w := 1) d_X11_changed_168 rfl (by decide) (by decide) rfl ?_
                  refine e_gt d_X11_changed_171 ?_
                  refine e_drop1 9 ?_
                  refine ih_88 (q + 1) (by omega) (by omega) _ () () _ _ ?_ ?_ ?_ ?_
                  · first
                    | exact h_F.trans fr_118
                    | exact h_F
                  · exact ⟨_, _, H_md⟩
                  · first | (rw [chM_f hsd]; exact h_b) | (rw [chM_t hsd, ← h_b]; first | exact upd_f1 mo c126 | exact upd_t mo c126 (Or.inl c137) | (rw [show mo = true from bI_1.mp (bI_z.resolve_left c146)]; exact upd_g c126 c137) | (rw [show mo = false from Bool.eq_false_iff.mpr (bI_0.mp c146)]; exact upd_s c126 c137))
                  · exact nI_1 q
                · refine e_iload d_X11_changed_149 rfl ?_
                  refine e_iload d_X11_changed_151 rfl ?_
                  refine e_callSI d_X11_changed_153 l_X11_changed_374 (s_X11_greater) rfl rfl (Nat.le_of_ble_eq_true rfl) ?_
                  refine e_gt d_X11_changed_156 ?_
                  refine e_istore d_X11_changed_166 (by decide) rfl ?_
                  refine e_iincw (w := 1) d_X11_changed_168 rfl (by decide) (by decide) rfl ?_
                  refine e_gt d_X11_changed_171 ?_
                  refine e_drop1 9 ?_
                  refine ih_88 (q + 1) (by omega) (by omega) _ () () _ _ ?_ ?_ ?_ ?_
                  · first
                    | exact h_F.trans fr_118
                    | exact h_F
                  · exact ⟨_, _, H_md⟩
                  · first | (rw [chM_f hsd]; exact h_b) | (rw [chM_t hsd, ← h_b]; first | exact upd_f1 mo c126 | exact upd_t mo c126 (Or.inl c137) | (rw [show mo = true from bI_1.mp (bI_z.resolve_left c146)]; exact upd_g c126 c137) | (rw [show mo = false from Bool.eq_false_iff.mpr (bI_0.mp c146)]; exact upd_s c126 c137))
                  · exact nI_1 q
              · refine e_iload d_X11_changed_140 rfl ?_
                refine e_gt d_X11_changed_142 ?_
                refine e_istore d_X11_changed_166 (by decide) rfl ?_
                refine e_iincw (w := 1) d_X11_changed_168 rfl (by decide) (by decide) rfl ?_
                refine e_gt d_X11_changed_171 ?_
                refine e_drop1 9 ?_
                refine ih_88 (q + 1) (by omega) (by omega) _ () () _ _ ?_ ?_ ?_ ?_
                · first
                  | exact h_F.trans fr_118
                  | exact h_F
                · exact ⟨_, _, H_md⟩
                · first | (rw [chM_f hsd]; exact h_b) | (rw [chM_t hsd, ← h_b]; first | exact upd_f1 mo c126 | exact upd_t mo c126 (Or.inl c137) | (rw [show mo = true from bI_1.mp (bI_z.resolve_left c146)]; exact upd_g c126 c137) | (rw [show mo = false from Bool.eq_false_iff.mpr (bI_0.mp c146)]; exact upd_s c126 c137))
                · exact nI_1 q
            · refine e_iload d_X11_changed_129 rfl ?_
              refine e_gt d_X11_changed_131 ?_
              refine e_istore d_X11_changed_166 (by decide) rfl ?_
              refine e_iincw (w := 1) d_X11_changed_168 rfl (by decide) (by decide) rfl ?_
              refine e_gt d_X11_changed_171 ?_
              refine e_drop1 9 ?_
              refine ih_88 (q + 1) (by omega) (by omega) _ () () _ _ ?_ ?_ ?_ ?_
              · first
                | exact h_F.trans fr_118
                | exact h_F
              · exact ⟨_, _, H_md⟩
              · first | (rw [chM_f hsd]; exact h_b) | (rw [chM_t hsd, ← h_b]; first | exact upd_f1 mo c126 | exact upd_t mo c126 (Or.inl c137) | (rw [show mo = true from bI_1.mp (bI_z.resolve_left c146)]; exact upd_g c126 c137) | (rw [show mo = false from Bool.eq_false_iff.mpr (bI_0.mp c146)]; exact upd_s c126 c137))
              · exact nI_1 q
      exact hA_88 0 (by omega) _ () () _ _ (Fr.refl _ _) (⟨_, _, H_md⟩) (rfl) (rfl)
    · have c := i_nle (by omega) (by omega) c
      refine e_iload d_X11_changed_55 rfl ?_
      refine e_callSI d_X11_changed_57 l_X11_changed_350 (s_X11_ones hf14) rfl rfl (Nat.le_of_ble_eq_true rfl) ?_
      refine e_iconst (v := 4) d_X11_changed_60 (by decide) ?_
      have hpf : pc (fw (S0 ^^^ co9) i) 14 = min 4 (pc (S0 ^^^ co9) i) := fw_pc (by omega)
      rw [hpf]
      refine e_icmp_ge d_X11_changed_61 (fun c61 => ?_) (fun c61 => ?_)
      · have hfin : fw (S0 ^^^ co9) i = fw (S0 ^^^ co9) 14 := by
          have h4 : 4 ≤ pc (S0 ^^^ co9) i := by
            have := i_le (a := 4) (by decide) (by omega) c61
            omega
          have := fw_full h4 (14 - i)
          rw [show i + (14 - i) = 14 by omega] at this
          exact this.symm
        have G_a := H_a
        have G_mdl := H_mdl
        rw [hfin]
        generalize hTT : fw (S0 ^^^ co9) 14 = TT
        have hTN : TT < 2 ^ N := by rw [← hTT]; exact fw_lt hxor hN
        have hT4 : pc TT 14 ≤ 4 := by rw [← hTT, pc_fw _ 14 14 (Nat.le_refl _)]; exact Nat.min_le_left _ _
        refine e_iconst (v := -1) d_X11_changed_82 (by decide) ?_
        refine e_istore d_X11_changed_83 (by decide) rfl ?_
        refine e_iconst (v := 0) d_X11_changed_85 (by decide) ?_
        refine e_istore d_X11_changed_86 (by decide) rfl ?_
        have hA_88 : ∀ q, q ≤ (2 ^ N) → ∀ (k : AH) (F : Unit) (M : Unit) (b : Int32) (y : Int32), (Fr [66] h_20 k) → (∃ up9 lo9 : Int64, Hs k 66 (oMd mtp mfl mfa up9 lo9 mln mat mtk mso mto mwr mwp mop mfs mws mst mnc mnk mnr (nI (DLs ca N nc kd cd many near).length) mgu mgl)) → (b = chM mo (fun s => farC ans less (2 ^ N - 1) (dlF (DLs ca N nc kd cd many near)) T (S0 ^^^ s) (DLs ca N nc kd cd many near).length) TT q) → (y = nI q) → E M_X11_changed (0, 0) (rI (fun x h' => x = chA mo (fun s => farC ans less (2 ^ N - 1) (dlF (DLs ca N nc kd cd many near)) T (S0 ^^^ s) (DLs ca N nc kd cd many near).length) (chS TT (2 ^ pc TT 14) 0) ∧ MdZ h h' mtp mfl mfa)) 88 (k) [some (.ref 66), some (.int (nI tp)), some (.int (nI T)), some (.int (bI (mo = true))), some (.int (nI S0)), some (.int (nI (S0 ^^^ co9))), some (.int (nI TT)), some (.int b), some (.int y), none] [] := by
          refine loop_ind (n := (2 ^ N)) ?_
          intro q hi_q ih_88 k F M b y h_F h_M h_b h_y
          subst h_y
          obtain ⟨up9, lo9, H_md⟩ := id h_M
          have H_a := h_F.hs G_a (by decide)
          have H_mdl := h_F.hs G_mdl (by decide)
          refine e_iload d_X11_changed_88 rfl ?_
          refine e_iconst (v := 1) d_X11_changed_90 (by decide) ?_
          refine e_aloadn d_X11_changed_91 rfl ?_
          refine e_get d_X11_changed_92 f_X11_7 H_md rfl ?_
          refine e_iconst (v := 0) d_X11_changed_95 (by decide) ?_
          refine e_ialdN (k := 0) d_X11_changed_96 H_a rfl (by omega) (by omega) ?_
          rw [ha0]
          refine e_ishl d_X11_changed_97 ?_
          rw [pw14 N hN]
          refine e_icmp_ge d_X11_changed_98 (fun c => ?_) (fun c => ?_)
          · have c := i_le (by omega) (by omega) c
            have ei : q = 2 ^ N := by omega
            refine e_iload d_X11_changed_174 rfl ?_
            exact e_iret d_X11_changed_176 rfl (rfl) (⟨_, rfl, by rw [h_b, ei, chM, ch_flt hTN hN hT4], ⟨⟨_, _, _, _, _, _, _, _, _, _, _, _, _, _, _, _, _, _, _, H_md⟩, ⟨dl, H_mdl⟩, MdR.fr hR9 (h_F) (by decide), ((fq.mono (by decide)).trans ((h_F).mono (by decide)))⟩⟩)
          · have c := i_nle (by omega) (by omega) c
            refine e_iload d_X11_changed_101 rfl ?_
            refine e_iload d_X11_changed_103 rfl ?_
            refine e_iconst (v := -1) d_X11_changed_105 (by decide) ?_
            refine e_ixor d_X11_changed_106 ?_
            refine e_iand d_X11_changed_107 ?_
            rw [nI_sdx]
            have hsl := sd_le q TT
            refine e_if_ne d_X11_changed_108 (fun c108 => ?_) (fun c108 => ?_)
            · have hsd : ¬ sd q TT = 0 := fun z => c108 (by rw [z]; rfl)
              refine e_iincw (w := 1) d_X11_changed_168 rfl (by decide) (by decide) rfl ?_
              refine e_gt d_X11_changed_171 ?_
              refine ih_88 (q + 1) (by omega) (by omega) _ () () _ _ ?_ ?_ ?_ ?_
              · first
                | exact h_F.trans fr_118
                | exact h_F
              · exact ⟨_, _, H_md⟩
              · first | (rw [chM_f hsd]; exact h_b) | (rw [chM_t hsd, ← h_b]; first | exact upd_f1 mo c126 | exact upd_t mo c126 (Or.inl c137) | (rw [show mo = true from bI_1.mp (bI_z.resolve_left c146)]; exact upd_g c126 c137) | (rw [show mo = false from Bool.eq_false_iff.mpr (bI_0.mp c146)]; exact upd_s c126 c137))
              · exact nI_1 q
            · have hsd : sd q TT = 0 := (nI_eq (b := 0) (by omega) (by decide)).mp c108
              refine e_aloadn d_X11_changed_111 rfl ?_
              refine e_iloadn d_X11_changed_112 rfl ?_
              refine e_iload d_X11_changed_113 rfl ?_
              refine e_iload d_X11_changed_115 rfl ?_
              refine e_ixor d_X11_changed_117 ?_
              rw [nI_xor]
              refine e_callRVI d_X11_changed_118 l_X11_changed_362 H_md rfl rfl (s_X11_asFar (T := T) (S0 := (S0 ^^^ q)) (A := (2 ^ N - 1)) H_md H_a ha0 hN H_mdl (by omega) (xor_14 hS1 (by omega)) (hVm T (by omega)) hV (R T (by omega)) hRw hL8 hL9) rfl rfl (Nat.le_of_ble_eq_true rfl) (fun x_118 h_118 q_118 s_118 => ?_)
              obtain ⟨rfl, ⟨up_118, lo_118, H_md⟩, fr_118⟩ := q_118
              have H_a := fr_118.hs H_a (by first | decide | (simp; omega))
              have H_mdl := fr_118.hs H_mdl (by first | decide | (simp; omega))
              refine e_istore d_X11_changed_121 (by decide) rfl ?_
              refine e_iload d_X11_changed_123 rfl ?_
              refine e_iconst (v := -1) d_X11_changed_125 (by decide) ?_
              refine e_icmp_ne d_X11_changed_126 (fun c126 => ?_) (fun c126 => ?_)
              · refine e_iload d_X11_changed_134 rfl ?_
                refine e_iconst (v := -1) d_X11_changed_136 (by decide) ?_
                refine e_icmp_ne d_X11_changed_137 (fun c137 => ?_) (fun c137 => ?_)
                · refine e_iloadn d_X11_changed_145 rfl ?_
                  refine e_if_eq d_X11_changed_146 (fun c146 => ?_) (fun c146 => ?_)
                  · refine e_iload d_X11_changed_159 rfl ?_
                    refine e_iload d_X11_changed_161 rfl ?_
                    refine e_callSI d_X11_changed_163 l_X11_changed_377 (s_X11_lesser) rfl rfl (Nat.le_of_ble_eq_true rfl) ?_
                    refine e_istore d_X11_changed_166 (by decide) rfl ?_
                    refine e_iincw (w := 1) d_X11_changed_168 rfl (by decide) (by decide) rfl ?_
                    refine e_gt d_X11_changed_171 ?_
                    refine e_drop1 9 ?_
                    refine ih_88 (q + 1) (by omega) (by omega) _ () () _ _ ?_ ?_ ?_ ?_
                    · first
                      | exact h_F.trans fr_118
                      | exact h_F
                    · exact ⟨_, _, H_md⟩
                    · first | (rw [chM_f hsd]; exact h_b) | (rw [chM_t hsd, ← h_b]; first | exact upd_f1 mo c126 | exact upd_t mo c126 (Or.inl c137) | (rw [show mo = true from bI_1.mp (bI_z.resolve_left c146)]; exact upd_g c126 c137) | (rw [show mo = false from Bool.eq_false_iff.mpr (bI_0.mp c146)]; exact upd_s c126 c137))
                    · exact nI_1 q
                  · refine e_iload d_X11_changed_149 rfl ?_
                    refine e_iload d_X11_changed_151 rfl ?_
                    refine e_callSI d_X11_changed_153 l_X11_changed_374 (s_X11_greater) rfl rfl (Nat.le_of_ble_eq_true rfl) ?_
                    refine e_gt d_X11_changed_156 ?_
                    refine e_istore d_X11_changed_166 (by decide) rfl ?_
                    refine e_iincw (w := 1) d_X11_changed_168 rfl (by decide) (by decide) rfl ?_
                    refine e_gt d_X11_changed_171 ?_
                    refine e_drop1 9 ?_
                    refine ih_88 (q + 1) (by omega) (by omega) _ () () _ _ ?_ ?_ ?_ ?_
                    · first
                      | exact h_F.trans fr_118
                      | exact h_F
                    · exact ⟨_, _, H_md⟩
                    · first | (rw [chM_f hsd]; exact h_b) | (rw [chM_t hsd, ← h_b]; first | exact upd_f1 mo c126 | exact upd_t mo c126 (Or.inl c137) | (rw [show mo = true from bI_1.mp (bI_z.resolve_left c146)]; exact upd_g c126 c137) | (rw [show mo = false from Bool.eq_false_iff.mpr (bI_0.mp c146)]; exact upd_s c126 c137))
                    · exact nI_1 q
                · refine e_iload d_X11_changed_140 rfl ?_
                  refine e_gt d_X11_changed_142 ?_
                  refine e_istore d_X11_changed_166 (by decide) rfl ?_
                  refine e_iincw (w := 1) d_X11_changed_168 rfl (by decide) (by decide) rfl ?_
                  refine e_gt d_X11_changed_171 ?_
                  refine e_drop1 9 ?_
                  refine ih_88 (q + 1) (by omega) (by omega) _ () () _ _ ?_ ?_ ?_ ?_
                  · first
                    | exact h_F.trans fr_118
                    | exact h_F
                  · exact ⟨_, _, H_md⟩
                  · first | (rw [chM_f hsd]; exact h_b) | (rw [chM_t hsd, ← h_b]; first | exact upd_f1 mo c126 | exact upd_t mo c126 (Or.inl c137) | (rw [show mo = true from bI_1.mp (bI_z.resolve_left c146)]; exact upd_g c126 c137) | (rw [show mo = false from Bool.eq_false_iff.mpr (bI_0.mp c146)]; exact upd_s c126 c137))
                  · exact nI_1 q
              · refine e_iload d_X11_changed_129 rfl ?_
                refine e_gt d_X11_changed_131 ?_
                refine e_istore d_X11_changed_166 (by decide) rfl ?_
                refine e_iincw (w := 1) d_X11_changed_168 rfl (by decide) (by decide) rfl ?_
                refine e_gt d_X11_changed_171 ?_
                refine e_drop1 9 ?_
                refine ih_88 (q + 1) (by omega) (by omega) _ () () _ _ ?_ ?_ ?_ ?_
                · first
                  | exact h_F.trans fr_118
                  | exact h_F
                · exact ⟨_, _, H_md⟩
                · first | (rw [chM_f hsd]; exact h_b) | (rw [chM_t hsd, ← h_b]; first | exact upd_f1 mo c126 | exact upd_t mo c126 (Or.inl c137) | (rw [show mo = true from bI_1.mp (bI_z.resolve_left c146)]; exact upd_g c126 c137) | (rw [show mo = false from Bool.eq_false_iff.mpr (bI_0.mp c146)]; exact upd_s c126 c137))
                · exact nI_1 q
        exact hA_88 0 (by omega) _ () () _ _ (Fr.refl _ _) (⟨_, _, H_md⟩) (rfl) (rfl)
      · have h4 : pc (S0 ^^^ co9) i < 4 := by
          have := i_nle (a := 4) (by decide) (by omega) c61
          omega
        refine e_iload d_X11_changed_64 rfl ?_
        refine e_iload d_X11_changed_66 rfl ?_
        refine e_iconst (v := 1) d_X11_changed_68 (by decide) ?_
        refine e_iload d_X11_changed_69 rfl ?_
        refine e_ishl d_X11_changed_71 ?_
        rw [pw14 i (by omega)]
        refine e_iand d_X11_changed_72 ?_
        rw [nI_and]
        refine e_ior d_X11_changed_73 ?_
        rw [nI_or]
        refine e_istore d_X11_changed_74 (by decide) rfl ?_
        refine e_iincw (w := 1) d_X11_changed_76 rfl (by decide) (by decide) rfl ?_
        refine e_gt d_X11_changed_79 ?_
        refine ih_44 (i + 1) (by omega) (by omega) _ _ ?_ ?_
        · rw [fw_step h4]
        · exact nI_1 i
  exact hA_44 0 (by omega) _ _ (rfl) (rfl)
