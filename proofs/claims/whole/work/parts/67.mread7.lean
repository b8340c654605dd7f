/-! THE MODEL'S READER: ASKS go on; numbers -/
theorem s_X11_asksOn {h : AH} {tb : Nat → Nat} {L s nd r : Nat} {e : List Nat} {kd : Nat → Nat} {cd : Nat → List Nat} {my ne : Int32} {mt : Nat → Int32} (hP : MdP h tb L s 0 (-1) 0 1 (e.length + 0) nd r 3 (nI (kd nd - 14))) (hGs : MGs h [(2, e)]) (hN : MN h nd true kd cd my ne r) (H_mtape : Hs h 69 (aB 300 mt)) (hmt : ∀ k, k < 300 → mt k = sbI (tb k) ∧ tb k < 256) (hsL : s ≤ L) (hL : L ≤ 300) (he : vE e) (hk16 : 16 ≤ kd nd) (hr3 : r ≤ 310) : Sp M_X11_asksOn (0, 0) h [.ref 66] (rV (fun h' => MqR h' tb L s (gAsk3 (tok tb L s).1 e (nd + 1) kd cd my ne) ∧ Fr [66, 76, 77, 78, 79, 80, 81, 82, 83, 84] h h')) := by
  refine ⟨Nat.le_of_ble_eq_true rfl, ?_⟩
  show E _ _ _ 0 h [some (.ref 66)] []
  obtain ⟨so, to, mfl, mfa, mdn, mup, mlo, mgu, mgl, H_md, htk⟩ := id hP
  obtain ⟨fr, cm, wa, wf, H_mfr, H_mco, H_mwa, H_mwf, hG⟩ := id hGs
  have hel := (vE_in he).2
  refine e_aloadn d_X11_asksOn_0 rfl ?_
  refine e_bipush (v := 7) d_X11_asksOn_1 (by decide) ?_
  refine e_callVI d_X11_asksOn_3 l_X11_asksOn_254 H_md rfl rfl (s_X11_isWord H_md) rfl rfl (Nat.le_of_ble_eq_true rfl) ?_
  refine e_if_ne d_X11_asksOn_6 (fun c6 => ?_) (fun c6 => ?_)
  · have c6 : (tok tb L s).1 = 13 := (tk_wd htk (w := 7) (by decide)).mp (bI_1.mp (bI_z.resolve_left c6))
    have h1213 : (tok tb L s).1 = 12 ∨ (tok tb L s).1 = 13 := by first | exact Or.inl c15 | exact Or.inr c6
    refine e_aloadn d_X11_asksOn_18 rfl ?_
    refine e_aloadn d_X11_asksOn_19 rfl ?_
    refine e_bipush (v := 7) d_X11_asksOn_20 (by decide) ?_
    refine e_callVI d_X11_asksOn_22 l_X11_asksOn_254 H_md rfl rfl (s_X11_isWord H_md) rfl rfl (Nat.le_of_ble_eq_true rfl) ?_
    refine e_if_eq d_X11_asksOn_25 (fun c25 => ?_) (fun c25 => ?_)
    · have c25 : ¬ (tok tb L s).1 = 13 := fun z => bI_0.mp c25 ((tk_wd htk (w := 7) (by decide)).mpr z)
      have c12 : (tok tb L s).1 = 12 := by omega
      have hen : (406 : Int32) = nI (encO (tok tb L s).1) := by rw [c12]; rfl
      refine e_sipush (v := 406) d_X11_asksOn_34 (by decide) ?_
      rw [hen]
      refine e_callRVV d_X11_asksOn_37 l_X11_asksOn_278 H_md rfl rfl (s_X11_waitsFor (t := (tok tb L s).1) hP hGs hN (mr_vE he h1213) (vEF he) (by omega) (by omega) (by simp [nW]; omega) (by simp) H_mtape hmt (tok_nx hsL (by omega)).2.2 hL) rfl rfl (Nat.le_of_ble_eq_true rfl) (fun h_37 q_37 s_37 => ?_)
      obtain ⟨hP37, hGs37, hN37, fr_37⟩ := q_37
      obtain ⟨so37, to37, mfl37, mfa37, mdn37, mup37, mlo37, mgu37, mgl37, H_md37, htk37⟩ := id hP37
      refine e_aloadn d_X11_asksOn_40 rfl ?_
      refine e_iconst (v := 0) d_X11_asksOn_41 (by decide) ?_
      refine e_puti d_X11_asksOn_42 f_X11_260 H_md37 (Nat.le_of_ble_eq_true rfl) ?_
      refine e_gt d_X11_asksOn_45 ?_
      exact e_vret d_X11_asksOn_77 rfl (⟨rfl, MqR_ok (S := (0, [(2, (tok tb L s).1 :: sdr (rkc (tok tb L s).1) e)], nd + 1, kd, cdA cd (nd + 1) (stk (rkc (tok tb L s).1) e), my, ne)) (by unfold gAsk3; rw [if_neg (by omega), if_pos h1213]) (MCs_mk (by decide) ⟨_, _, _, _, _, _, _, _, _, H_md37.s, htk37⟩ (hGs37.fr ((Fr.refl [66] _).up (by decide)) (by simp)) (hN37.fr ((Fr.refl [66] _).up (by decide)) (by simp))), (fr_37.up (k := 66) (by decide)).mono (by decide)⟩)
    · have c25 : (tok tb L s).1 = 13 := (tk_wd htk (w := 7) (by decide)).mp (bI_1.mp (bI_z.resolve_left c25))
      have hen : (407 : Int32) = nI (encO (tok tb L s).1) := by rw [c25]; rfl
      refine e_sipush (v := 407) d_X11_asksOn_28 (by decide) ?_
      refine e_gt d_X11_asksOn_31 ?_
      rw [hen]
      refine e_callRVV d_X11_asksOn_37 l_X11_asksOn_278 H_md rfl rfl (s_X11_waitsFor (t := (tok tb L s).1) hP hGs hN (mr_vE he h1213) (vEF he) (by omega) (by omega) (by simp [nW]; omega) (by simp) H_mtape hmt (tok_nx hsL (by omega)).2.2 hL) rfl rfl (Nat.le_of_ble_eq_true rfl) (fun h_37 q_37 s_37 => ?_)
      obtain ⟨hP37, hGs37, hN37, fr_37⟩ := q_37
      obtain ⟨so37, to37, mfl37, mfa37, mdn37, mup37, mlo37, mgu37, mgl37, H_md37, htk37⟩ := id hP37
      refine e_aloadn d_X11_asksOn_40 rfl ?_
      refine e_iconst (v := 0) d_X11_asksOn_41 (by decide) ?_
      refine e_puti d_X11_asksOn_42 f_X11_260 H_md37 (Nat.le_of_ble_eq_true rfl) ?_
      refine e_gt d_X11_asksOn_45 ?_
      exact e_vret d_X11_asksOn_77 rfl (⟨rfl, MqR_ok (S := (0, [(2, (tok tb L s).1 :: sdr (rkc (tok tb L s).1) e)], nd + 1, kd, cdA cd (nd + 1) (stk (rkc (tok tb L s).1) e), my, ne)) (by unfold gAsk3; rw [if_neg (by omega), if_pos h1213]) (MCs_mk (by decide) ⟨_, _, _, _, _, _, _, _, _, H_md37.s, htk37⟩ (hGs37.fr ((Fr.refl [66] _).up (by decide)) (by simp)) (hN37.fr ((Fr.refl [66] _).up (by decide)) (by simp))), (fr_37.up (k := 66) (by decide)).mono (by decide)⟩)
  · have c6 : ¬ (tok tb L s).1 = 13 := fun z => bI_0.mp (by first | exact c6 | exact Decidable.of_not_not c6) ((tk_wd htk (w := 7) (by decide)).mpr z)
    refine e_aloadn d_X11_asksOn_9 rfl ?_
    refine e_bipush (v := 8) d_X11_asksOn_10 (by decide) ?_
    refine e_callVI d_X11_asksOn_12 l_X11_asksOn_254 H_md rfl rfl (s_X11_isWord H_md) rfl rfl (Nat.le_of_ble_eq_true rfl) ?_
    refine e_if_eq d_X11_asksOn_15 (fun c15 => ?_) (fun c15 => ?_)
    · have c15 : ¬ (tok tb L s).1 = 12 := fun z => bI_0.mp c15 ((tk_wd htk (w := 8) (by decide)).mpr z)
      refine e_aloadn d_X11_asksOn_48 rfl ?_
      refine e_callVI d_X11_asksOn_49 l_X11_asksOn_275 H_md rfl rfl (s_X11_top (n := 0) H_md H_mfr (by decide)) rfl rfl (Nat.le_of_ble_eq_true rfl) ?_
      rw [show fr 0 = nI (mfr 2) from hG.1, show mfr 2 = 2 from rfl]
      refine e_iconst (v := 2) d_X11_asksOn_52 (by decide) ?_
      refine e_icmp_ne d_X11_asksOn_53 (fun z => by first | exact absurd (fun z => z rfl) z | exact absurd z (fun z => z rfl)) (fun _ => ?_)
      refine e_aloadn d_X11_asksOn_56 rfl ?_
      refine e_bipush (v := 59) d_X11_asksOn_57 (by decide) ?_
      refine e_callVI d_X11_asksOn_59 l_X11_asksOn_272 H_md rfl rfl (s_X11_isSign H_md) rfl rfl (Nat.le_of_ble_eq_true rfl) ?_
      refine e_if_eq d_X11_asksOn_62 (fun c62 => ?_) (fun c62 => ?_)
      · have c62 : ¬ (tok tb L s).1 = 34 := fun z => bI_0.mp c62 ((tk_sg htk (c := 34) (by decide) (by decide) (by decide)).mpr z)
        refine e_aloadn d_X11_asksOn_72 rfl ?_
        refine e_iconst (v := 1) d_X11_asksOn_73 (by decide) ?_
        have c62b := c62
        refine e_callRVV d_X11_asksOn_74 l_X11_asksOn_231 H_md rfl rfl (s_X11_errs2 (q := 1) hP) rfl rfl (Nat.le_of_ble_eq_true rfl) (fun h_74 q_74 s_74 => ?_)
        exact e_vret d_X11_asksOn_77 rfl (⟨rfl, MqR_bad (by unfold gAsk3; rw [if_neg c62b, if_neg (by omega)]) (by decide) q_74.1, q_74.2.mono (by decide)⟩)
      · have c62 : (tok tb L s).1 = 34 := (tk_sg htk (c := 34) (by decide) (by decide) (by decide)).mp (bI_1.mp (bI_z.resolve_left c62))
        refine e_aloadn d_X11_asksOn_65 rfl ?_
        refine e_callRVV d_X11_asksOn_66 l_X11_asksOn_287 H_md rfl rfl (s_X11_clauseIsOver hP hGs hN (vEF he) hk16 (by omega) (by omega) hel H_mtape hmt (tok_nx hsL (by omega)).2.2 hL) rfl rfl (Nat.le_of_ble_eq_true rfl) (fun h_66 q_66 s_66 => ?_)
        refine e_gt d_X11_asksOn_69 ?_
        exact e_vret d_X11_asksOn_77 rfl (⟨rfl, MqR_ok (S := (4, [], nd + 1, kd, cdA cd (nd + 1) e, my, ne)) (by unfold gAsk3; rw [if_pos c62]) (MCs_mk4 q_66.1 q_66.2.1 q_66.2.2.1), q_66.2.2.2.mono (by decide)⟩)
    · have c15 : (tok tb L s).1 = 12 := (tk_wd htk (w := 8) (by decide)).mp (bI_1.mp (bI_z.resolve_left c15))
      have h1213 : (tok tb L s).1 = 12 ∨ (tok tb L s).1 = 13 := by first | exact Or.inl c15 | exact Or.inr c6
      refine e_aloadn d_X11_asksOn_18 rfl ?_
      refine e_aloadn d_X11_asksOn_19 rfl ?_
      refine e_bipush (v := 7) d_X11_asksOn_20 (by decide) ?_
      refine e_callVI d_X11_asksOn_22 l_X11_asksOn_254 H_md rfl rfl (s_X11_isWord H_md) rfl rfl (Nat.le_of_ble_eq_true rfl) ?_
      refine e_if_eq d_X11_asksOn_25 (fun c25 => ?_) (fun c25 => ?_)
      · have c25 : ¬ (tok tb L s).1 = 13 := fun z => bI_0.mp c25 ((tk_wd htk (w := 7) (by decide)).mpr z)
        have c12 : (tok tb L s).1 = 12 := by omega
        have hen : (406 : Int32) = nI (encO (tok tb L s).1) := by rw [c12]; rfl
        refine e_sipush (v := 406) d_X11_asksOn_34 (by decide) ?_
        rw [hen]
        refine e_callRVV d_X11_asksOn_37 l_X11_asksOn_278 H_md rfl rfl (s_X11_waitsFor (t := (tok tb L s).1) hP hGs hN (mr_vE he h1213) (vEF he) (by omega) (by omega) (by simp [nW]; omega) (by simp) H_mtape hmt (tok_nx hsL (by omega)).2.2 hL) rfl rfl (Nat.le_of_ble_eq_true rfl) (fun h_37 q_37 s_37 => ?_)
        obtain ⟨hP37, hGs37, hN37, fr_37⟩ := q_37
        obtain ⟨so37, to37, mfl37, mfa37, mdn37, mup37, mlo37, mgu37, mgl37, H_md37, htk37⟩ := id hP37
        refine e_aloadn d_X11_asksOn_40 rfl ?_
        refine e_iconst (v := 0) d_X11_asksOn_41 (by decide) ?_
        refine e_puti d_X11_asksOn_42 f_X11_260 H_md37 (Nat.le_of_ble_eq_true rfl) ?_
        refine e_gt d_X11_asksOn_45 ?_
        exact e_vret d_X11_asksOn_77 rfl (⟨rfl, MqR_ok (S := (0, [(2, (tok tb L s).1 :: sdr (rkc (tok tb L s).1) e)], nd + 1, kd, cdA cd (nd + 1) (stk (rkc (tok tb L s).1) e), my, ne)) (by unfold gAsk3; rw [if_neg (by omega), if_pos h1213]) (MCs_mk (by decide) ⟨_, _, _, _, _, _, _, _, _, H_md37.s, htk37⟩ (hGs37.fr ((Fr.refl [66] _).up (by decide)) (by simp)) (hN37.fr ((Fr.refl [66] _).up (by decide)) (by simp))), (fr_37.up (k := 66) (by decide)).mono (by decide)⟩)
      · have c25 : (tok tb L s).1 = 13 := (tk_wd htk (w := 7) (by decide)).mp (bI_1.mp (bI_z.resolve_left c25))
        have hen : (407 : Int32) = nI (encO (tok tb L s).1) := by rw [c25]; rfl
        refine e_sipush (v := 407) d_X11_asksOn_28 (by decide) ?_
        refine e_gt d_X11_asksOn_31 ?_
        rw [hen]
        refine e_callRVV d_X11_asksOn_37 l_X11_asksOn_278 H_md rfl rfl (s_X11_waitsFor (t := (tok tb L s).1) hP hGs hN (mr_vE he h1213) (vEF he) (by omega) (by omega) (by simp [nW]; omega) (by simp) H_mtape hmt (tok_nx hsL (by omega)).2.2 hL) rfl rfl (Nat.le_of_ble_eq_true rfl) (fun h_37 q_37 s_37 => ?_)
        obtain ⟨hP37, hGs37, hN37, fr_37⟩ := q_37
        obtain ⟨so37, to37, mfl37, mfa37, mdn37, mup37, mlo37, mgu37, mgl37, H_md37, htk37⟩ := id hP37
        refine e_aloadn d_X11_asksOn_40 rfl ?_
        refine e_iconst (v := 0) d_X11_asksOn_41 (by decide) ?_
        refine e_puti d_X11_asksOn_42 f_X11_260 H_md37 (Nat.le_of_ble_eq_true rfl) ?_
        refine e_gt d_X11_asksOn_45 ?_
        exact e_vret d_X11_asksOn_77 rfl (⟨rfl, MqR_ok (S := (0, [(2, (tok tb L s).1 :: sdr (rkc (tok tb L s).1) e)], nd + 1, kd, cdA cd (nd + 1) (stk (rkc (tok tb L s).1) e), my, ne)) (by unfold gAsk3; rw [if_neg (by omega), if_pos h1213]) (MCs_mk (by decide) ⟨_, _, _, _, _, _, _, _, _, H_md37.s, htk37⟩ (hGs37.fr ((Fr.refl [66] _).up (by decide)) (by simp)) (hN37.fr ((Fr.refl [66] _).up (by decide)) (by simp))), (fr_37.up (k := 66) (by decide)).mono (by decide)⟩)

theorem s_X11_number {h : AH} {tb : Nat → Nat} {L s op fs ws nd r : Nat} {st nk : Int32} {hi : Nat} {mt : Nat → Int32} (hP : MdP h tb L s 0 (-1) op fs ws nd r st nk) (H_mtape : Hs h 69 (aB 300 mt)) (hmt : ∀ k, k < 300 → mt k = sbI (tb k) ∧ tb k < 256) (hsL : s ≤ L) (hL : L ≤ 300) (hhi : hi ≤ 9999) : Sp M_X11_number (0, 0) h [.ref 66, .int 0, .int (nI hi)] (rI (fun x h' => (((tok tb L s).1 < 100 ∧ x = 0 ∧ MdE h' 1 s) ∨ (100 ≤ (tok tb L s).1 ∧ hi < (tok tb L s).1 - 100 ∧ x = 0 ∧ MdE h' 2 s) ∨ (100 ≤ (tok tb L s).1 ∧ (tok tb L s).1 - 100 ≤ hi ∧ x = nI ((tok tb L s).1 - 100) ∧ MdP h' tb L (run isB tb L (tok tb L s).2) 0 (-1) op fs ws nd r st nk)) ∧ Fr [66] h h')) := by
  refine ⟨Nat.le_of_ble_eq_true rfl, ?_⟩
  show E _ _ _ 0 h [some (.ref 66), some (.int 0), some (.int (nI hi)), none] []
  obtain ⟨so, to, mfl, mfa, mdn, mup, mlo, mgu, mgl, H_md, htk⟩ := id hP
  refine e_aloadn d_X11_number_0 rfl ?_
  refine e_get d_X11_number_1 f_X11_216 H_md rfl ?_
  refine e_if_gt d_X11_number_4 (fun z => by first | exact absurd (by decide) z | exact absurd z (by decide)) (fun _ => ?_)
  refine e_aloadn d_X11_number_7 rfl ?_
  refine e_get d_X11_number_8 f_X11_200 H_md rfl ?_
  refine e_iconst (v := 2) d_X11_number_11 (by decide) ?_
  refine e_icmp_eq d_X11_number_12 (fun c12 => ?_) (fun c12 => ?_)
  · have c12 : 100 ≤ (tok tb L s).1 := (tk_num htk).mp c12
    obtain ⟨v, hv1, hv2, hv3⟩ := tk_v htk c12
    subst hv1
    refine e_aloadn d_X11_number_22 rfl ?_
    refine e_get d_X11_number_23 f_X11_212 H_md rfl ?_
    refine e_iloadn d_X11_number_26 rfl ?_
    refine e_iloadn d_X11_number_27 rfl ?_
    refine e_callSI d_X11_number_28 l_X11_number_101 (s_X11_in) rfl rfl (Nat.le_of_ble_eq_true rfl) ?_
    refine e_if_ne d_X11_number_31 (fun c31 => ?_) (fun c31 => ?_)
    · have c31 := i_le (a := v) (b := hi) (by omega) (by omega) (bI_1.mp (bI_z.resolve_left c31)).2
      refine e_aloadn d_X11_number_41 rfl ?_
      refine e_get d_X11_number_42 f_X11_212 H_md rfl ?_
      refine e_istoren d_X11_number_45 (by decide) rfl ?_
      refine e_aloadn d_X11_number_46 rfl ?_
      refine e_callRVV d_X11_number_47 l_X11_number_237 H_md rfl rfl (s_X11_next2 hP H_mtape hmt (tok_nx hsL (by omega)).2.2 hL) rfl rfl (Nat.le_of_ble_eq_true rfl) (fun h_47 q_47 s_47 => ?_)
      refine e_iloadn d_X11_number_50 rfl ?_
      exact e_iret d_X11_number_51 rfl (rfl) (⟨_, rfl, Or.inr (Or.inr ⟨c12, by omega, by rw [show (tok tb L s).1 - 100 = v by omega], q_47.1⟩), q_47.2⟩)
    · have c31 : hi < v := Nat.lt_of_not_le (fun z => bI_0.mp (by first | exact c31 | exact Decidable.of_not_not c31) (show (0 : Int32) ≤ nI v ∧ nI v ≤ nI hi from ⟨(nI_leI (a := 0) (by decide) (by omega)).mpr (Nat.zero_le _), (nI_leI (by omega) (by omega)).mpr z⟩))
      refine e_aloadn d_X11_number_34 rfl ?_
      refine e_iconst (v := 2) d_X11_number_35 (by decide) ?_
      refine e_callRVV d_X11_number_36 l_X11_number_231 H_md rfl rfl (s_X11_errs2 (q := 2) hP) rfl rfl (Nat.le_of_ble_eq_true rfl) (fun h_36 q_36 s_36 => ?_)
      refine e_iloadn d_X11_number_39 rfl ?_
      exact e_iret d_X11_number_40 rfl (rfl) (⟨_, rfl, Or.inr (Or.inl ⟨c12, by omega, rfl, q_36.1⟩), q_36.2⟩)
  · have c12 : ¬ 100 ≤ (tok tb L s).1 := fun z => c12 ((tk_num htk).mpr z)
    refine e_aloadn d_X11_number_15 rfl ?_
    refine e_iconst (v := 1) d_X11_number_16 (by decide) ?_
    refine e_callRVV d_X11_number_17 l_X11_number_231 H_md rfl rfl (s_X11_errs2 (q := 1) hP) rfl rfl (Nat.le_of_ble_eq_true rfl) (fun h_17 q_17 s_17 => ?_)
    refine e_iloadn d_X11_number_20 rfl ?_
    exact e_iret d_X11_number_21 rfl (rfl) (⟨_, rfl, Or.inl ⟨by omega, rfl, q_17.1⟩, q_17.2⟩)
