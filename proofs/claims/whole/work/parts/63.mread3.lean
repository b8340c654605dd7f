/-! THE MODEL'S READER: what is over -/
theorem s_X11_waitsFor {h : AH} {tb : Nat → Nat} {L s op nd r f t : Nat} {st nk : Int32} {w : List Nat} {r0 : LV} {kd : Nat → Nat} {cd : Nat → List Nat} {my ne : Int32} {mt : Nat → Int32} (hP : MdP h tb L s 0 (-1) op (r0.length + 1) (w.length + nW r0) nd r st nk) (hGs : MGs h ((f, w) :: r0)) (hN : MN h nd true kd cd my ne r) (hqq : ∀ x, x ∈ w → (mrk t ≤ mrk x ↔ rkc t ≤ rkc x)) (hfa : ∀ x, x ∈ w → x = 12 ∨ x = 13 ∨ x = 27 ∨ x = 28 ∨ x = 29 ∨ x = 30) (ht : t = 12 ∨ t = 13 ∨ t = 27 ∨ t = 28 ∨ t = 29 ∨ t = 30) (hr4 : r + w.length ≤ 400) (hw8 : w.length + nW r0 < 80) (hl0 : r0.length < 39) (H_mtape : Hs h 69 (aB 300 mt)) (hmt : ∀ k, k < 300 → mt k = sbI (tb k) ∧ tb k < 256) (ha : (tok tb L s).2 ≤ L) (hL : L ≤ 300)  : Sp M_X11_waitsFor (0, 0) h [.ref 66, .int (nI (encO t))] (rV (fun h' => MdP h' tb L (run isB tb L (tok tb L s).2) 0 (-1) op (r0.length + 1) ((t :: (sdr (rkc t) w)).length + nW r0) nd (r + (stk (rkc t) w).length) st nk ∧ MGs h' ((f, t :: (sdr (rkc t) w)) :: r0) ∧ MN h' nd true kd (cdA cd (nd + 1) (stk (rkc t) w)) my ne (r + (stk (rkc t) w).length) ∧ Fr [66, 78, 79, 83, 84] h h')) := by
  refine ⟨Nat.le_of_ble_eq_true rfl, ?_⟩
  show E _ _ _ 0 h [some (.ref 66), some (.int (nI (encO t)))] []
  obtain ⟨so, to, mfl, mfa, mdn, mup, mlo, mgu, mgl, H_md, htk⟩ := id hP
  obtain ⟨fr, cm, wa, wf, H_mfr, H_mco, H_mwa, H_mwf, hG⟩ := id hGs
  have hsl := stk_len (rkc t) w
  refine e_aloadn d_X11_waitsFor_0 rfl ?_
  refine e_iloadn d_X11_waitsFor_1 rfl ?_
  refine e_callSI d_X11_waitsFor_2 l_X11_waitsFor_243 (s_X11_rank ht) rfl rfl (Nat.le_of_ble_eq_true rfl) ?_
  refine e_callRVV d_X11_waitsFor_5 l_X11_waitsFor_251 H_md rfl rfl (s_X11_works (q := mrk t) (R := rkc t) hP hGs hN hqq hfa hr4 (by omega) (by have := mrk_le t; omega) hl0) rfl rfl (Nat.le_of_ble_eq_true rfl) (fun h_5 q_5 s_5 => ?_)
  obtain ⟨hP2, hGs2, hN2, fr_5⟩ := q_5
  obtain ⟨so2, to2, mfl2, mfa2, mdn2, mup2, mlo2, mgu2, mgl2, H_md2, htk2⟩ := id hP2
  obtain ⟨fr2, cm2, wa2, wf2, H_mfr2, H_mco2, H_mwa2, H_mwf2, hG2⟩ := id hGs2
  refine e_aloadn d_X11_waitsFor_8 rfl ?_
  refine e_get d_X11_waitsFor_9 f_X11_51 H_md2 rfl ?_
  refine e_aloadn d_X11_waitsFor_12 rfl ?_
  refine e_get d_X11_waitsFor_13 f_X11_240 H_md2 rfl ?_
  refine e_iloadn d_X11_waitsFor_16 rfl ?_
  refine e_iastN (k := (nW r0 + (sdr (rkc t) w).length)) d_X11_waitsFor_17 H_mwa2 (congrArg nI (Nat.add_comm _ _)) (by omega) (by omega) ?_
  refine e_aloadn d_X11_waitsFor_18 rfl ?_
  refine e_get d_X11_waitsFor_19 f_X11_54 (H_md2.n (by decide)) rfl ?_
  refine e_aloadn d_X11_waitsFor_22 rfl ?_
  refine e_get d_X11_waitsFor_23 f_X11_240 (H_md2.n (by decide)) rfl ?_
  refine e_aloadn d_X11_waitsFor_26 rfl ?_
  refine e_get d_X11_waitsFor_27 f_X11_225 (H_md2.n (by decide)) rfl ?_
  refine e_iastN (k := (nW r0 + (sdr (rkc t) w).length)) d_X11_waitsFor_30 (H_mwf2.n (by decide)) (congrArg nI (Nat.add_comm _ _)) (by omega) (by omega) ?_
  refine e_aloadn d_X11_waitsFor_31 rfl ?_
  refine e_dup d_X11_waitsFor_32 rfl ?_
  refine e_get d_X11_waitsFor_33 f_X11_240 ((H_md2.n (by decide)).n (by decide)) rfl ?_
  refine e_iconst (v := 1) d_X11_waitsFor_36 (by decide) ?_
  refine e_iadd d_X11_waitsFor_37 ?_
  rw [nI_1, show (sdr (rkc t) w).length + nW r0 + 1 = (t :: (sdr (rkc t) w)).length + nW r0 from by simp; omega]
  refine e_puti d_X11_waitsFor_38 f_X11_240 ((H_md2.n (by decide)).n (by decide)) (Nat.le_of_ble_eq_true rfl) ?_
  refine e_aloadn d_X11_waitsFor_41 rfl ?_
  refine e_callRVV d_X11_waitsFor_42 l_X11_waitsFor_237 (((H_md2.n (by decide)).n (by decide)).s) rfl rfl (s_X11_next2 (MdP.mk (((H_md2.n (by decide)).n (by decide)).s) htk2) (fr_5.hs H_mtape (by decide) |>.n (by decide) |>.n (by decide) |>.n (by decide)) hmt ha hL) rfl rfl (Nat.le_of_ble_eq_true rfl) (fun h_42 q_42 s_42 => ?_)
  exact e_vret d_X11_waitsFor_45 rfl (⟨rfl, q_42.1, ⟨fr2, cm2, _, _, q_42.2.hs (((H_mfr2.n (by decide)).n (by decide)).n (by decide)) (by decide), q_42.2.hs (((H_mco2.n (by decide)).n (by decide)).n (by decide)) (by decide), q_42.2.hs ((H_mwa2.s.n (by decide)).n (by decide)) (by decide), q_42.2.hs ((Hs.s (H_mwf2.n (by decide))).n (by decide)) (by decide), hG2.1, hG2.2.1, ⟨va_up_self _ _ _, va_up_self _ _ _, hG2.2.2.1.up (Nat.le_refl _) (Nat.le_refl _)⟩, hG2.2.2.2.upw (Nat.le_add_right _ _) (Nat.le_add_right _ _)⟩, hN2.fr (((((Fr.refl [66, 78, 79] _).up (by decide)).up (by decide)).up (by decide)).trans (q_42.2.mono (by decide))) (by simp), (((((fr_5.mono (by decide)).up (by decide)).up (by decide)).up (by decide)).trans (q_42.2.mono (by decide)))⟩)

theorem mfr_lt {f : Nat} (h : f ≤ 26) : mfr f ≤ 20 := by unfold mfr; split <;> omega
theorem mfr_eq {f c : Nat} (hc : c = 7 ∨ c = 3 ∨ c = 6 ∨ c = 4 ∨ c = 1 ∨ c = 2) : mfr f = c ↔ f = c := by
  unfold mfr
  split <;> omega

theorem s_X11_oneIsOver {h : AH} {tb : Nat → Nat} {L s nd r : Nat} {st nk : Int32} {kk : Nat} {G : LV} {kd : Nat → Nat} {cd : Nat → List Nat} {my ne : Int32} (hP : MdP h tb L s 0 (-1) (nO G) G.length (nW G) nd r st nk) (hGs : MGs h G) (hN : MN h nd true kd cd my ne r) (hs : shI kk G) (hr4 : r + neg G ≤ 400) (hgl : G.length < 40) : Sp M_X11_oneIsOver (0, 0) h [.ref 66] (rV (fun h' => MdP h' tb L s 0 (-1) (nO (unn G)) (unn G).length (nW (unn G)) nd (r + neg G) 2 nk ∧ MGs h' (unn G) ∧ MN h' nd true kd (cdA cd (nd + 1) (List.replicate (neg G) 31)) my ne (r + neg G) ∧ Fr [66, 83, 84] h h')) := by
  refine ⟨Nat.le_of_ble_eq_true rfl, ?_⟩
  show E _ _ _ 0 h [some (.ref 66)] []
  suffices hA : ∀ (G1 : LV) (k : AH) (cd1 : Nat → List Nat) (r1 : Nat), MdP k tb L s 0 (-1) (nO G1) G1.length (nW G1) nd r1 st nk → MGs k G1 → MN k nd true kd cd1 my ne r1 → shI kk G1 → r1 + neg G1 ≤ 400 → G1.length < 40 → unn G1 = unn G → cdA cd1 (nd + 1) (List.replicate (neg G1) 31) = cdA cd (nd + 1) (List.replicate (neg G) 31) → r1 + neg G1 = r + neg G → Fr [66, 83, 84] h k → E M_X11_oneIsOver (0, 0) (rV (fun h' => MdP h' tb L s 0 (-1) (nO (unn G)) (unn G).length (nW (unn G)) nd (r + neg G) 2 nk ∧ MGs h' (unn G) ∧ MN h' nd true kd (cdA cd (nd + 1) (List.replicate (neg G) 31)) my ne (r + neg G) ∧ Fr [66, 83, 84] h h')) 0 k [some (.ref 66)] [] from hA G h cd r hP hGs hN hs hr4 hgl rfl rfl rfl (Fr.refl _ _)
  intro G1
  induction G1 with
  | nil => intro k cd1 r1 hP hGs hN hs; exact hs.elim
  | cons p r ih =>
    obtain ⟨f, w⟩ := p
    intro k cd1 r1 hP hGs hN hs hr4 hgl e1 e2 e3 hF
    obtain ⟨so, to, mfl, mfa, mdn, mup, mlo, mgu, mgl, H_md, htk⟩ := id hP
    obtain ⟨fr, cm, wa, wf, H_mfr, H_mco, H_mwa, H_mwf, hG⟩ := id hGs
    rw [show ((f, w) :: r).length = r.length + 1 from rfl] at H_md
    have hfl : f ≤ 26 := by
      rcases hs with ⟨q, -⟩ | ⟨q, -⟩ | q
      · omega
      · omega
      · rcases q.2 with z | z <;> omega
    by_cases hf : f = 7
    · have hwr0 := hs
      subst hf
      have hwr : w = [] ∧ shI kk r := by
        rcases hs with ⟨q, -⟩ | ⟨-, q⟩ | q
        · omega
        · exact q
        · rcases q.2 with z | z <;> omega
      obtain ⟨hw, hsr⟩ := hwr
      have hu1 : unn ((7, w) :: r) = unn r := by simp only [unn, if_true]
      have hu2 : neg ((7, w) :: r) = neg r + 1 := by simp only [neg, if_true]
      rw [hu2] at hr4
      refine e_aloadn d_X11_oneIsOver_0 rfl ?_
      refine e_callVI d_X11_oneIsOver_1 l_X11_oneIsOver_275 H_md rfl rfl (s_X11_top H_md H_mfr (by simp at hgl; omega)) rfl rfl (Nat.le_of_ble_eq_true rfl) ?_
      rw [hG.1]
      refine e_bipush (v := 7) d_X11_oneIsOver_4 (by decide) ?_
      refine e_icmp_ne d_X11_oneIsOver_6 (fun z => by first | exact absurd (fun z => z rfl) z | exact absurd z (fun z => z rfl)) (fun _ => ?_)
      refine e_aloadn d_X11_oneIsOver_9 rfl ?_
      refine e_dup d_X11_oneIsOver_10 rfl ?_
      refine e_get d_X11_oneIsOver_11 f_X11_225 H_md rfl ?_
      refine e_iconst (v := 1) d_X11_oneIsOver_14 (by decide) ?_
      refine e_isub d_X11_oneIsOver_15 ?_
      rw [show nI (r.length + 1) - 1 = nI r.length from nI_m]
      refine e_puti d_X11_oneIsOver_16 f_X11_225 H_md (Nat.le_of_ble_eq_true rfl) ?_
      refine e_aloadn d_X11_oneIsOver_19 rfl ?_
      refine e_dup d_X11_oneIsOver_20 rfl ?_
      refine e_get d_X11_oneIsOver_21 f_X11_228 H_md.s rfl ?_
      refine e_iconst (v := 1) d_X11_oneIsOver_24 (by decide) ?_
      refine e_isub d_X11_oneIsOver_25 ?_
      rw [show nI (nO ((7, w) :: r)) - 1 = nI (nO r) from by rw [show nO ((7, w) :: r) = nO r + 1 from by simp [nO]; omega]; exact nI_m]
      refine e_puti d_X11_oneIsOver_26 f_X11_228 H_md.s (Nat.le_of_ble_eq_true rfl) ?_
      refine e_aloadn d_X11_oneIsOver_29 rfl ?_
      refine e_sipush (v := 402) d_X11_oneIsOver_30 (by decide) ?_
      refine e_iconst (v := 0) d_X11_oneIsOver_33 (by decide) ?_
      refine e_callRVV d_X11_oneIsOver_34 l_X11_oneIsOver_247 H_md.s.s rfl rfl (s_X11_emits2 (t := 31) (MdP.mk H_md.s.s htk) (hN.fr (S := [66]) (((Fr.refl _ _).up (by decide)).up (by decide)) (by simp)) (by omega) rfl (fun z => by omega) (fun z => by omega)) rfl rfl (Nat.le_of_ble_eq_true rfl) (fun h_9 q_9 s_9 => ?_)
      obtain ⟨hP2, hN2, fr_9⟩ := q_9
      refine e_gt d_X11_oneIsOver_37 ?_
      rw [hw, show nW ((7, []) :: r) = nW r from by simp [nW]] at hP2
      refine ih h_9 (cdA cd1 (nd + 1) [31]) (r1 + 1) hP2 ⟨fr, cm, wa, wf, fr_9.hs ((H_mfr.n (by decide)).n (by decide)) (by decide), fr_9.hs ((H_mco.n (by decide)).n (by decide)) (by decide), fr_9.hs ((H_mwa.n (by decide)).n (by decide)) (by decide), fr_9.hs ((H_mwf.n (by decide)).n (by decide)) (by decide), hG.2.2.2⟩ hN2 hsr (by omega) (by simp at hgl; omega) (by rw [← e1, hu1]) (by rw [← e2, hu2, cdA_app]; rfl) (by rw [← e3, hu2]; omega) ?_
      exact hF.trans ((((Fr.refl _ _).up (by decide)).up (by decide)).trans fr_9)
    · have hu1 : unn ((f, w) :: r) = (f, w) :: r := by simp only [unn, if_neg hf]
      have hu2 : neg ((f, w) :: r) = 0 := by simp only [neg, if_neg hf]
      refine e_aloadn d_X11_oneIsOver_0 rfl ?_
      refine e_callVI d_X11_oneIsOver_1 l_X11_oneIsOver_275 H_md rfl rfl (s_X11_top H_md H_mfr (by simp at hgl; omega)) rfl rfl (Nat.le_of_ble_eq_true rfl) ?_
      rw [hG.1]
      refine e_bipush (v := 7) d_X11_oneIsOver_4 (by decide) ?_
      refine e_icmp_ne d_X11_oneIsOver_6 (fun _ => ?_) (fun z => by first | exact absurd (fun z => hf ((mfr_eq (by decide)).mp ((nI_eq (b := 7) (by have := mfr_lt hfl; omega) (by decide)).mp z))) z | exact absurd z (fun z => hf ((mfr_eq (by decide)).mp ((nI_eq (b := 7) (by have := mfr_lt hfl; omega) (by decide)).mp z))))
      refine e_aloadn d_X11_oneIsOver_40 rfl ?_
      refine e_iconst (v := 2) d_X11_oneIsOver_41 (by decide) ?_
      refine e_puti d_X11_oneIsOver_42 f_X11_260 H_md (Nat.le_of_ble_eq_true rfl) ?_
      exact e_vret d_X11_oneIsOver_45 rfl (⟨rfl, by rw [← e1, ← e3, hu1, hu2]; exact MdP.mk H_md.s htk, by rw [← e1, hu1]; exact hGs.fr ((Fr.refl [66] _).up (by decide)) (by simp), by rw [← e2, ← e3, hu2]; exact (show MN _ _ _ _ _ _ _ _ from by rw [show List.replicate 0 31 = [] from rfl, cdA_nil]; exact hN.fr ((Fr.refl [66] _).up (by decide)) (by simp)), hF.up (by decide)⟩)

theorem s_X11_askIsOver {h : AH} {tb : Nat → Nat} {L s nd r : Nat} {st nk : Int32} {G : LV} {kd : Nat → Nat} {cd : Nat → List Nat} {my ne : Int32} (hP : MdP h tb L s 0 (-1) (nO G) G.length (nW G) nd r st nk) (hGs : MGs h G) (hN : MN h nd true kd cd my ne r) (hs : shE G) (hr4 : r + nts G ≤ 400) (hgl : G.length < 40) : Sp M_X11_askIsOver (0, 0) h [.ref 66] (rV (fun h' => MdP h' tb L s 0 (-1) (nO (unt G)) (unt G).length (nW (unt G)) nd (r + nts G) 3 nk ∧ MGs h' (unt G) ∧ MN h' nd true kd (cdA cd (nd + 1) (List.replicate (nts G) 11)) my ne (r + nts G) ∧ Fr [66, 83, 84] h h')) := by
  refine ⟨Nat.le_of_ble_eq_true rfl, ?_⟩
  show E _ _ _ 0 h [some (.ref 66)] []
  suffices hA : ∀ (G1 : LV) (k : AH) (cd1 : Nat → List Nat) (r1 : Nat), MdP k tb L s 0 (-1) (nO G1) G1.length (nW G1) nd r1 st nk → MGs k G1 → MN k nd true kd cd1 my ne r1 → shE G1 → r1 + nts G1 ≤ 400 → G1.length < 40 → unt G1 = unt G → cdA cd1 (nd + 1) (List.replicate (nts G1) 11) = cdA cd (nd + 1) (List.replicate (nts G) 11) → r1 + nts G1 = r + nts G → Fr [66, 83, 84] h k → E M_X11_askIsOver (0, 0) (rV (fun h' => MdP h' tb L s 0 (-1) (nO (unt G)) (unt G).length (nW (unt G)) nd (r + nts G) 3 nk ∧ MGs h' (unt G) ∧ MN h' nd true kd (cdA cd (nd + 1) (List.replicate (nts G) 11)) my ne (r + nts G) ∧ Fr [66, 83, 84] h h')) 0 k [some (.ref 66)] [] from hA G h cd r hP hGs hN hs hr4 hgl rfl rfl rfl (Fr.refl _ _)
  intro G1
  induction G1 with
  | nil => intro k cd1 r1 hP hGs hN hs; exact hs.elim
  | cons p r ih =>
    obtain ⟨f, w⟩ := p
    intro k cd1 r1 hP hGs hN hs hr4 hgl e1 e2 e3 hF
    obtain ⟨so, to, mfl, mfa, mdn, mup, mlo, mgu, mgl, H_md, htk⟩ := id hP
    obtain ⟨fr, cm, wa, wf, H_mfr, H_mco, H_mwa, H_mwf, hG⟩ := id hGs
    rw [show ((f, w) :: r).length = r.length + 1 from rfl] at H_md
    have hfl : f ≤ 26 := by
      rcases hs with ⟨q, -⟩ | ⟨q, -⟩ <;> omega
    by_cases hf : f = 3
    · have hwr0 := hs
      subst hf
      have hwr : w = [] ∧ shE r := by
        rcases hs with ⟨q, -⟩ | ⟨-, q⟩
        · omega
        · exact q
      obtain ⟨hw, hsr⟩ := hwr
      have hu1 : unt ((3, w) :: r) = unt r := by simp only [unt, if_true]
      have hu2 : nts ((3, w) :: r) = nts r + 1 := by simp only [nts, if_true]
      rw [hu2] at hr4
      refine e_aloadn d_X11_askIsOver_0 rfl ?_
      refine e_callVI d_X11_askIsOver_1 l_X11_askIsOver_275 H_md rfl rfl (s_X11_top H_md H_mfr (by simp at hgl; omega)) rfl rfl (Nat.le_of_ble_eq_true rfl) ?_
      rw [hG.1]
      refine e_iconst (v := 3) d_X11_askIsOver_4 (by decide) ?_
      refine e_icmp_ne d_X11_askIsOver_5 (fun z => by first | exact absurd (fun z => z rfl) z | exact absurd z (fun z => z rfl)) (fun _ => ?_)
      refine e_aloadn d_X11_askIsOver_8 rfl ?_
      refine e_dup d_X11_askIsOver_9 rfl ?_
      refine e_get d_X11_askIsOver_10 f_X11_225 H_md rfl ?_
      refine e_iconst (v := 1) d_X11_askIsOver_13 (by decide) ?_
      refine e_isub d_X11_askIsOver_14 ?_
      rw [show nI (r.length + 1) - 1 = nI r.length from nI_m]
      refine e_puti d_X11_askIsOver_15 f_X11_225 H_md (Nat.le_of_ble_eq_true rfl) ?_
      refine e_aloadn d_X11_askIsOver_18 rfl ?_
      refine e_dup d_X11_askIsOver_19 rfl ?_
      refine e_get d_X11_askIsOver_20 f_X11_228 H_md.s rfl ?_
      refine e_iconst (v := 1) d_X11_askIsOver_23 (by decide) ?_
      refine e_isub d_X11_askIsOver_24 ?_
      rw [show nI (nO ((3, w) :: r)) - 1 = nI (nO r) from by rw [show nO ((3, w) :: r) = nO r + 1 from by simp [nO]; omega]; exact nI_m]
      refine e_puti d_X11_askIsOver_25 f_X11_228 H_md.s (Nat.le_of_ble_eq_true rfl) ?_
      refine e_aloadn d_X11_askIsOver_28 rfl ?_
      refine e_sipush (v := 405) d_X11_askIsOver_29 (by decide) ?_
      refine e_iconst (v := 0) d_X11_askIsOver_32 (by decide) ?_
      refine e_callRVV d_X11_askIsOver_33 l_X11_askIsOver_247 H_md.s.s rfl rfl (s_X11_emits2 (t := 11) (MdP.mk H_md.s.s htk) (hN.fr (S := [66]) (((Fr.refl _ _).up (by decide)).up (by decide)) (by simp)) (by omega) rfl (fun z => by omega) (fun z => by omega)) rfl rfl (Nat.le_of_ble_eq_true rfl) (fun h_9 q_9 s_9 => ?_)
      obtain ⟨hP2, hN2, fr_9⟩ := q_9
      refine e_gt d_X11_askIsOver_36 ?_
      rw [hw, show nW ((3, []) :: r) = nW r from by simp [nW]] at hP2
      refine ih h_9 (cdA cd1 (nd + 1) [11]) (r1 + 1) hP2 ⟨fr, cm, wa, wf, fr_9.hs ((H_mfr.n (by decide)).n (by decide)) (by decide), fr_9.hs ((H_mco.n (by decide)).n (by decide)) (by decide), fr_9.hs ((H_mwa.n (by decide)).n (by decide)) (by decide), fr_9.hs ((H_mwf.n (by decide)).n (by decide)) (by decide), hG.2.2.2⟩ hN2 hsr (by omega) (by simp at hgl; omega) (by rw [← e1, hu1]) (by rw [← e2, hu2, cdA_app]; rfl) (by rw [← e3, hu2]; omega) ?_
      exact hF.trans ((((Fr.refl _ _).up (by decide)).up (by decide)).trans fr_9)
    · have hu1 : unt ((f, w) :: r) = (f, w) :: r := by simp only [unt, if_neg hf]
      have hu2 : nts ((f, w) :: r) = 0 := by simp only [nts, if_neg hf]
      refine e_aloadn d_X11_askIsOver_0 rfl ?_
      refine e_callVI d_X11_askIsOver_1 l_X11_askIsOver_275 H_md rfl rfl (s_X11_top H_md H_mfr (by simp at hgl; omega)) rfl rfl (Nat.le_of_ble_eq_true rfl) ?_
      rw [hG.1]
      refine e_iconst (v := 3) d_X11_askIsOver_4 (by decide) ?_
      refine e_icmp_ne d_X11_askIsOver_5 (fun _ => ?_) (fun z => by first | exact absurd (fun z => hf ((mfr_eq (by decide)).mp ((nI_eq (b := 3) (by have := mfr_lt hfl; omega) (by decide)).mp z))) z | exact absurd z (fun z => hf ((mfr_eq (by decide)).mp ((nI_eq (b := 3) (by have := mfr_lt hfl; omega) (by decide)).mp z))))
      refine e_aloadn d_X11_askIsOver_39 rfl ?_
      refine e_iconst (v := 3) d_X11_askIsOver_40 (by decide) ?_
      refine e_puti d_X11_askIsOver_41 f_X11_260 H_md (Nat.le_of_ble_eq_true rfl) ?_
      exact e_vret d_X11_askIsOver_44 rfl (⟨rfl, by rw [← e1, ← e3, hu1, hu2]; exact MdP.mk H_md.s htk, by rw [← e1, hu1]; exact hGs.fr ((Fr.refl [66] _).up (by decide)) (by simp), by rw [← e2, ← e3, hu2]; exact (show MN _ _ _ _ _ _ _ _ from by rw [show List.replicate 0 11 = [] from rfl, cdA_nil]; exact hN.fr ((Fr.refl [66] _).up (by decide)) (by simp)), hF.up (by decide)⟩)
