/-! THE MODEL'S READER: clauses' ends, what opens -/
theorem s_X11_emits3 {h : AH} {r : Nat} {x y : Int32} {no nv : Nat → Int32} {mtp mfl mfa mln mat mtk mso mto mwr mwp mop mfs mws mst mnc mnk mdn : Int32} {mup mlo mgu mgl : Int64} (H_md : Hs h 66 (oMd mtp mfl mfa mup mlo mln mat mtk mso mto mwr mwp mop mfs mws mst mnc mnk (nI r) mdn mgu mgl)) (H_mno : Hs h 83 (aI 400 no)) (H_mnv : Hs h 84 (aI 400 nv)) (hr : r < 400) : Sp M_X11_emits (0, 0) h [.ref 66, .int x, .int y] (rV (fun h' => Hs h' 66 (oMd mtp mfl mfa mup mlo mln mat mtk mso mto mwr mwp mop mfs mws mst mnc mnk (nI (r + 1)) mdn mgu mgl) ∧ Hs h' 83 (aI 400 (va_up no r x)) ∧ Hs h' 84 (aI 400 (va_up nv r y)) ∧ Fr [66, 83, 84] h h')) := (s_X11_emits H_md H_mno H_mnv hr).end (fun v h' z => by
  obtain ⟨rfl, rfl⟩ := z
  exact ⟨rfl, Hs.s (c := oMd mtp mfl mfa mup mlo mln mat mtk mso mto mwr mwp mop mfs mws mst mnc mnk (nI r) mdn mgu mgl) ((H_md.n (by decide)).n (by decide)), (H_mno.s.n (by decide)).n (by decide), (Hs.s (H_mnv.n (by decide))).n (by decide), (((Fr.refl _ _).up (by decide)).up (by decide)).up (by decide)⟩)

theorem MGs_nil {h : AH} {G : LV} (T : MGs h G) : MGs h [] := by
  obtain ⟨a, b, c, d, h1, h2, h3, h4, -⟩ := T
  exact ⟨a, b, c, d, h1, h2, h3, h4, trivial⟩
theorem MN_end {h : AH} {nd r r1 : Nat} {kd : Nat → Nat} {cd : Nat → List Nat} {my ne : Int32} {nw nn na no nv : Nat → Int32} {y : Int32} (h6 : ∀ i, i < nd → nw i = nI (kd i - 14) ∧ (kd i = 14 → nn i = my) ∧ (kd i = 15 → nn i = ne) ∧ (16 ≤ kd i → na i = nI (mtt kd cd i) ∧ no (mtt kd cd i + (cd i).length) = 408 ∧ CLp no nv (mtt kd cd i) (cd i))) (hr : r = mtt kd cd nd + (cd nd).length) (hk : 16 ≤ kd nd) (hr1 : r1 = mtt kd cd nd + (cd nd).length) (c1 : nw nd = nI (kd nd - 14)) (c2 : na nd = nI (mtt kd cd nd)) (c3 : CLp no nv (mtt kd cd nd) (cd nd)) (g1 : Hs h 80 (aI 10 nw)) (g2 : Hs h 81 (aI 10 nn)) (g3 : Hs h 82 (aI 10 na)) (g4 : Hs h 83 (aI 400 (va_up no r 408))) (g5 : Hs h 84 (aI 400 (va_up nv r y))) : MN h (nd + 1) false kd cd my ne (r + 1) := by
  refine ⟨nw, nn, na, _, _, g1, g2, g3, g4, g5, fun i hi => ?_, ?_, fun z => by cases z⟩
  · by_cases e : i = nd
    · subst e
      exact ⟨c1, fun z => by omega, fun z => by omega, fun _ => ⟨c2, by rw [← hr, va_up_self], CLp_far c3 (by omega)⟩⟩
    · obtain ⟨q1, q2, q3, q4⟩ := h6 i (by omega)
      refine ⟨q1, q2, q3, fun hk9 => ?_⟩
      obtain ⟨q5, q6, q7⟩ := q4 hk9
      have hlt : mtt kd cd i + ((cd i).length + 1) ≤ mtt kd cd nd := by
        have := mtt_le (kd := kd) (cd := cd) (n := i + 1) (m := nd) (by omega)
        rw [mtt_S, if_pos hk9] at this; exact this
      exact ⟨q5, by rw [va_up_ne _ _ (by omega)]; exact q6, CLp_far q7 (by omega)⟩
  · rw [mtt_S, if_pos hk, hr]; simp; omega

theorem s_X11_clauseIsOver {h : AH} {tb : Nat → Nat} {L s nd r f : Nat} {st nk : Int32} {w : List Nat} {kd : Nat → Nat} {cd : Nat → List Nat} {my ne : Int32} {mt : Nat → Int32} (hP : MdP h tb L s 0 (-1) 0 1 (w.length + 0) nd r st nk) (hGs : MGs h [(f, w)]) (hN : MN h nd true kd cd my ne r) (hfa : ∀ x, x ∈ w → x = 12 ∨ x = 13 ∨ x = 27 ∨ x = 28 ∨ x = 29 ∨ x = 30) (hk : 16 ≤ kd nd) (hr4 : r + w.length ≤ 400) (hr5 : r + w.length < 400) (hw8 : w.length ≤ 2) (H_mtape : Hs h 69 (aB 300 mt)) (hmt : ∀ k, k < 300 → mt k = sbI (tb k) ∧ tb k < 256) (ha : (tok tb L s).2 ≤ L) (hL : L ≤ 300)  : Sp M_X11_clauseIsOver (0, 0) h [.ref 66] (rV (fun h' => MdP h' tb L (run isB tb L (tok tb L s).2) 0 (-1) 0 0 0 (nd + 1) (r + w.length + 1) 4 nk ∧ MGs h' [] ∧ MN h' (nd + 1) false kd (cdA cd (nd + 1) w) my ne (r + w.length + 1) ∧ Fr [66, 83, 84] h h')) := by
  refine ⟨Nat.le_of_ble_eq_true rfl, ?_⟩
  show E _ _ _ 0 h [some (.ref 66)] []
  have hqq : ∀ x, x ∈ w → (1 ≤ mrk x ↔ 1 ≤ rkc x) := fun x hx => by rcases hfa x hx with rfl | rfl | rfl | rfl | rfl | rfl <;> decide
  obtain ⟨hst1, hst2⟩ : stk 1 w = w ∧ sdr 1 w = [] := by
    have := stk_app (r := 1) (a := w) (b := []) (fun x hx => by rcases hfa x hx with rfl | rfl | rfl | rfl | rfl | rfl <;> decide) (fun x hx => by simp at hx)
    rwa [List.append_nil] at this
  obtain ⟨so, to, mfl, mfa, mdn, mup, mlo, mgu, mgl, H_md, htk⟩ := id hP
  obtain ⟨nw, nn, na, no, nv, H_mnw, H_mnn, H_mna, H_mno, H_mnv, hdone, hr, hcur⟩ := id hN
  refine e_aloadn d_X11_clauseIsOver_0 rfl ?_
  refine e_iconst (v := 1) d_X11_clauseIsOver_1 (by decide) ?_
  refine e_callRVV d_X11_clauseIsOver_2 l_X11_clauseIsOver_251 H_md rfl rfl (s_X11_works (q := 1) (R := 1) hP hGs hN hqq hfa hr4 (by simp only [nW]; omega) (by decide) (by decide)) rfl rfl (Nat.le_of_ble_eq_true rfl) (fun h_2 q_2 s_2 => ?_)
  obtain ⟨hP2, hGs2, hN2, fr_2⟩ := q_2
  rw [hst1, hst2] at hP2
  rw [hst1] at hN2
  rw [hst2] at hGs2
  obtain ⟨so2, to2, mfl2, mfa2, mdn2, mup2, mlo2, mgu2, mgl2, H_md2, htk2⟩ := id hP2
  obtain ⟨nw2, nn2, na2, no2, nv2, H_mnw2, H_mnn2, H_mna2, H_mno2, H_mnv2, hdone2, hr2, hcur2⟩ := id hN2
  obtain ⟨c1, c2, c3⟩ := hcur2 rfl
  refine e_aloadn d_X11_clauseIsOver_5 rfl ?_
  refine e_iconst (v := 0) d_X11_clauseIsOver_6 (by decide) ?_
  refine e_puti d_X11_clauseIsOver_7 f_X11_225 H_md2 (Nat.le_of_ble_eq_true rfl) ?_
  refine e_aloadn d_X11_clauseIsOver_10 rfl ?_
  refine e_sipush (v := 408) d_X11_clauseIsOver_11 (by decide) ?_
  refine e_iconst (v := 0) d_X11_clauseIsOver_14 (by decide) ?_
  refine e_callRVV d_X11_clauseIsOver_15 l_X11_clauseIsOver_247 H_md2.s rfl rfl (s_X11_emits3 H_md2.s (H_mno2.n (by decide)) (H_mnv2.n (by decide)) hr5) rfl rfl (Nat.le_of_ble_eq_true rfl) (fun h_15 q_15 s_15 => ?_)
  obtain ⟨H_md3, H_mno3, H_mnv3, fr_15⟩ := q_15
  refine e_aloadn d_X11_clauseIsOver_18 rfl ?_
  refine e_dup d_X11_clauseIsOver_19 rfl ?_
  refine e_get d_X11_clauseIsOver_20 f_X11_290 H_md3 rfl ?_
  refine e_iconst (v := 1) d_X11_clauseIsOver_23 (by decide) ?_
  refine e_iadd d_X11_clauseIsOver_24 ?_
  rw [nI_1]
  refine e_puti d_X11_clauseIsOver_25 f_X11_290 H_md3 (Nat.le_of_ble_eq_true rfl) ?_
  refine e_aloadn d_X11_clauseIsOver_28 rfl ?_
  refine e_callRVV d_X11_clauseIsOver_29 l_X11_clauseIsOver_237 H_md3.s rfl rfl (s_X11_next2 (st := st) (nk := nk) (nd := nd + 1) (op := 0) (fs := 0) (ws := 0) (r := r + w.length + 1) ⟨so2, to2, mfl2, mfa2, mdn2, mup2, mlo2, mgu2, mgl2, H_md3.s, htk2⟩ ((fr_15.hs ((fr_2.hs H_mtape (by decide)).n (by decide)) (by decide)).n (by decide)) hmt ha hL) rfl rfl (Nat.le_of_ble_eq_true rfl) (fun h_29 q_29 s_29 => ?_)
  obtain ⟨⟨so4, to4, mfl4, mfa4, mdn4, mup4, mlo4, mgu4, mgl4, H_md4, htk4⟩, fr_29⟩ := q_29
  refine e_aloadn d_X11_clauseIsOver_32 rfl ?_
  refine e_iconst (v := 4) d_X11_clauseIsOver_33 (by decide) ?_
  refine e_puti d_X11_clauseIsOver_34 f_X11_260 H_md4 (Nat.le_of_ble_eq_true rfl) ?_
  exact e_vret d_X11_clauseIsOver_37 rfl (⟨rfl, ⟨_, _, _, _, _, _, _, _, _, Hs.s H_md4, htk4⟩, MGs_nil (hGs2.fr (((((Fr.refl [66, 83, 84] _).up (by decide)).trans fr_15).up (by decide)).trans ((fr_29.mono (by decide)).up (by decide))) (by simp)), MN_end hdone2 (by simpa using hr2) hk (by simpa using hr2) c1 c2 c3 ((fr_29.hs ((fr_15.hs (H_mnw2.n (by decide)) (by decide)).n (by decide)) (by decide)).n (by decide)) ((fr_29.hs ((fr_15.hs (H_mnn2.n (by decide)) (by decide)).n (by decide)) (by decide)).n (by decide)) ((fr_29.hs ((fr_15.hs (H_mna2.n (by decide)) (by decide)).n (by decide)) (by decide)).n (by decide)) ((fr_29.hs (H_mno3.n (by decide)) (by decide)).n (by decide)) ((fr_29.hs (H_mnv3.n (by decide)) (by decide)).n (by decide)), fr_2.trans (((((Fr.refl [66, 83, 84] _).up (by decide)).trans fr_15).up (by decide)).trans ((fr_29.mono (by decide)).up (by decide)))⟩)

theorem s_X11_opensSign_q {h : AH} {tb : Nat → Nat} {L s op fs ws nd r : Nat} {st nk : Int32} {f : Nat} (hP : MdP h tb L s 0 (-1) 8 fs ws nd r st nk) : Sp M_X11_opensSign (0, 0) h [.ref 66, .int (nI f)] (rI (fun x h' => MdE h' 3 s ∧ Fr [66] h h')) := by
  refine ⟨Nat.le_of_ble_eq_true rfl, ?_⟩
  show E _ _ _ 0 h [some (.ref 66), some (.int (nI f))] []
  obtain ⟨so, to, mfl, mfa, mdn, mup, mlo, mgu, mgl, H_md, htk⟩ := id hP
  refine e_aloadn d_X11_opensSign_0 rfl ?_
  refine e_get d_X11_opensSign_1 f_X11_228 H_md rfl ?_
  refine e_bipush (v := 8) d_X11_opensSign_4 (by decide) ?_
  refine e_icmp_ne d_X11_opensSign_6 (fun z => by first | exact absurd (fun z => z rfl) z | exact absurd z (fun z => z rfl)) (fun _ => ?_)
  refine e_aloadn d_X11_opensSign_9 rfl ?_
  refine e_iconst (v := 3) d_X11_opensSign_10 (by decide) ?_
  refine e_callRVV d_X11_opensSign_11 l_X11_opensSign_231 H_md rfl rfl (s_X11_errs2 (q := 3) hP) rfl rfl (Nat.le_of_ble_eq_true rfl) (fun h_11 q_11 s_11 => ?_)
  refine e_iconst (v := 0) d_X11_opensSign_14 (by decide) ?_
  exact e_iret d_X11_opensSign_15 rfl (rfl) (⟨_, rfl, q_11⟩)

theorem s_X11_opensSign_0 {h : AH} {tb : Nat → Nat} {L s op nd r f : Nat} {st nk : Int32} {G : LV} {mt : Nat → Int32} (hP : MdP h tb L s 0 (-1) op G.length (nW G) nd r st nk) (hGs : MGs h G) (h8 : op < 8) (hn : G.length < 40) (hf : f = 3 ∨ f = 6 ∨ f = 7) (H_mtape : Hs h 69 (aB 300 mt)) (hmt : ∀ k, k < 300 → mt k = sbI (tb k) ∧ tb k < 256) (ha : (tok tb L s).2 ≤ L) (hL : L ≤ 300)  : Sp M_X11_opensSign (0, 0) h [.ref 66, .int (nI f)] (rI (fun x h' => MdP h' tb L (run isB tb L (tok tb L s).2) 0 (-1) (op + 1) ((f, []) :: G).length (nW ((f, []) :: G)) nd r st nk ∧ MGs h' ((f, []) :: G) ∧ Fr [66, 76] h h')) := by
  refine ⟨Nat.le_of_ble_eq_true rfl, ?_⟩
  show E _ _ _ 0 h [some (.ref 66), some (.int (nI f))] []
  obtain ⟨so, to, mfl, mfa, mdn, mup, mlo, mgu, mgl, H_md, htk⟩ := id hP
  refine e_aloadn d_X11_opensSign_0 rfl ?_
  refine e_get d_X11_opensSign_1 f_X11_228 H_md rfl ?_
  refine e_bipush (v := 8) d_X11_opensSign_4 (by decide) ?_
  refine e_icmp_ne d_X11_opensSign_6 (fun _ => ?_) (fun z => by first | exact absurd (fun z => absurd ((nI_eq (b := 8) (by omega) (by decide)).mp z) (by omega)) z | exact absurd z (fun z => absurd ((nI_eq (b := 8) (by omega) (by decide)).mp z) (by omega)))
  refine e_aloadn d_X11_opensSign_16 rfl ?_
  refine e_dup d_X11_opensSign_17 rfl ?_
  refine e_get d_X11_opensSign_18 f_X11_228 H_md rfl ?_
  refine e_iconst (v := 1) d_X11_opensSign_21 (by decide) ?_
  refine e_iadd d_X11_opensSign_22 ?_
  rw [nI_1]
  refine e_puti d_X11_opensSign_23 f_X11_228 H_md (Nat.le_of_ble_eq_true rfl) ?_
  refine e_aloadn d_X11_opensSign_26 rfl ?_
  refine e_iloadn d_X11_opensSign_27 rfl ?_
  refine e_callRVV d_X11_opensSign_28 l_X11_opensSign_234 H_md.s rfl rfl (s_X11_opensFrame2 (f := f) (MdP.mk H_md.s htk) (hGs.fr (S := [66]) ((Fr.refl _ _).up (by decide)) (by simp)) hn (by rw [show mfr f = f from by unfold mfr; rw [if_neg (by omega)]]) (by omega)) rfl rfl (Nat.le_of_ble_eq_true rfl) (fun h_28 q_28 s_28 => ?_)
  obtain ⟨hP2, hGs2, fr_28⟩ := q_28
  obtain ⟨so2, to2, mfl2, mfa2, mdn2, mup2, mlo2, mgu2, mgl2, H_md2, htk2⟩ := id hP2
  refine e_aloadn d_X11_opensSign_31 rfl ?_
  refine e_callRVV d_X11_opensSign_32 l_X11_opensSign_237 H_md2 rfl rfl (s_X11_next2 hP2 (fr_28.hs (H_mtape.n (by decide)) (by decide)) hmt ha hL) rfl rfl (Nat.le_of_ble_eq_true rfl) (fun h_32 q_32 s_32 => ?_)
  refine e_iconst (v := 1) d_X11_opensSign_35 (by decide) ?_
  exact e_iret d_X11_opensSign_36 rfl (rfl) (⟨_, rfl, by rw [show nW ((f, []) :: G) = nW G from by simp [nW]]; exact q_32.1, hGs2.fr q_32.2 (by simp), ((Fr.refl [66, 76] _).up (by decide)).trans (fr_28.trans (q_32.2.mono (by decide)))⟩)
