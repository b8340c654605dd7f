/-! THE MODEL'S READER: what waits -/
/-- the model behind a fault -/
def MdE (h : AH) (q s : Nat) : Prop := ∃ (mfl mfa mln mat mtk mso mto mop mfs mws mst mnc mnk mnr mdn : Int32) (mup mlo mgu mgl : Int64), Hs h 66 (oMd 0 mfl mfa mup mlo mln mat mtk mso mto (nI q) (nI s) mop mfs mws mst mnc mnk mnr mdn mgu mgl)
/-- the fields of the model that the reader's steps change -/
theorem MdP.mk {h : AH} {tb : Nat → Nat} {L s : Nat} {op fs ws nd r : Nat} {st nk : Int32} {so to mfl mfa mdn : Int32} {mup mlo mgu mgl : Int64} (H : Hs h 66 (oMd 0 mfl mfa mup mlo (nI L) (nI (tok tb L s).2) (nI s) so to 0 (-1) (nI op) (nI fs) (nI ws) st (nI nd) nk (nI r) mdn mgu mgl)) (ht : TkM (tok tb L s).1 so to) : MdP h tb L s 0 (-1) op fs ws nd r st nk := ⟨_, _, _, _, _, _, _, _, _, H, ht⟩
theorem MGp_d {fr cm wa wf : Nat → Int32} : ∀ {G : LV}, MGp fr cm wa wf G → 0 < nW G → ∃ d, wf (nW G - 1) = nI d ∧ d ≤ G.length
  | [], _, h => by simp [nW] at h
  | (f, w) :: r, hG, h => by
    match w, hG with
    | [], hG =>
      simp only [nW, List.length_nil, Nat.zero_add] at h ⊢
      obtain ⟨d, h1, h2⟩ := MGp_d hG.2.2.2 h
      exact ⟨d, h1, by simp; omega⟩
    | x :: w, hG =>
      refine ⟨r.length + 1, ?_, by simp⟩
      have := hG.2.2.1.2.1
      simp only [nW, List.length_cons]
      rw [show w.length + 1 + nW r - 1 = nW r + w.length by omega]
      exact this

theorem s_X11_next2 {h : AH} {tb : Nat → Nat} {L s op fs ws nd r : Nat} {st nk : Int32} {mt : Nat → Int32} (hP : MdP h tb L s 0 (-1) op fs ws nd r st nk) (H_mtape : Hs h 69 (aB 300 mt)) (hmt : ∀ k, k < 300 → mt k = sbI (tb k) ∧ tb k < 256) (ha : (tok tb L s).2 ≤ L) (hL : L ≤ 300) : Sp M_X11_next (0, 0) h [.ref 66] (rV (fun h' => MdP h' tb L (run isB tb L (tok tb L s).2) 0 (-1) op fs ws nd r st nk ∧ Fr [66] h h')) := by
  obtain ⟨so, to, mfl, mfa, mdn, mup, mlo, mgu, mgl, H_md, htk⟩ := id hP
  exact (s_X11_next H_md H_mtape hmt ha hL).end (fun v h' q => by
    obtain ⟨rfl, ⟨so2, to2, H2, ht2⟩, F⟩ := q
    exact ⟨rfl, ⟨_, _, _, _, _, _, _, _, _, H2, ht2⟩, F⟩)

theorem s_X11_errs2 {h : AH} {tb : Nat → Nat} {L s op fs ws nd r : Nat} {st nk : Int32} {q : Nat} (hP : MdP h tb L s 0 (-1) op fs ws nd r st nk) : Sp M_X11_errs (0, 0) h [.ref 66, .int (nI q)] (rV (fun h' => MdE h' q s ∧ Fr [66] h h')) := by
  obtain ⟨so, to, mfl, mfa, mdn, mup, mlo, mgu, mgl, H_md, htk⟩ := id hP
  exact (s_X11_errs H_md).end (fun v h' z => by
    obtain ⟨rfl, rfl⟩ := z
    exact ⟨rfl, ⟨_, _, _, _, _, _, _, _, _, _, _, _, _, _, _, _, _, _, _, Hs.s H_md⟩, (Fr.refl _ _).up (by decide)⟩)

theorem s_X11_emits2 {h : AH} {tb : Nat → Nat} {L s op fs ws nd r : Nat} {st nk : Int32} {kd : Nat → Nat} {cd : Nat → List Nat} {my ne : Int32} {t : Nat} {x y : Int32} (hP : MdP h tb L s 0 (-1) op fs ws nd r st nk) (hN : MN h nd true kd cd my ne r) (hr4 : r < 400) (hx : x = nI (encO t)) (h1 : 100 ≤ t → y = nI (t - 100)) (h2 : t < 11 → y = nI t) : Sp M_X11_emits (0, 0) h [.ref 66, .int x, .int y] (rV (fun h' => MdP h' tb L s 0 (-1) op fs ws nd (r + 1) st nk ∧ MN h' nd true kd (cdA cd (nd + 1) [t]) my ne (r + 1) ∧ Fr [66, 83, 84] h h')) := by
  obtain ⟨so, to, mfl, mfa, mdn, mup, mlo, mgu, mgl, H_md, htk⟩ := id hP
  obtain ⟨nw, nn, na, no, nv, H_mnw, H_mnn, H_mna, H_mno, H_mnv, hdone, hr, hcur⟩ := id hN
  refine (s_X11_emits H_md H_mno H_mnv hr4).end (fun v h' z => ?_)
  obtain ⟨rfl, rfl⟩ := z
  obtain ⟨g1, g2, g3⟩ := MN_emit hdone (by simpa using hr) (hcur rfl) hx h1 h2
  refine ⟨rfl, ⟨_, _, _, _, _, _, _, _, _, Hs.s (c := oMd 0 mfl mfa mup mlo (nI L) (nI (tok tb L s).2) (nI s) so to 0 (-1) (nI op) (nI fs) (nI ws) st (nI nd) nk (nI r) mdn mgu mgl) ((H_md.n (by decide)).n (by decide)), htk⟩, ?_, (((Fr.refl _ _).up (by decide)).up (by decide)).up (by decide)⟩
  exact ⟨nw, nn, na, _, _, ((H_mnw.n (by decide)).n (by decide)).n (by decide), ((H_mnn.n (by decide)).n (by decide)).n (by decide), ((H_mna.n (by decide)).n (by decide)).n (by decide), (H_mno.s.n (by decide)).n (by decide), (Hs.s (H_mnv.n (by decide))).n (by decide), g1, by simpa using g2, fun _ => g3⟩

theorem s_X11_opensFrame2 {h : AH} {tb : Nat → Nat} {L s op nd r f : Nat} {st nk x : Int32} {G : LV} (hP : MdP h tb L s 0 (-1) op G.length (nW G) nd r st nk) (hGs : MGs h G) (hn : G.length < 40) (hf : x = nI (mfr f)) (hf2 : f < 21) : Sp M_X11_opensFrame (0, 0) h [.ref 66, .int x] (rV (fun h' => MdP h' tb L s 0 (-1) op (G.length + 1) (nW G) nd r st nk ∧ MGs h' ((f, []) :: G) ∧ Fr [66, 76] h h')) := by
  obtain ⟨so, to, mfl, mfa, mdn, mup, mlo, mgu, mgl, H_md, htk⟩ := id hP
  obtain ⟨fr, cm, wa, wf, H_mfr, H_mco, H_mwa, H_mwf, hG⟩ := id hGs
  refine (s_X11_opensFrame H_md H_mfr hn).end (fun v h' z => ?_)
  obtain ⟨rfl, rfl⟩ := z
  refine ⟨rfl, ⟨_, _, _, _, _, _, _, _, _, Hs.s (c := oMd 0 mfl mfa mup mlo (nI L) (nI (tok tb L s).2) (nI s) so to 0 (-1) (nI op) (nI G.length) (nI (nW G)) st (nI nd) nk (nI r) mdn mgu mgl) (H_md.n (by decide)), htk⟩, ?_, ((Fr.refl _ _).up (by decide)).up (by decide)⟩
  exact ⟨_, cm, wa, wf, H_mfr.s.n (by decide), (H_mco.n (by decide)).n (by decide), (H_mwa.n (by decide)).n (by decide), (H_mwf.n (by decide)).n (by decide), by rw [va_up_self]; exact hf, fun z => by omega, trivial, hG.upf1 (Nat.le_refl _)⟩

theorem rkc_7 (t : Nat) : rkc t ≤ 7 := by
  unfold rkc
  repeat' split
  all_goals omega
theorem mrk_le (t : Nat) : mrk t ≤ 7 := by
  have := rkc_7 t
  unfold mrk
  split <;> omega

theorem s_X11_works {h : AH} {tb : Nat → Nat} {L s op nd r f q R : Nat} {st nk : Int32} {w : List Nat} {r0 : LV} {kd : Nat → Nat} {cd : Nat → List Nat} {my ne : Int32} (hP : MdP h tb L s 0 (-1) op (r0.length + 1) (w.length + nW r0) nd r st nk) (hGs : MGs h ((f, w) :: r0)) (hN : MN h nd true kd cd my ne r) (hqq : ∀ x, x ∈ w → (q ≤ mrk x ↔ R ≤ rkc x)) (hfa : ∀ x, x ∈ w → x = 12 ∨ x = 13 ∨ x = 27 ∨ x = 28 ∨ x = 29 ∨ x = 30) (hr4 : r + w.length ≤ 400) (hw8 : w.length + nW r0 ≤ 80) (hq : q < 100) (hl0 : r0.length < 39) : Sp M_X11_works (0, 0) h [.ref 66, .int (nI q)] (rV (fun h' => MdP h' tb L s 0 (-1) op (r0.length + 1) ((sdr R w).length + nW r0) nd (r + (stk R w).length) st nk ∧ MGs h' ((f, sdr R w) :: r0) ∧ MN h' nd true kd (cdA cd (nd + 1) (stk R w)) my ne (r + (stk R w).length) ∧ Fr [66, 83, 84] h h')) := by
  refine ⟨Nat.le_of_ble_eq_true rfl, ?_⟩
  show E _ _ _ 0 h [some (.ref 66), some (.int (nI q))] []
  suffices hA : ∀ (w1 : List Nat) (k : AH) (cd1 : Nat → List Nat) (r1 : Nat), MdP k tb L s 0 (-1) op (r0.length + 1) (w1.length + nW r0) nd r1 st nk → MGs k ((f, w1) :: r0) → MN k nd true kd cd1 my ne r1 → (∀ x, x ∈ w1 → (q ≤ mrk x ↔ R ≤ rkc x)) → (∀ x, x ∈ w1 → x = 12 ∨ x = 13 ∨ x = 27 ∨ x = 28 ∨ x = 29 ∨ x = 30) → r1 + w1.length ≤ 400 → w1.length + nW r0 ≤ 80 → sdr R w1 = sdr R w → cdA cd1 (nd + 1) (stk R w1) = cdA cd (nd + 1) (stk R w) → r1 + (stk R w1).length = r + (stk R w).length → Fr [66, 83, 84] h k → E M_X11_works (0, 0) (rV (fun h' => MdP h' tb L s 0 (-1) op (r0.length + 1) ((sdr R w).length + nW r0) nd (r + (stk R w).length) st nk ∧ MGs h' ((f, sdr R w) :: r0) ∧ MN h' nd true kd (cdA cd (nd + 1) (stk R w)) my ne (r + (stk R w).length) ∧ Fr [66, 83, 84] h h')) 0 k [some (.ref 66), some (.int (nI q))] [] from hA w h cd r hP hGs hN hqq hfa hr4 hw8 rfl rfl rfl (Fr.refl _ _)
  intro w1
  induction w1 with
  | nil =>
    intro k cd1 r1 hP hGs hN hqq hfa hr4 hw8 e1 e2 e3 hF
    obtain ⟨so, to, mfl, mfa, mdn, mup, mlo, mgu, mgl, H_md, htk⟩ := id hP
    obtain ⟨fr, cm, wa, wf, H_mfr, H_mco, H_mwa, H_mwf, hG⟩ := id hGs
    have hw9 : nW r0 ≤ 80 := by simpa using hw8
    rw [show ([] : List Nat).length + nW r0 = nW r0 from Nat.zero_add _] at H_md
    refine e_aloadn d_X11_works_0 rfl ?_
    refine e_get d_X11_works_1 f_X11_240 H_md rfl ?_
    refine e_if_le d_X11_works_4 (fun c4 => ?_) (fun c4 => ?_)
    · skip
      exact e_vret d_X11_works_70 rfl (⟨rfl, by rw [← e1, ← e3]; exact hP, by rw [← e1]; exact hGs, by rw [← e2, ← e3, show stk R [] = [] from rfl, cdA_nil]; exact hN, hF⟩)
    · have c4 := i_pos (by omega) c4
      obtain ⟨d, hd1, hd2⟩ := MGp_d hG.2.2.2 c4
      refine e_aloadn d_X11_works_7 rfl ?_
      refine e_get d_X11_works_8 f_X11_54 H_md rfl ?_
      refine e_aloadn d_X11_works_11 rfl ?_
      refine e_get d_X11_works_12 f_X11_240 H_md rfl ?_
      refine e_iconst (v := 1) d_X11_works_15 (by decide) ?_
      refine e_isub d_X11_works_16 ?_
      rw [show nI (nW r0) - 1 = nI (nW r0 - 1) from nI_subN (b := 1) (by omega)]
      refine e_ialdN (k := (nW r0 - 1)) d_X11_works_17 H_mwf rfl (by omega) (by omega) ?_
      refine e_aloadn d_X11_works_18 rfl ?_
      refine e_get d_X11_works_19 f_X11_225 H_md rfl ?_
      rw [hd1]
      refine e_icmp_ne d_X11_works_22 (fun _ => ?_) (fun z => by first | exact absurd (fun z => absurd (i_eq (by omega) (by omega) z) (by omega)) z | exact absurd z (fun z => absurd (i_eq (by omega) (by omega) z) (by omega)))
      exact e_vret d_X11_works_70 rfl (⟨rfl, by rw [← e1, ← e3]; exact hP, by rw [← e1]; exact hGs, by rw [← e2, ← e3, show stk R [] = [] from rfl, cdA_nil]; exact hN, hF⟩)
  | cons x w ih =>
    intro k cd1 r1 hP hGs hN hqq hfa hr4 hw8 e1 e2 e3 hF
    obtain ⟨so, to, mfl, mfa, mdn, mup, mlo, mgu, mgl, H_md, htk⟩ := id hP
    obtain ⟨fr, cm, wa, wf, H_mfr, H_mco, H_mwa, H_mwf, hG⟩ := id hGs
    have hxx := hfa x List.mem_cons_self
    have hqx := hqq x List.mem_cons_self
    have hm1 : nI ((x :: w).length + nW r0) - 1 = nI (nW r0 + w.length) := by
      rw [show (x :: w).length + nW r0 = (nW r0 + w.length) + 1 from by simp; omega]; exact nI_m
    have hw9 : w.length + 1 + nW r0 ≤ 80 := hw8
    refine e_aloadn d_X11_works_0 rfl ?_
    refine e_get d_X11_works_1 f_X11_240 H_md rfl ?_
    refine e_if_le d_X11_works_4 (fun z => by first | exact absurd (fun z => absurd (i_np (by simp at hw8 ⊢; omega) z) (by simp)) z | exact absurd z (fun z => absurd (i_np (by simp at hw8 ⊢; omega) z) (by simp))) (fun _ => ?_)
    refine e_aloadn d_X11_works_7 rfl ?_
    refine e_get d_X11_works_8 f_X11_54 H_md rfl ?_
    refine e_aloadn d_X11_works_11 rfl ?_
    refine e_get d_X11_works_12 f_X11_240 H_md rfl ?_
    refine e_iconst (v := 1) d_X11_works_15 (by decide) ?_
    refine e_isub d_X11_works_16 ?_
    rw [show nI ((x :: w).length + nW r0) - 1 = nI (nW r0 + w.length) from hm1]
    refine e_ialdN (k := (nW r0 + w.length)) d_X11_works_17 H_mwf rfl (by omega) (by omega) ?_
    refine e_aloadn d_X11_works_18 rfl ?_
    refine e_get d_X11_works_19 f_X11_225 H_md rfl ?_
    rw [hG.2.2.1.2.1]
    refine e_icmp_ne d_X11_works_22 (fun z => by first | exact absurd (fun z => z rfl) z | exact absurd z (fun z => z rfl)) (fun _ => ?_)
    refine e_aloadn d_X11_works_25 rfl ?_
    refine e_get d_X11_works_26 f_X11_51 H_md rfl ?_
    refine e_aloadn d_X11_works_29 rfl ?_
    refine e_get d_X11_works_30 f_X11_240 H_md rfl ?_
    refine e_iconst (v := 1) d_X11_works_33 (by decide) ?_
    refine e_isub d_X11_works_34 ?_
    rw [show nI ((x :: w).length + nW r0) - 1 = nI (nW r0 + w.length) from hm1]
    refine e_ialdN (k := (nW r0 + w.length)) d_X11_works_35 H_mwa rfl (by omega) (by omega) ?_
    rw [hG.2.2.1.1]
    refine e_callSI d_X11_works_36 l_X11_works_243 (s_X11_rank hxx) rfl rfl (Nat.le_of_ble_eq_true rfl) ?_
    refine e_iloadn d_X11_works_39 rfl ?_
    have hmr := mrk_le x
    refine e_icmp_lt d_X11_works_40 (fun c40 => ?_) (fun c40 => ?_)
    · have c40 := i_lt (by omega) (by omega) c40
      have hst : stk R (x :: w) = [] ∧ sdr R (x :: w) = x :: w := by
        have : ¬ R ≤ rkc x := fun z => by have := (hqx).mpr z; omega
        simp only [stk, sdr, List.takeWhile_cons, List.dropWhile_cons]
        rw [decide_eq_false this]
        exact ⟨rfl, rfl⟩
      exact e_vret d_X11_works_70 rfl (⟨rfl, by rw [← e1, ← e3, hst.1, hst.2]; exact hP, by rw [← e1, hst.2]; exact hGs, by rw [← e2, ← e3, hst.1, cdA_nil]; exact hN, hF⟩)
    · have c40 := i_nlt (by omega) (by omega) c40
      have hst : stk R (x :: w) = x :: stk R w ∧ sdr R (x :: w) = sdr R w := by
        have : R ≤ rkc x := hqx.mp c40
        simp only [stk, sdr, List.takeWhile_cons, List.dropWhile_cons]
        rw [decide_eq_true this]
        exact ⟨rfl, rfl⟩
      refine e_aloadn d_X11_works_43 rfl ?_
      refine e_dup d_X11_works_44 rfl ?_
      refine e_get d_X11_works_45 f_X11_240 H_md rfl ?_
      refine e_iconst (v := 1) d_X11_works_48 (by decide) ?_
      refine e_isub d_X11_works_49 ?_
      rw [show nI ((x :: w).length + nW r0) - 1 = nI (w.length + nW r0) from by rw [hm1, Nat.add_comm]]
      refine e_puti d_X11_works_50 f_X11_240 H_md (Nat.le_of_ble_eq_true rfl) ?_
      refine e_aloadn d_X11_works_53 rfl ?_
      refine e_aloadn d_X11_works_54 rfl ?_
      refine e_get d_X11_works_55 f_X11_51 H_md.s rfl ?_
      refine e_aloadn d_X11_works_58 rfl ?_
      refine e_get d_X11_works_59 f_X11_240 H_md.s rfl ?_
      refine e_ialdN (k := (nW r0 + w.length)) d_X11_works_62 (H_mwa.n (by decide)) (congrArg nI (Nat.add_comm _ _)) (by omega) (by omega) ?_
      rw [hG.2.2.1.1]
      refine e_iconst (v := 0) d_X11_works_63 (by decide) ?_
      refine e_callRVV d_X11_works_64 l_X11_works_247 H_md.s rfl rfl (s_X11_emits2 (t := x) (fs := r0.length + 1) (ws := w.length + nW r0) (nk := nk) (st := st) (op := op) (nd := nd) (r := r1) (MdP.mk H_md.s htk) (hN.fr (S := [66]) ((Fr.refl _ _).up (by decide)) (by simp)) (by simp at hr4; omega) rfl (fun z => by omega) (fun z => by omega)) rfl rfl (Nat.le_of_ble_eq_true rfl) (fun h_64 q_64 s_64 => ?_)
      obtain ⟨hP2, hN2, fr_64⟩ := q_64
      refine e_gt d_X11_works_67 ?_
      refine ih h_64 (cdA cd1 (nd + 1) [x]) (r1 + 1) hP2 ⟨fr, cm, wa, wf, fr_64.hs (H_mfr.n (by decide)) (by decide), fr_64.hs (H_mco.n (by decide)) (by decide), fr_64.hs (H_mwa.n (by decide)) (by decide), fr_64.hs (H_mwf.n (by decide)) (by decide), hG.1, hG.2.1, hG.2.2.1.2.2, hG.2.2.2⟩ hN2 (fun y hy => hqq y (List.mem_cons_of_mem _ hy)) (fun y hy => hfa y (List.mem_cons_of_mem _ hy)) (by simp at hr4; omega) (by simp at hw8; omega) (by rw [← e1, hst.2]) (by rw [← e2, hst.1, cdA_app]; rfl) (by rw [← e3, hst.1]; simp; omega) ?_
      exact hF.trans (((Fr.refl _ _).up (by decide)).trans fr_64)
