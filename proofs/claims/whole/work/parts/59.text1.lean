/-! THE CLASS: text -/
/-- the reader, at rest -/
def RdA (h : AH) : Prop := (∃ (a b c l m n o p d e f q pl : Int32) (tv x : Value), Hs h 22 (oRe a b c tv l m n o p d e f x q pl)) ∧ ∃ wt : Nat → Int32, Hs h 23 (aI 32 wt)
/-- what text says, and what it leaves -/
def TxtR (h' : AH) (tcn : Nat) (cost x : Int32) (R : Nat × Nat × PS) : Prop := (R.1 = 0 ∧ x = nI tcn ∧ Hs h' 0 (oMC (nI (tcn + 1)) 0 0 (-1) cost) ∧ TxW h' tcn R.2.2.2.2.1 R.2.2.2.2.2.1 R.2.2.2.2.2.2.1 R.2.2.2.2.2.2.2.1 R.2.2.2.2.2.2.2.2 ∧ ∃ a, gI R.2.2 a ∧ R.2.2.1 = 4) ∨ (R.1 ≠ 0 ∧ x = -1 ∧ Hs h' 0 (oMC (nI tcn) 0 (nI R.1) (nI R.2.1) cost) ∧ TxB h' tcn)
theorem qrF_6 {b : Nat → Nat} {L : Nat} : ∀ f s S, (qrF b L f s S).1 ≤ 6 ∧ (s ≤ L → (qrF b L f s S).2.1 ≤ L)
  | 0, s, S => by simp [qrF]
  | f + 1, s, S => by
    simp only [qrF]
    split
    · simp
    · split
      · exact ⟨gs_le, fun h => h⟩
      · obtain ⟨h1, h2⟩ := qrF_6 (b := b) (L := L) f (run isB b L (tok b L s).2) (gstep (tok b L s).1 S).2
        refine ⟨h1, fun hs => h2 ?_⟩
        by_cases h35 : (tok b L s).1 = 35
        · unfold tok
          by_cases h9 : L ≤ s
          · rw [if_pos h9]; exact (run_ge (P := isB) (b := b) hs).2
          · rename_i e1 e2
            exfalso
            refine e2 ?_
            rw [h35]
            exact gs_end (fun z => e1 ⟨h35, z⟩)
        · exact (run_ge (P := isB) (b := b) (tok_nx hs h35).2.2).2
theorem qr_6 {b : Nat → Nat} {L s : Nat} {S : PS} : (qr b L s S).1 ≤ 6 := (qrF_6 _ _ _).1
theorem s_X10_text {h : AH} {tcn L : Nat} {lf lp cost : Int32} {texts : Nat → Option Nat} {tape : Nat → Int32} {tb : Nat → Nat} {kd0 : Nat → Nat} {cd0 : Nat → List Nat} (H_mc : Hs h 0 (oMC (nI tcn) (nI L) lf lp cost)) (H_txs : Hs h 20 (aT 6 texts)) (htx : ∀ t, t < 6 → texts t = some (42 + 4 * t)) (H_tape : Hs h 21 (aI 300 tape)) (htb : ∀ k, k < 300 → tape k = nI (tb k) ∧ tb k < 256) (hL : L ≤ 300) (hA : RdA h) (hB : TxB h tcn) (htc : tcn < 6) : Sp M_X10_text (0, 0) h [.ref 0] (rI (fun x h' => TxtR h' tcn cost x (qr tb L (run isB tb L 0) (4, [], 0, kd0, cd0, -1, -1)) ∧ RdA h' ∧ Fr [0, 22, 23, 42 + 4 * tcn, 43 + 4 * tcn, 44 + 4 * tcn, 45 + 4 * tcn] h h')) := by
  refine ⟨Nat.le_of_ble_eq_true rfl, ?_⟩
  show E _ _ _ 0 h [some (.ref 0)] []
  obtain ⟨⟨ra, rb, rc, rl, rm, rn, ro, rp, rd, re, rf, rq, rpl, rtv, rx, H_re⟩, wt0, H_rw⟩ := id hA
  have hR6 : (qr tb L (run isB tb L 0) (4, [], 0, kd0, cd0, -1, -1)).1 ≤ 6 := qr_6
  generalize hRd : (qr tb L (run isB tb L 0) (4, [], 0, kd0, cd0, -1, -1)) = R at hR6
  refine e_aloadn d_X10_text_0 rfl ?_
  refine e_get d_X10_text_1 f_X10_159 H_mc rfl ?_
  refine e_bipush (v := 6) d_X10_text_4 (by decide) ?_
  refine e_icmp_lt d_X10_text_6 (fun _ => ?_) (fun z => by first | exact absurd ((nI_ltI (b := 6) (by omega) (by decide)).mpr htc) z | exact absurd z ((nI_ltI (b := 6) (by omega) (by decide)).mpr htc))
  refine e_aloadn d_X10_text_11 rfl ?_
  refine e_get d_X10_text_12 f_X10_50 H_mc rfl ?_
  refine e_aloadn d_X10_text_15 rfl ?_
  refine e_get d_X10_text_16 f_X10_43 H_mc rfl ?_
  refine e_aloadn d_X10_text_19 rfl ?_
  refine e_get d_X10_text_20 f_X10_152 H_mc rfl ?_
  refine e_aloadn d_X10_text_23 rfl ?_
  refine e_get d_X10_text_24 f_X10_39 H_mc rfl ?_
  refine e_aloadn d_X10_text_27 rfl ?_
  refine e_get d_X10_text_28 f_X10_159 H_mc rfl ?_
  refine e_taldN (k := tcn) d_X10_text_31 H_txs rfl (by omega) (by omega) ?_
  rw [htx tcn htc]
  refine e_callRVV d_X10_text_32 l_X10_text_162 H_re rfl rfl (s_X6_read (kd0 := kd0) (cd0 := cd0) H_re H_rw H_tape htb hL hB) rfl rfl (Nat.le_of_ble_eq_true rfl) (fun h_32 q_32 s_32 => ?_)
  obtain ⟨hfin, fr_32⟩ := q_32
  have H_mc := fr_32.hs H_mc (by first | decide | (simp; omega))
  have H_txs := fr_32.hs H_txs (by first | decide | (simp; omega))
  have H_tape := fr_32.hs H_tape (by first | decide | (simp; omega))
  rw [hRd] at hfin
  by_cases hq : R.1 = 0
  · refine e_aloadn d_X10_text_35 rfl ?_
    obtain ⟨-, ⟨a9, b9, c9, l9, m9, n9, o9, p9, d9, e9, f9, x9, H_re2⟩, ⟨wt9, H_rw9⟩, hT9, hI9⟩ := hfin.resolve_right (fun z => z.1 hq)
    refine e_aloadn d_X10_text_36 rfl ?_
    refine e_get d_X10_text_37 f_X10_50 H_mc rfl ?_
    refine e_get d_X10_text_40 f_X10_166 H_re2 rfl ?_
    refine e_puti d_X10_text_43 f_X10_54 H_mc (Nat.le_of_ble_eq_true rfl) ?_
    refine e_aloadn d_X10_text_46 rfl ?_
    refine e_aloadn d_X10_text_47 rfl ?_
    refine e_get d_X10_text_48 f_X10_50 H_mc.s rfl ?_
    refine e_get d_X10_text_51 f_X10_169 (H_re2.n (by decide)) rfl ?_
    refine e_puti d_X10_text_54 f_X10_58 H_mc.s (Nat.le_of_ble_eq_true rfl) ?_
    refine e_aloadn d_X10_text_57 rfl ?_
    refine e_iconst (v := 0) d_X10_text_58 (by decide) ?_
    refine e_puti d_X10_text_59 f_X10_152 H_mc.s.s (Nat.le_of_ble_eq_true rfl) ?_
    refine e_aloadn d_X10_text_62 rfl ?_
    refine e_get d_X10_text_63 f_X10_50 H_mc.s.s.s rfl ?_
    refine e_get d_X10_text_66 f_X10_166 (((H_re2.n (by decide)).n (by decide)).n (by decide)) rfl ?_
    refine e_if_eq d_X10_text_69 (fun _ => ?_) (fun z => by first | exact absurd (rfl) z | exact absurd z (rfl))
    refine e_aloadn d_X10_text_74 rfl ?_
    refine e_dup d_X10_text_75 rfl ?_
    refine e_get d_X10_text_76 f_X10_159 H_mc.s.s.s rfl ?_
    refine e_iconst (v := 1) d_X10_text_79 (by decide) ?_
    refine e_iadd d_X10_text_80 ?_
    rw [nI_1]
    refine e_puti d_X10_text_81 f_X10_159 H_mc.s.s.s (Nat.le_of_ble_eq_true rfl) ?_
    refine e_aloadn d_X10_text_84 rfl ?_
    refine e_get d_X10_text_85 f_X10_159 H_mc.s.s.s.s rfl ?_
    refine e_iconst (v := 1) d_X10_text_88 (by decide) ?_
    skip
    refine e_isub d_X10_text_89 ?_
    rw [show nI (tcn + 1) - 1 = nI tcn from nI_m]
    exact e_iret d_X10_text_90 rfl (rfl) (⟨_, rfl, Or.inl ⟨hq, rfl, H_mc.s.s.s.s, TxW.fr (S := [0]) hT9 (((((Fr.refl _ _).up (by decide)).up (by decide)).up (by decide)).up (by decide)) (by simp), hI9⟩, ⟨⟨_, _, _, _, _, _, _, _, _, _, _, _, _, _, _, ((((H_re2.n (by decide)).n (by decide)).n (by decide)).n (by decide))⟩, _, (((H_rw9.n (by decide)).n (by decide)).n (by decide)).n (by decide)⟩, ((((fr_32.mono (by simp)).up (by simp)).up (by simp)).up (by simp)).up (by simp)⟩)
  · refine e_aloadn d_X10_text_35 rfl ?_
    obtain ⟨-, ⟨⟨a9, b9, c9, l9, m9, n9, o9, p9, d9, e9, f9, x9, H_re2⟩, wt9, H_rw9⟩, hB9⟩ := hfin.resolve_left (fun z => hq z.1)
    refine e_aloadn d_X10_text_36 rfl ?_
    refine e_get d_X10_text_37 f_X10_50 H_mc rfl ?_
    refine e_get d_X10_text_40 f_X10_166 H_re2 rfl ?_
    refine e_puti d_X10_text_43 f_X10_54 H_mc (Nat.le_of_ble_eq_true rfl) ?_
    refine e_aloadn d_X10_text_46 rfl ?_
    refine e_aloadn d_X10_text_47 rfl ?_
    refine e_get d_X10_text_48 f_X10_50 H_mc.s rfl ?_
    refine e_get d_X10_text_51 f_X10_169 (H_re2.n (by decide)) rfl ?_
    refine e_puti d_X10_text_54 f_X10_58 H_mc.s (Nat.le_of_ble_eq_true rfl) ?_
    refine e_aloadn d_X10_text_57 rfl ?_
    refine e_iconst (v := 0) d_X10_text_58 (by decide) ?_
    refine e_puti d_X10_text_59 f_X10_152 H_mc.s.s (Nat.le_of_ble_eq_true rfl) ?_
    refine e_aloadn d_X10_text_62 rfl ?_
    refine e_get d_X10_text_63 f_X10_50 H_mc.s.s.s rfl ?_
    refine e_get d_X10_text_66 f_X10_166 (((H_re2.n (by decide)).n (by decide)).n (by decide)) rfl ?_
    refine e_if_eq d_X10_text_69 (fun z => by first | exact absurd (fun z => hq ((nI_eq (b := 0) (by have := hR6; omega) (by decide)).mp z)) z | exact absurd z (fun z => hq ((nI_eq (b := 0) (by have := hR6; omega) (by decide)).mp z))) (fun _ => ?_)
    refine e_iconst (v := -1) d_X10_text_72 (by decide) ?_
    exact e_iret d_X10_text_73 rfl (rfl) (⟨_, rfl, Or.inr ⟨hq, rfl, H_mc.s.s.s, TxB.fr (S := [0]) hB9 ((((Fr.refl _ _).up (by decide)).up (by decide)).up (by decide)) (by simp)⟩, ⟨⟨_, _, _, _, _, _, _, _, _, _, _, _, _, _, _, (((H_re2.n (by decide)).n (by decide)).n (by decide))⟩, _, ((H_rw9.n (by decide)).n (by decide)).n (by decide)⟩, (((fr_32.mono (by simp)).up (by simp)).up (by simp)).up (by simp)⟩)
