/-! THE READER: a tape -/
theorem s_X6_takeOperator {h : AH} {t n tp nc : Nat} {G : LV} {kd : Nat → Nat} {cdc : Nat → List Nat} {my ne : Int32} {L : Nat} {at_ st : Int32} {c : List Nat} (hT : TxW h tp nc kd cdc my ne) (hR : RdW h tp L at_ st (nI t) 4 (kd (nc - 1)) false (cmB G) (List.replicate n 31 ++ flat G) (nO G + n) (nP G)) (hC : gC 2 G (kd (nc - 1)) c) (h0 : 0 < nc) (hto : tot cdc nc + (List.replicate n 31 ++ flat G).length ≤ 300) (ht : t < 20000) : Sp M_X6_takeOperator (0, 0) h [.ref 22] (rV (fun h' => RCq h' tp L at_ st (nI t) (gOperator t G nc kd (cdA cdc nc (List.replicate n 31)) my ne) ∧ Fr [22, 23, 42 + 4 * tp, 43 + 4 * tp, 44 + 4 * tp, 45 + 4 * tp] h h')) := by
  obtain ⟨h1, h2, h3, h4, h5, h6⟩ := hC
  obtain ⟨hI, hn⟩ : shI (kd (nc - 1)) G ∧ neg G = 0 := by
    rcases h6 with q | q | q
    · omega
    · exact q.2
    · omega
  match G, hI with
  | (f, w) :: r, hI =>
    have hf7 : f ≠ 7 := fun e => by subst e; simp [neg] at hn
    have hPO : ∀ G : LV, nP G ≤ nO G := by
      intro G
      induction G with
      | nil => exact Nat.le_refl _
      | cons p G ih =>
        obtain ⟨f, w⟩ := p
        simp only [nP, nO]
        by_cases e : f = 6
        · rw [if_pos e, if_pos (Or.inl e)]; omega
        · rw [if_neg e]; omega
    have hP9 := hPO ((f, w) :: r)
    rcases hI with ⟨rfl, hw, hr⟩ | ⟨q, -⟩ | ⟨hw, hS⟩
    · exact s_X6_takeOperator_6 hT hR hw hr h3 h0 hto (by omega) (by omega) ht
    · exact absurd q hf7
    · rcases hS with ⟨hk, rfl, rfl⟩ | ⟨hk, hf, hE⟩
      · exact s_X6_takeOperator_1 hT hR hw hk h3 h0 hto (by omega) ht
      · rcases hf with rfl | hf
        · exact s_X6_takeOperator_4 hT (by rw [cm_4 hE, nP_0 hE (by omega)] at hR; exact hR) hw hk hE h3 h0 hto (by omega) ht
        · exact s_X6_takeOperator_c hT (by rw [cm_c hf.1, nP_0 hE (by omega)] at hR; exact hR) hw hk hE hf h3 h0 hto (by omega) ht

/-- the reader at its end: what was read, or the fault -/
def RFin (h : AH) (tp : Nat) (r : Nat × Nat × PS) : Prop := (r.1 = 0 ∧ (∃ (a b c l m n o p d e f : Int32) (x : Value), Hs h 22 (oRe a b c (.ref 21) l m n o p d e f x 0 (-1))) ∧ (∃ wt : Nat → Int32, Hs h 23 (aI 32 wt)) ∧ TxW h tp r.2.2.2.2.1 r.2.2.2.2.2.1 r.2.2.2.2.2.2.1 r.2.2.2.2.2.2.2.1 r.2.2.2.2.2.2.2.2 ∧ ∃ a, gI r.2.2 a ∧ r.2.2.1 = 4) ∨ (r.1 ≠ 0 ∧ RdE h r.1 (nI r.2.1) ∧ TxB h tp)
theorem RC.re {h : AH} {tp L : Nat} {at_ st tk : Int32} {S : PS} (hC : RC h tp L at_ st tk S) : ∃ (a b c d e f : Int32) (wt : Nat → Int32), Hs h 22 (oRe a b c (.ref 21) (nI L) at_ st tk (nI (stN S.1)) d e f (.ref (42 + 4 * tp)) 0 (-1)) ∧ Hs h 23 (aI 32 wt) := by
  obtain ⟨n, cdc, e, hT, h1, h2, h3⟩ := hC
  by_cases h9 : 3 ≤ S.1
  · obtain ⟨ki, ⟨a, b, c, d, e, wt, h4, h5⟩, -⟩ := h2 h9
    exact ⟨_, _, _, _, _, _, wt, h4, h5⟩
  · obtain ⟨wt, h4, h5, -⟩ := h3 (by omega)
    exact ⟨_, _, _, _, _, _, wt, h4, h5⟩
theorem RC.next {h h' : AH} {tp L : Nat} {at_ st tk at2 st2 tk2 a b c d e f : Int32} {S : PS} (hC : RC h tp L at_ st tk S) (H : Hs h 22 (oRe a b c (.ref 21) (nI L) at_ st tk (nI (stN S.1)) d e f (.ref (42 + 4 * tp)) 0 (-1))) (H2 : Hs h' 22 (oRe a b c (.ref 21) (nI L) at2 st2 tk2 (nI (stN S.1)) d e f (.ref (42 + 4 * tp)) 0 (-1))) (F : Fr [22] h h') : RC h' tp L at2 st2 tk2 S := by
  have hu : ∀ {a2 b2 c2 d2 e2 f2 : Int32}, Hs h 22 (oRe a2 b2 c2 (.ref 21) (nI L) at_ st tk (nI (stN S.1)) d2 e2 f2 (.ref (42 + 4 * tp)) 0 (-1)) → Hs h' 22 (oRe a2 b2 c2 (.ref 21) (nI L) at2 st2 tk2 (nI (stN S.1)) d2 e2 f2 (.ref (42 + 4 * tp)) 0 (-1)) := by
    intro a2 b2 c2 d2 e2 f2 H'
    have := H.2.symm.trans H'.2
    simp only [Sum.inr.injEq, Prod.mk.injEq, List.cons.injEq, Value.int.injEq, true_and, and_true] at this
    obtain ⟨rfl, rfl, rfl, rfl, rfl, rfl⟩ := this
    exact H2
  obtain ⟨n, cdc, e, hT, h1, h2, h3⟩ := hC
  refine ⟨n, cdc, e, hT.fr F (by simp), h1, fun h9 => ?_, fun h9 => ?_⟩
  · obtain ⟨ki, ⟨a, b, c, d, e, wt, h4, h5⟩, h6⟩ := h2 h9
    exact ⟨ki, ⟨_, _, _, _, _, wt, hu h4, F.hs h5 (by simp)⟩, h6⟩
  · obtain ⟨wt, h4, h5, h6⟩ := h3 h9
    exact ⟨wt, hu h4, F.hs h5 (by simp), h6⟩

theorem gs_le {t : Nat} {S : PS} : (gstep t S).1 ≤ 6 := by
  obtain ⟨ph, G, nc, kd, cd, my, ne⟩ := S
  simp only [gstep]
  split
  · unfold gClause; repeat' split
    all_goals simp
  · split
    · unfold gNumber; repeat' split
      all_goals simp
    · split
      · unfold gStop; split <;> simp
      · split
        · unfold gOperator
          split
          · simp
          · try simp only []
            split
            · simp
            · split
              · simp only []; split <;> simp
              · split
                · simp only []; split <;> simp
                · split
                  · simp only []; split <;> simp
                  · unfold gAsk
                    split
                    · split
                      · simp
                      · split <;> simp
                    · simp
        · unfold gOperand
          split
          · simp only []; split <;> simp
          · split
            · simp only []; split <;> simp
            · split
              · simp only []; split <;> simp
              · split
                · simp only []; split <;> simp
                · split
                  · simp only []; split <;> simp
                  · simp
theorem gI_mono {S : PS} {a b : Nat} (h : gI S a) (hab : a ≤ b) : gI S b := ⟨h.1, h.2.1, Nat.le_trans h.2.2.1 hab, h.2.2.2⟩
/-- the loop's state behind some tokens -/
def InR (h : AH) (tp : Nat) (tb : Nat → Nat) (L i q : Nat) (R : Nat × Nat × PS) : Prop := q ≤ 6 ∧ (q = 0 → ∃ (a : Nat) (st tk : Int32) (S : PS), RC h tp L (nI a) st tk S ∧ gI S a ∧ a ≤ L ∧ i ≤ a ∧ qr tb L (run isB tb L a) S = R) ∧ (q ≠ 0 → ∃ (s : Nat) (S : PS), RdE h q (nI s) ∧ TxB h tp ∧ R = (q, s, S))
theorem InR_step {h' : AH} {tp L i a s t a' ph nc : Nat} {tb : Nat → Nat} {R : Nat × Nat × PS} {G : LV} {kd : Nat → Nat} {cd : Nat → List Nat} {my ne : Int32} {r : Nat × PS} (hb : ∀ k, k < L → tb k < 256) (hg : gstep t (ph, G, nc, kd, cd, my, ne) = r) (hI : gI (ph, G, nc, kd, cd, my, ne) a) (ha : a ≤ L) (hi : i ≤ a) (hs : s = run isB tb L a) (ht : (tok tb L s).1 = t) (ha' : (tok tb L s).2 = a') (hR : qr tb L s (ph, G, nc, kd, cd, my, ne) = R) (hne : ¬ (t = 35 ∧ ph = 4)) (hq : RCq h' tp L (nI a') (nI s) (nI t) r) : InR h' tp tb L (i + 1) r.1 R := by
  subst ht ha' hg
  have hsL := run_ge (P := isB) (b := tb) ha
  rw [← hs] at hsL
  refine ⟨gs_le, fun h0 => ?_, fun h0 => ?_⟩
  · rcases hq with ⟨-, hC⟩ | ⟨q, -⟩
    · obtain ⟨e1, e2, e3, e4⟩ := qr_ok hb hsL.2 (S := (ph, G, nc, kd, cd, my, ne)) hne (Prod.ext h0 rfl : gstep (tok tb L s).1 (ph, G, nc, kd, cd, my, ne) = (0, (gstep (tok tb L s).1 (ph, G, nc, kd, cd, my, ne)).2))
      exact ⟨_, _, _, _, hC, gI_mono (gI_step hI (Prod.ext h0 rfl)) (by omega), e4, by omega, by rw [← hR, e1]⟩
    · exact absurd h0 q
  · rcases hq with ⟨q, -⟩ | ⟨-, hE, hB⟩
    · exact absurd q h0
    · exact ⟨s, (ph, G, nc, kd, cd, my, ne), hE, hB, by rw [← hR, qr_bad hsL.2 (S := (ph, G, nc, kd, cd, my, ne)) hne (Prod.ext rfl rfl : gstep (tok tb L s).1 (ph, G, nc, kd, cd, my, ne) = ((gstep (tok tb L s).1 (ph, G, nc, kd, cd, my, ne)).1, (gstep (tok tb L s).1 (ph, G, nc, kd, cd, my, ne)).2)) h0]⟩

theorem stN_le (ph : Nat) : stN ph ≤ 4 := by
  unfold stN
  repeat' split
  all_goals omega
theorem stN_4 {ph : Nat} (h : ph ≤ 6 ∧ ph ≠ 3) (h0 : stN ph = 0) : ph = 4 := by
  unfold stN at h0
  split at h0
  · assumption
  · split at h0
    · omega
    · split at h0
      · omega
      · split at h0 <;> omega
theorem TxB.fr {S : List Nat} {h h' : AH} {tp : Nat} (T : TxB h tp) (F : Fr S h h') (hS : ∀ x, x ∈ S → x < 42) : TxB h' tp := by
  obtain ⟨c, m, n, k, e, d, h1, h2, h3, h4, h5⟩ := T
  exact ⟨c, m, n, k, e, d, F.hs h1 (fun z => by have := hS _ z; omega), F.hs h2 (fun z => by have := hS _ z; omega), F.hs h3 (fun z => by have := hS _ z; omega), F.hs h4 (fun z => by have := hS _ z; omega), h5⟩
theorem RC_ini {h : AH} {tp L : Nat} {st tk a b c d e f : Int32} {wt : Nat → Int32} {kd : Nat → Nat} {cd : Nat → List Nat} (hT : TxW h tp 0 kd cd (-1) (-1)) (H : Hs h 22 (oRe a b c (.ref 21) (nI L) (nI 0) st tk 0 d e f (.ref (42 + 4 * tp)) 0 (-1))) (H_rw : Hs h 23 (aI 32 wt)) : RC h tp L (nI 0) st tk (4, [], 0, kd, cd, -1, -1) := ⟨0, cd, cdA_nil.symm, hT, fun _ => rfl, fun _ => ⟨d, ⟨_, _, _, _, _, wt, H, H_rw⟩, fun z => absurd z (by simp)⟩, fun z => absurd z (by simp)⟩

theorem s_X6_read {h : AH} {tp L : Nat} {tape : Nat → Int32} {tb : Nat → Nat} {a b c l m n o p d e f q9 pl : Int32} {tv x : Value} {wt0 : Nat → Int32} {kd0 : Nat → Nat} {cd0 : Nat → List Nat} (H_re : Hs h 22 (oRe a b c tv l m n o p d e f x q9 pl)) (H_rw : Hs h 23 (aI 32 wt0)) (H_tape : Hs h 21 (aI 300 tape)) (htb : ∀ k, k < 300 → tape k = nI (tb k) ∧ tb k < 256) (hL : L ≤ 300) (hB : TxB h tp) : Sp M_X6_read (0, 0) h [.ref 22, .ref 21, .int (nI L), .ref (42 + 4 * tp)] (rV (fun h' => RFin h' tp (qr tb L (run isB tb L 0) (4, [], 0, kd0, cd0, -1, -1)) ∧ Fr [22, 23, 42 + 4 * tp, 43 + 4 * tp, 44 + 4 * tp, 45 + 4 * tp] h h')) := by
  refine ⟨Nat.le_of_ble_eq_true rfl, ?_⟩
  show E _ _ _ 0 h [some (.ref 22), some (.ref 21), some (.int (nI L)), some (.ref (42 + 4 * tp)), none] []
  have G_tape := H_tape
  have hb : ∀ k, k < L → tb k < 256 := fun k hk => (htb k (by omega)).2
  obtain ⟨cB, mB, nB, kB, eB, coB, H_tx, H_tkk, H_te, H_tco, hzB⟩ := id hB
  obtain ⟨R, hRd⟩ : ∃ R, qr tb L (run isB tb L 0) (4, [], 0, kd0, cd0, -1, -1) = R := ⟨_, rfl⟩
  refine e_aloadn d_X6_read_0 rfl ?_
  refine e_aloadn d_X6_read_1 rfl ?_
  refine e_puta d_X6_read_2 f_X6_15 H_re (Nat.le_of_ble_eq_true rfl) ?_
  refine e_aloadn d_X6_read_5 rfl ?_
  refine e_iloadn d_X6_read_6 rfl ?_
  refine e_aloadn d_X6_read_7 rfl ?_
  refine e_alenL (v := 300) d_X6_read_8 (H_tape.n (by decide)) rfl ?_
  refine e_callSI d_X6_read_9 l_X6_read_18 (s_J9_min_7cf53) rfl rfl (Nat.le_of_ble_eq_true rfl) ?_
  rw [show (if (300 : Int32) < nI L then (300 : Int32) else nI L) = nI (min L 300) from min_N (b := 300) (by omega) (by decide), Nat.min_eq_left hL]
  refine e_puti d_X6_read_12 f_X6_24 H_re.s (Nat.le_of_ble_eq_true rfl) ?_
  refine e_aloadn d_X6_read_15 rfl ?_
  refine e_iconst (v := 0) d_X6_read_16 (by decide) ?_
  refine e_puti d_X6_read_17 f_X6_28 H_re.s.s (Nat.le_of_ble_eq_true rfl) ?_
  refine e_aloadn d_X6_read_20 rfl ?_
  refine e_iconst (v := 0) d_X6_read_21 (by decide) ?_
  refine e_puti d_X6_read_22 f_X6_31 H_re.s.s.s (Nat.le_of_ble_eq_true rfl) ?_
  refine e_aloadn d_X6_read_25 rfl ?_
  refine e_iconst (v := 0) d_X6_read_26 (by decide) ?_
  refine e_puti d_X6_read_27 f_X6_34 H_re.s.s.s.s (Nat.le_of_ble_eq_true rfl) ?_
  refine e_aloadn d_X6_read_30 rfl ?_
  refine e_iconst (v := -1) d_X6_read_31 (by decide) ?_
  refine e_puti d_X6_read_32 f_X6_37 H_re.s.s.s.s.s (Nat.le_of_ble_eq_true rfl) ?_
  refine e_aloadn d_X6_read_35 rfl ?_
  refine e_aloadn d_X6_read_36 rfl ?_
  refine e_puto d_X6_read_37 f_X6_40 H_re.s.s.s.s.s.s (Nat.le_of_ble_eq_true rfl) ?_
  refine e_aloadn d_X6_read_40 rfl ?_
  refine e_callRVV d_X6_read_41 l_X6_read_44 (((((((H_tx.n (by omega)).n (by omega)).n (by omega)).n (by omega)).n (by omega)).n (by omega)).n (by omega)) rfl rfl (s_X8_clear (TxB.fr (S := [22]) hB ((((((((Fr.refl [22] _).up (by decide)).up (by decide)).up (by decide)).up (by decide)).up (by decide)).up (by decide)).up (by decide)) (by simp))) rfl rfl (Nat.le_of_ble_eq_true rfl) (fun h_41 q_41 s_41 => ?_)
  obtain ⟨hT41, fr_41⟩ := q_41
  have H_re := fr_41.hs H_re.s.s.s.s.s.s.s (by first | decide | (simp; omega))
  have H_rw := fr_41.hs (((((((H_rw.n (by decide)).n (by decide)).n (by decide)).n (by decide)).n (by decide)).n (by decide)).n (by decide)) (by first | decide | (simp; omega))
  have H_tape := fr_41.hs (((((((H_tape.n (by decide)).n (by decide)).n (by decide)).n (by decide)).n (by decide)).n (by decide)).n (by decide)) (by first | decide | (simp; omega))
  refine e_iconst (v := 0) d_X6_read_44 (by decide) ?_
  refine e_istore d_X6_read_45 (by decide) rfl ?_
  have hA_47 : ∀ i, i ≤ (L + 1) → ∀ (k : AH) (F : Unit) (q : Nat) (I : Unit) (y : Int32), (Fr [22, 23, 42 + 4 * tp, 43 + 4 * tp, 44 + 4 * tp, 45 + 4 * tp] h k) → (InR k tp tb L i q R) → (y = nI i) → E M_X6_read (0, 0) (rV (fun h' => RFin h' tp (qr tb L (run isB tb L 0) (4, [], 0, kd0, cd0, -1, -1)) ∧ Fr [22, 23, 42 + 4 * tp, 43 + 4 * tp, 44 + 4 * tp, 45 + 4 * tp] h h')) 47 (k) [some (.ref 22), some (.ref 21), some (.int (nI L)), some (.ref (42 + 4 * tp)), some (.int y)] [] := by
    refine loop_ind (n := (L + 1)) ?_
    intro i hi_i ih_47 k F q I y h_F h_I h_y
    subst h_y
    have H_tape := h_F.hs G_tape (by simp; omega)
    by_cases hq : q = 0
    · refine e_iload d_X6_read_47 rfl ?_
      obtain ⟨a, st, tk, ⟨ph, G, nc, kd, cd, my, ne⟩, hC, hI, haL, hia, hqr⟩ := h_I.2.1 hq
      obtain ⟨a9, b9, c9, d9, e9, f9, wt, H_re, H_rw⟩ := hC.re
      obtain ⟨s9, hs9⟩ : ∃ s9, s9 = run isB tb L a := ⟨_, rfl⟩
      have hsL := run_ge (P := isB) (b := tb) haL
      rw [← hs9] at hsL hqr
      have htk := tok_le (s := s9) (by omega) hb
      obtain ⟨n1, cdc1, ecd1, ⟨-, kinds, edges, code, H_tx, H_tkk, H_te, H_tco, -⟩, -⟩ := id hC
      have h12 := hI.2.2.2.2.2.2.2.2.2.2.2
      have h12 : ph ≤ 6 ∧ ph ≠ 3 := h12
      have H_re0 := H_re
      have hnc10 : nc ≤ 10 := hI.1
      have hkd20 : ∀ i, i < nc → 14 ≤ kd i ∧ kd i ≤ 20 := hI.2.1
      have htot : tot cd nc + (flat G).length ≤ a := hI.2.2.1
      refine e_aloadn d_X6_read_49 rfl ?_
      refine e_get d_X6_read_50 f_X6_24 H_re rfl ?_
      refine e_icmp_gt d_X6_read_53 (fun z => by first | exact absurd (fun z => absurd (i_lt (by omega) (by omega) z) (by omega)) z | exact absurd z (fun z => absurd (i_lt (by omega) (by omega) z) (by omega))) (fun _ => ?_)
      refine e_aloadn d_X6_read_56 rfl ?_
      refine e_get d_X6_read_57 f_X6_34 H_re rfl ?_
      refine e_if_ne d_X6_read_60 (fun z => by first | exact absurd (fun z => z rfl) z | exact absurd z (fun z => z rfl)) (fun _ => ?_)
      refine e_aloadn d_X6_read_63 rfl ?_
      refine e_callRVV d_X6_read_64 l_X6_read_49 H_re rfl rfl (s_X6_next H_re H_tape htb haL hL) rfl rfl (Nat.le_of_ble_eq_true rfl) (fun h_64 q_64 s_64 => ?_)
      obtain ⟨H_re2, fr_64⟩ := q_64
      have H_rw := fr_64.hs H_rw (by first | decide | (simp; omega))
      have H_tape := fr_64.hs H_tape (by first | decide | (simp; omega))
      have H_tx := fr_64.hs H_tx (by first | decide | (simp; omega))
      have H_tkk := fr_64.hs H_tkk (by first | decide | (simp; omega))
      have H_te := fr_64.hs H_te (by first | decide | (simp; omega))
      have H_tco := fr_64.hs H_tco (by first | decide | (simp; omega))
      rw [← hs9] at H_re2
      obtain ⟨n, cdc, ecd, hT2, hn0, hR4, hR2⟩ := RC.next hC H_re0 H_re2 fr_64
      dsimp only at ecd hT2 hn0 hR4 hR2
      refine e_aloadn d_X6_read_67 rfl ?_
      refine e_get d_X6_read_68 f_X6_52 H_re2 rfl ?_
      refine e_bipush (v := 35) d_X6_read_71 (by decide) ?_
      refine e_icmp_ne d_X6_read_73 (fun c73 => ?_) (fun c73 => ?_)
      · have c73 : ¬ (tok tb L s9).1 = 35 := fun z => c73 (by rw [z]; rfl)
        have hne : ¬ ((tok tb L s9).1 = 35 ∧ ph = 4) := fun z => c73 z.1
        have hcd : n = 0 → cdc = cd := fun z => by rw [ecd, z]; exact cdA_nil.symm
        by_cases e4 : ph = 4
        · refine e_aloadn d_X6_read_86 rfl ?_
          refine e_get d_X6_read_87 f_X6_31 H_re2 rfl ?_
          rw [show stN ph = 0 from by rw [e4]; rfl]
          refine e_tab d_X6_read_90 30 120 (by decide) (by decide) (by decide) (by decide) ?_
          refine e_aloadn d_X6_read_120 rfl ?_
          have hg9 : gstep (tok tb L s9).1 (ph, G, nc, kd, cd, my, ne) = gClause (tok tb L s9).1 nc kd cd my ne := by simp only [gstep]; rw [if_pos e4]
          have hcd9 := hcd (hn0 (by omega))
          subst hcd9
          obtain ⟨ki9, hR5, -⟩ := hR4 (by omega)
          rw [show stN ph = 0 from by rw [e4]; rfl] at hR5
          obtain ⟨qq, hqq⟩ : ∃ qq, qq = (gstep (tok tb L s9).1 (ph, G, nc, kd, cdc, my, ne)).1 := ⟨_, rfl⟩
          refine e_callRVV d_X6_read_121 l_X6_read_55 H_re2 rfl rfl (s_X6_takeClause hT2 hR5 (by omega)) rfl rfl (Nat.le_of_ble_eq_true rfl) (fun h_9 q_9 s_9 => ?_)
          refine e_gt d_X6_read_124 ?_
          refine e_iincw (w := 1) d_X6_read_152 rfl (by decide) (by decide) rfl ?_
          refine e_gt d_X6_read_155 ?_
          refine ih_47 (i + 1) (by omega) (by omega) _ () qq () _ ?_ ?_ ?_
          · exact h_F.trans ((fr_64.mono (by simp)).trans q_9.2)
          · rw [hqq, hg9]; exact InR_step hb hg9 hI haL hia hs9 rfl rfl hqr hne q_9.1
          · exact nI_1 i
        · by_cases e5 : ph = 5
          · refine e_aloadn d_X6_read_86 rfl ?_
            refine e_get d_X6_read_87 f_X6_31 H_re2 rfl ?_
            rw [show stN ph = 1 from by rw [e5]; rfl]
            refine e_tab d_X6_read_90 37 127 (by decide) (by decide) (by decide) (by decide) ?_
            refine e_aloadn d_X6_read_127 rfl ?_
            have hg9 : gstep (tok tb L s9).1 (ph, G, nc, kd, cd, my, ne) = gNumber (tok tb L s9).1 nc kd cd my ne := by simp only [gstep]; rw [if_neg e4, if_pos e5]
            have hcd9 := hcd (hn0 (by omega))
            subst hcd9
            obtain ⟨h59, h59k⟩ : 0 < nc ∧ kd (nc - 1) ≤ 15 := hI.2.2.2.2.2.2.2.2.2.2.1 e5
            obtain ⟨ki9, hR5, hk5⟩ := hR4 (by omega)
            rw [show stN ph = 1 from by rw [e5]; rfl, hk5 e5] at hR5
            obtain ⟨qq, hqq⟩ : ∃ qq, qq = (gstep (tok tb L s9).1 (ph, G, nc, kd, cdc, my, ne)).1 := ⟨_, rfl⟩
            refine e_callRVV d_X6_read_128 l_X6_read_58 H_re2 rfl rfl (s_X6_takeNumber hT2 hR5 (by omega) (by omega)) rfl rfl (Nat.le_of_ble_eq_true rfl) (fun h_9 q_9 s_9 => ?_)
            refine e_gt d_X6_read_131 ?_
            refine e_iincw (w := 1) d_X6_read_152 rfl (by decide) (by decide) rfl ?_
            refine e_gt d_X6_read_155 ?_
            refine ih_47 (i + 1) (by omega) (by omega) _ () qq () _ ?_ ?_ ?_
            · exact h_F.trans ((fr_64.mono (by simp)).trans q_9.2)
            · rw [hqq, hg9]; exact InR_step hb hg9 hI haL hia hs9 rfl rfl hqr hne q_9.1
            · exact nI_1 i
          · by_cases e6 : ph = 6
            · refine e_aloadn d_X6_read_86 rfl ?_
              refine e_get d_X6_read_87 f_X6_31 H_re2 rfl ?_
              rw [show stN ph = 2 from by rw [e6]; rfl]
              refine e_tab d_X6_read_90 44 134 (by decide) (by decide) (by decide) (by decide) ?_
              refine e_aloadn d_X6_read_134 rfl ?_
              have hg9 : gstep (tok tb L s9).1 (ph, G, nc, kd, cd, my, ne) = gStop (tok tb L s9).1 nc kd cd my ne := by simp only [gstep]; rw [if_neg e4, if_neg e5, if_pos e6]
              have hcd9 := hcd (hn0 (by omega))
              subst hcd9
              obtain ⟨ki9, hR5, -⟩ := hR4 (by omega)
              rw [show stN ph = 2 from by rw [e6]; rfl] at hR5
              obtain ⟨qq, hqq⟩ : ∃ qq, qq = (gstep (tok tb L s9).1 (ph, G, nc, kd, cdc, my, ne)).1 := ⟨_, rfl⟩
              refine e_callRVV d_X6_read_135 l_X6_read_61 H_re2 rfl rfl (s_X6_takeStop hT2 hR5 (by omega)) rfl rfl (Nat.le_of_ble_eq_true rfl) (fun h_9 q_9 s_9 => ?_)
              refine e_gt d_X6_read_138 ?_
              refine e_iincw (w := 1) d_X6_read_152 rfl (by decide) (by decide) rfl ?_
              refine e_gt d_X6_read_155 ?_
              refine ih_47 (i + 1) (by omega) (by omega) _ () qq () _ ?_ ?_ ?_
              · exact h_F.trans ((fr_64.mono (by simp)).trans q_9.2)
              · rw [hqq, hg9]; exact InR_step hb hg9 hI haL hia hs9 rfl rfl hqr hne q_9.1
              · exact nI_1 i
            · by_cases e2 : ph = 2
              · refine e_aloadn d_X6_read_86 rfl ?_
                refine e_get d_X6_read_87 f_X6_31 H_re2 rfl ?_
                rw [show stN ph = 4 from by rw [e2]; rfl]
                refine e_tabD d_X6_read_90 148 (by decide) (by decide) ?_
                refine e_aloadn d_X6_read_148 rfl ?_
                have hg9 : gstep (tok tb L s9).1 (ph, G, nc, kd, cd, my, ne) = gOperator (tok tb L s9).1 G nc kd (cdA cdc nc (List.replicate n 31)) my ne := by simp only [gstep]; rw [if_neg e4, if_neg e5, if_neg e6, if_pos e2, ecd]
                have hR5 := hR2 (by omega)
                obtain ⟨h09, hC9⟩ : 0 < nc ∧ gC ph G (kd (nc - 1)) (cd (nc - 1)) := hI.2.2.2.2.2.2.2.2.1 (by show ph ≤ 2; omega)
                have hto9 : tot cdc nc + (List.replicate n 31 ++ flat G).length ≤ 300 := by
                  rw [ecd, tot_N h09] at htot
                  rw [List.length_append]; omega
                obtain ⟨qq, hqq⟩ : ∃ qq, qq = (gstep (tok tb L s9).1 (ph, G, nc, kd, cd, my, ne)).1 := ⟨_, rfl⟩
                refine e_callRVV d_X6_read_149 l_X6_read_67 H_re2 rfl rfl (s_X6_takeOperator hT2 (by rw [show stN ph = 4 from by rw [e2]; rfl, show decide (ph = 0) = false from decide_eq_false (by omega)] at hR5; exact hR5) (by rw [e2] at hC9; exact hC9) h09 hto9 (by omega)) rfl rfl (Nat.le_of_ble_eq_true rfl) (fun h_9 q_9 s_9 => ?_)
                refine e_iincw (w := 1) d_X6_read_152 rfl (by decide) (by decide) rfl ?_
                refine e_gt d_X6_read_155 ?_
                refine ih_47 (i + 1) (by omega) (by omega) _ () qq () _ ?_ ?_ ?_
                · exact h_F.trans ((fr_64.mono (by simp)).trans q_9.2)
                · rw [hqq, hg9]; exact InR_step hb hg9 hI haL hia hs9 rfl rfl hqr hne q_9.1
                · exact nI_1 i
              · refine e_aloadn d_X6_read_86 rfl ?_
                refine e_get d_X6_read_87 f_X6_31 H_re2 rfl ?_
                rw [show stN ph = 3 from by unfold stN; rw [if_neg e4, if_neg e5, if_neg e6, if_neg e2]]
                refine e_tab d_X6_read_90 51 141 (by decide) (by decide) (by decide) (by decide) ?_
                refine e_aloadn d_X6_read_141 rfl ?_
                have hg9 : gstep (tok tb L s9).1 (ph, G, nc, kd, cd, my, ne) = gOperand (tok tb L s9).1 ph G nc kd cd my ne := by simp only [gstep]; rw [if_neg e4, if_neg e5, if_neg e6, if_neg e2]
                have hz9 := hn0 (by omega)
                have hcd9 := hcd hz9
                subst hcd9
                have hR5 := hR2 (by omega)
                obtain ⟨h09, hC9⟩ : 0 < nc ∧ gC ph G (kd (nc - 1)) (cdc (nc - 1)) := hI.2.2.2.2.2.2.2.2.1 (by show ph ≤ 2; omega)
                obtain ⟨qq, hqq⟩ : ∃ qq, qq = (gstep (tok tb L s9).1 (ph, G, nc, kd, cdc, my, ne)).1 := ⟨_, rfl⟩
                refine e_callRVV d_X6_read_142 l_X6_read_64 H_re2 rfl rfl (s_X6_takeOperand hT2 (by rw [show stN ph = 3 from by unfold stN; rw [if_neg e4, if_neg e5, if_neg e6, if_neg e2], hz9] at hR5; exact hR5) hC9 (by omega) h09 (fun z => by have := tok_nx hsL.2 z; omega) (by omega)) rfl rfl (Nat.le_of_ble_eq_true rfl) (fun h_9 q_9 s_9 => ?_)
                refine e_gt d_X6_read_145 ?_
                refine e_iincw (w := 1) d_X6_read_152 rfl (by decide) (by decide) rfl ?_
                refine e_gt d_X6_read_155 ?_
                refine ih_47 (i + 1) (by omega) (by omega) _ () qq () _ ?_ ?_ ?_
                · exact h_F.trans ((fr_64.mono (by simp)).trans q_9.2)
                · rw [hqq, hg9]; exact InR_step hb hg9 hI haL hia hs9 rfl rfl hqr hne q_9.1
                · exact nI_1 i
      · have c73 := i_eq (b := 35) (by omega) (by decide) c73
        refine e_aloadn d_X6_read_76 rfl ?_
        refine e_get d_X6_read_77 f_X6_31 H_re2 rfl ?_
        refine e_if_ne d_X6_read_80 (fun c80 => ?_) (fun c80 => ?_)
        · have hne : ¬ ((tok tb L s9).1 = 35 ∧ ph = 4) := fun z => c80 (by rw [z.2]; rfl)
          have hcd : n = 0 → cdc = cd := fun z => by rw [ecd, z]; exact cdA_nil.symm
          by_cases e4 : ph = 4
          · refine e_aloadn d_X6_read_86 rfl ?_
            refine e_get d_X6_read_87 f_X6_31 H_re2 rfl ?_
            rw [show stN ph = 0 from by rw [e4]; rfl]
            refine e_tab d_X6_read_90 30 120 (by decide) (by decide) (by decide) (by decide) ?_
            refine e_aloadn d_X6_read_120 rfl ?_
            have hg9 : gstep (tok tb L s9).1 (ph, G, nc, kd, cd, my, ne) = gClause (tok tb L s9).1 nc kd cd my ne := by simp only [gstep]; rw [if_pos e4]
            have hcd9 := hcd (hn0 (by omega))
            subst hcd9
            obtain ⟨ki9, hR5, -⟩ := hR4 (by omega)
            rw [show stN ph = 0 from by rw [e4]; rfl] at hR5
            obtain ⟨qq, hqq⟩ : ∃ qq, qq = (gstep (tok tb L s9).1 (ph, G, nc, kd, cdc, my, ne)).1 := ⟨_, rfl⟩
            refine e_callRVV d_X6_read_121 l_X6_read_55 H_re2 rfl rfl (s_X6_takeClause hT2 hR5 (by omega)) rfl rfl (Nat.le_of_ble_eq_true rfl) (fun h_9 q_9 s_9 => ?_)
            refine e_gt d_X6_read_124 ?_
            refine e_iincw (w := 1) d_X6_read_152 rfl (by decide) (by decide) rfl ?_
            refine e_gt d_X6_read_155 ?_
            refine ih_47 (i + 1) (by omega) (by omega) _ () qq () _ ?_ ?_ ?_
            · exact h_F.trans ((fr_64.mono (by simp)).trans q_9.2)
            · rw [hqq, hg9]; exact InR_step hb hg9 hI haL hia hs9 rfl rfl hqr hne q_9.1
            · exact nI_1 i
          · by_cases e5 : ph = 5
            · refine e_aloadn d_X6_read_86 rfl ?_
              refine e_get d_X6_read_87 f_X6_31 H_re2 rfl ?_
              rw [show stN ph = 1 from by rw [e5]; rfl]
              refine e_tab d_X6_read_90 37 127 (by decide) (by decide) (by decide) (by decide) ?_
              refine e_aloadn d_X6_read_127 rfl ?_
              have hg9 : gstep (tok tb L s9).1 (ph, G, nc, kd, cd, my, ne) = gNumber (tok tb L s9).1 nc kd cd my ne := by simp only [gstep]; rw [if_neg e4, if_pos e5]
              have hcd9 := hcd (hn0 (by omega))
              subst hcd9
              obtain ⟨h59, h59k⟩ : 0 < nc ∧ kd (nc - 1) ≤ 15 := hI.2.2.2.2.2.2.2.2.2.2.1 e5
              obtain ⟨ki9, hR5, hk5⟩ := hR4 (by omega)
              rw [show stN ph = 1 from by rw [e5]; rfl, hk5 e5] at hR5
              obtain ⟨qq, hqq⟩ : ∃ qq, qq = (gstep (tok tb L s9).1 (ph, G, nc, kd, cdc, my, ne)).1 := ⟨_, rfl⟩
              refine e_callRVV d_X6_read_128 l_X6_read_58 H_re2 rfl rfl (s_X6_takeNumber hT2 hR5 (by omega) (by omega)) rfl rfl (Nat.le_of_ble_eq_true rfl) (fun h_9 q_9 s_9 => ?_)
              refine e_gt d_X6_read_131 ?_
              refine e_iincw (w := 1) d_X6_read_152 rfl (by decide) (by decide) rfl ?_
              refine e_gt d_X6_read_155 ?_
              refine ih_47 (i + 1) (by omega) (by omega) _ () qq () _ ?_ ?_ ?_
              · exact h_F.trans ((fr_64.mono (by simp)).trans q_9.2)
              · rw [hqq, hg9]; exact InR_step hb hg9 hI haL hia hs9 rfl rfl hqr hne q_9.1
              · exact nI_1 i
            · by_cases e6 : ph = 6
              · refine e_aloadn d_X6_read_86 rfl ?_
                refine e_get d_X6_read_87 f_X6_31 H_re2 rfl ?_
                rw [show stN ph = 2 from by rw [e6]; rfl]
                refine e_tab d_X6_read_90 44 134 (by decide) (by decide) (by decide) (by decide) ?_
                refine e_aloadn d_X6_read_134 rfl ?_
                have hg9 : gstep (tok tb L s9).1 (ph, G, nc, kd, cd, my, ne) = gStop (tok tb L s9).1 nc kd cd my ne := by simp only [gstep]; rw [if_neg e4, if_neg e5, if_pos e6]
                have hcd9 := hcd (hn0 (by omega))
                subst hcd9
                obtain ⟨ki9, hR5, -⟩ := hR4 (by omega)
                rw [show stN ph = 2 from by rw [e6]; rfl] at hR5
                obtain ⟨qq, hqq⟩ : ∃ qq, qq = (gstep (tok tb L s9).1 (ph, G, nc, kd, cdc, my, ne)).1 := ⟨_, rfl⟩
                refine e_callRVV d_X6_read_135 l_X6_read_61 H_re2 rfl rfl (s_X6_takeStop hT2 hR5 (by omega)) rfl rfl (Nat.le_of_ble_eq_true rfl) (fun h_9 q_9 s_9 => ?_)
                refine e_gt d_X6_read_138 ?_
                refine e_iincw (w := 1) d_X6_read_152 rfl (by decide) (by decide) rfl ?_
                refine e_gt d_X6_read_155 ?_
                refine ih_47 (i + 1) (by omega) (by omega) _ () qq () _ ?_ ?_ ?_
                · exact h_F.trans ((fr_64.mono (by simp)).trans q_9.2)
                · rw [hqq, hg9]; exact InR_step hb hg9 hI haL hia hs9 rfl rfl hqr hne q_9.1
                · exact nI_1 i
              · by_cases e2 : ph = 2
                · refine e_aloadn d_X6_read_86 rfl ?_
                  refine e_get d_X6_read_87 f_X6_31 H_re2 rfl ?_
                  rw [show stN ph = 4 from by rw [e2]; rfl]
                  refine e_tabD d_X6_read_90 148 (by decide) (by decide) ?_
                  refine e_aloadn d_X6_read_148 rfl ?_
                  have hg9 : gstep (tok tb L s9).1 (ph, G, nc, kd, cd, my, ne) = gOperator (tok tb L s9).1 G nc kd (cdA cdc nc (List.replicate n 31)) my ne := by simp only [gstep]; rw [if_neg e4, if_neg e5, if_neg e6, if_pos e2, ecd]
                  have hR5 := hR2 (by omega)
                  obtain ⟨h09, hC9⟩ : 0 < nc ∧ gC ph G (kd (nc - 1)) (cd (nc - 1)) := hI.2.2.2.2.2.2.2.2.1 (by show ph ≤ 2; omega)
                  have hto9 : tot cdc nc + (List.replicate n 31 ++ flat G).length ≤ 300 := by
                    rw [ecd, tot_N h09] at htot
                    rw [List.length_append]; omega
                  obtain ⟨qq, hqq⟩ : ∃ qq, qq = (gstep (tok tb L s9).1 (ph, G, nc, kd, cd, my, ne)).1 := ⟨_, rfl⟩
                  refine e_callRVV d_X6_read_149 l_X6_read_67 H_re2 rfl rfl (s_X6_takeOperator hT2 (by rw [show stN ph = 4 from by rw [e2]; rfl, show decide (ph = 0) = false from decide_eq_false (by omega)] at hR5; exact hR5) (by rw [e2] at hC9; exact hC9) h09 hto9 (by omega)) rfl rfl (Nat.le_of_ble_eq_true rfl) (fun h_9 q_9 s_9 => ?_)
                  refine e_iincw (w := 1) d_X6_read_152 rfl (by decide) (by decide) rfl ?_
                  refine e_gt d_X6_read_155 ?_
                  refine ih_47 (i + 1) (by omega) (by omega) _ () qq () _ ?_ ?_ ?_
                  · exact h_F.trans ((fr_64.mono (by simp)).trans q_9.2)
                  · rw [hqq, hg9]; exact InR_step hb hg9 hI haL hia hs9 rfl rfl hqr hne q_9.1
                  · exact nI_1 i
                · refine e_aloadn d_X6_read_86 rfl ?_
                  refine e_get d_X6_read_87 f_X6_31 H_re2 rfl ?_
                  rw [show stN ph = 3 from by unfold stN; rw [if_neg e4, if_neg e5, if_neg e6, if_neg e2]]
                  refine e_tab d_X6_read_90 51 141 (by decide) (by decide) (by decide) (by decide) ?_
                  refine e_aloadn d_X6_read_141 rfl ?_
                  have hg9 : gstep (tok tb L s9).1 (ph, G, nc, kd, cd, my, ne) = gOperand (tok tb L s9).1 ph G nc kd cd my ne := by simp only [gstep]; rw [if_neg e4, if_neg e5, if_neg e6, if_neg e2]
                  have hz9 := hn0 (by omega)
                  have hcd9 := hcd hz9
                  subst hcd9
                  have hR5 := hR2 (by omega)
                  obtain ⟨h09, hC9⟩ : 0 < nc ∧ gC ph G (kd (nc - 1)) (cdc (nc - 1)) := hI.2.2.2.2.2.2.2.2.1 (by show ph ≤ 2; omega)
                  obtain ⟨qq, hqq⟩ : ∃ qq, qq = (gstep (tok tb L s9).1 (ph, G, nc, kd, cdc, my, ne)).1 := ⟨_, rfl⟩
                  refine e_callRVV d_X6_read_142 l_X6_read_64 H_re2 rfl rfl (s_X6_takeOperand hT2 (by rw [show stN ph = 3 from by unfold stN; rw [if_neg e4, if_neg e5, if_neg e6, if_neg e2], hz9] at hR5; exact hR5) hC9 (by omega) h09 (fun z => by have := tok_nx hsL.2 z; omega) (by omega)) rfl rfl (Nat.le_of_ble_eq_true rfl) (fun h_9 q_9 s_9 => ?_)
                  refine e_gt d_X6_read_145 ?_
                  refine e_iincw (w := 1) d_X6_read_152 rfl (by decide) (by decide) rfl ?_
                  refine e_gt d_X6_read_155 ?_
                  refine ih_47 (i + 1) (by omega) (by omega) _ () qq () _ ?_ ?_ ?_
                  · exact h_F.trans ((fr_64.mono (by simp)).trans q_9.2)
                  · rw [hqq, hg9]; exact InR_step hb hg9 hI haL hia hs9 rfl rfl hqr hne q_9.1
                  · exact nI_1 i
        · have hp4 : ph = 4 := stN_4 h12 ((nI_eq (a := stN ph) (b := 0) (by have := stN_le ph; omega) (by decide)).mp c80)
          have ecd0 : cdc = cd := by rw [ecd, hn0 (by omega)]; exact cdA_nil.symm
          refine e_gt d_X6_read_83 ?_
          exact e_vret d_X6_read_158 rfl (⟨rfl, Or.inl ⟨by rw [hRd, ← hqr, qr_end hsL.2 c73 hp4], ⟨_, _, _, _, _, _, _, _, _, _, _, _, H_re2⟩, ⟨wt, H_rw⟩, by rw [hRd, ← hqr, qr_end hsL.2 c73 hp4]; rw [← ecd0]; exact hT2, ⟨a, by rw [hRd, ← hqr, qr_end hsL.2 c73 hp4]; exact hI, by rw [hRd, ← hqr, qr_end hsL.2 c73 hp4]; exact hp4⟩⟩, h_F.trans (fr_64.mono (by simp))⟩)
    · refine e_iload d_X6_read_47 rfl ?_
      obtain ⟨s8, S8, ⟨⟨a9, b9, c9, l9, m9, n9, o9, p9, d9, e9, f9, x9, H_re⟩, wt, H_rw⟩, hB8, hR8⟩ := h_I.2.2 hq
      refine e_aloadn d_X6_read_49 rfl ?_
      refine e_get d_X6_read_50 f_X6_24 H_re rfl ?_
      refine e_icmp_gt d_X6_read_53 (fun c_53 => ?_) (fun c_53 => ?_)
      · exact e_vret d_X6_read_158 rfl (⟨rfl, by rw [hRd, hR8]; exact Or.inr ⟨hq, ⟨⟨_, _, _, _, _, _, _, _, _, _, _, _, H_re⟩, wt, H_rw⟩, hB8⟩, h_F⟩)
      · refine e_aloadn d_X6_read_56 rfl ?_
        refine e_get d_X6_read_57 f_X6_34 H_re rfl ?_
        refine e_if_ne d_X6_read_60 (fun _ => ?_) (fun z => by first | exact absurd (fun z => hq ((nI_eq (b := 0) (by have := h_I.1; omega) (by decide)).mp z)) z | exact absurd z (fun z => hq ((nI_eq (b := 0) (by have := h_I.1; omega) (by decide)).mp z)))
        exact e_vret d_X6_read_158 rfl (⟨rfl, by rw [hRd, hR8]; exact Or.inr ⟨hq, ⟨⟨_, _, _, _, _, _, _, _, _, _, _, _, H_re⟩, wt, H_rw⟩, hB8⟩, h_F⟩)
  exact hA_47 0 (by omega) _ () 0 () _ ((((((((((Fr.refl [22] _).up (by decide)).up (by decide)).up (by decide)).up (by decide)).up (by decide)).up (by decide)).up (by decide)).mono (by simp)).trans (fr_41.mono (by simp))) (⟨Nat.zero_le _, fun _ => ⟨0, _, _, (4, [], 0, kd0, cd0, -1, -1), RC_ini (hT41 kd0 cd0) H_re H_rw, gI_0, Nat.zero_le _, Nat.le_refl _, hRd⟩, fun z => absurd rfl z⟩) (rfl)
