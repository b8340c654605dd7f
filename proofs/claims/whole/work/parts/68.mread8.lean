/-! THE MODEL'S READER: clauses -/
def ClR (h : AH) (tb : Nat → Nat) (L s : Nat) (R : Nat × Nat × PS) : Prop := (∃ s1 S1, R = qr tb L s1 S1 ∧ s < s1 ∧ s1 ≤ L ∧ gI S1 s1 ∧ MCs h tb L s1 S1) ∨ (∃ q s1 S1, q ≠ 0 ∧ q ≤ 6 ∧ R = (q, s1, S1) ∧ MdE h q s1)
theorem qr_st {tb : Nat → Nat} {L s : Nat} {S S' : PS} (hb : ∀ k, k < L → tb k < 256) (hsL : s ≤ L) (hI : gI S s) (hne : ¬ ((tok tb L s).1 = 35 ∧ S.1 = 4)) (hg : gstep (tok tb L s).1 S = (0, S')) : qr tb L s S = qr tb L (run isB tb L (tok tb L s).2) S' ∧ s < run isB tb L (tok tb L s).2 ∧ run isB tb L (tok tb L s).2 ≤ L ∧ gI S' (run isB tb L (tok tb L s).2) := by
  obtain ⟨h1, h2, h3, h4⟩ := qr_ok hb hsL hne hg
  have hr := run_ge (P := isB) (b := tb) h4
  exact ⟨h1, by omega, hr.2, gI_mono (gI_step hI hg) (by omega)⟩
theorem ClR_of {h : AH} {tb : Nat → Nat} {L s : Nat} {S : PS} {r : Nat × PS} (hb : ∀ k, k < L → tb k < 256) (hsL : s ≤ L) (hI : gI S s) (hne : ¬ ((tok tb L s).1 = 35 ∧ S.1 = 4)) (hg : gstep (tok tb L s).1 S = r) (hq : MqR h tb L s r) : ClR h tb L s (qr tb L s S) := by
  rcases hq with ⟨h0, hC⟩ | ⟨h0, hE⟩
  · obtain ⟨e1, e2, e3, e4⟩ := qr_st hb hsL hI hne (S' := r.2) (by rw [hg]; exact Prod.ext h0 rfl)
    exact Or.inl ⟨_, _, e1, e2, e3, e4, hC⟩
  · refine Or.inr ⟨r.1, s, S, h0, by rw [← hg]; exact gs_le, ?_, hE⟩
    exact qr_bad hsL hne (hg.trans (Prod.ext rfl rfl : r = (r.1, r.2))) h0
theorem ClR_tr {h : AH} {tb : Nat → Nat} {L s s2 : Nat} {R : Nat × Nat × PS} (hs : s < s2) (hC : ClR h tb L s2 R) : ClR h tb L s R := by
  rcases hC with ⟨s1, S1, e, h1, h2⟩ | q
  · exact Or.inl ⟨s1, S1, e, by omega, h2⟩
  · exact Or.inr q
theorem mtt_up {nd t : Nat} {kd : Nat → Nat} {cd : Nat → List Nat} {i : Nat} (hi : i ≤ nd) : mtt (va_up kd nd t) (va_up cd nd []) i = mtt kd cd i := mtt_cong (fun j hj => ⟨va_up_ne _ _ (by omega), va_up_ne _ _ (by omega)⟩)
theorem MN_new {nd r t : Nat} {kd : Nat → Nat} {cd : Nat → List Nat} {my ne my' ne' x : Int32} {nw nn na no nv : Nat → Int32} (h6 : ∀ i, i < nd → nw i = nI (kd i - 14) ∧ (kd i = 14 → nn i = my) ∧ (kd i = 15 → nn i = ne) ∧ (16 ≤ kd i → na i = nI (mtt kd cd i) ∧ no (mtt kd cd i + (cd i).length) = 408 ∧ CLp no nv (mtt kd cd i) (cd i))) (hm : ∀ i, i < nd → kd i = 14 → my' = my) (hn : ∀ i, i < nd → kd i = 15 → ne' = ne) :
    ∀ i, i < nd → va_up nw nd (nI (t - 14)) i = nI (va_up kd nd t i - 14) ∧ (va_up kd nd t i = 14 → va_up nn nd x i = my') ∧ (va_up kd nd t i = 15 → va_up nn nd x i = ne') ∧ (16 ≤ va_up kd nd t i → va_up na nd (nI r) i = nI (mtt (va_up kd nd t) (va_up cd nd []) i) ∧ no (mtt (va_up kd nd t) (va_up cd nd []) i + (va_up cd nd [] i).length) = 408 ∧ CLp no nv (mtt (va_up kd nd t) (va_up cd nd []) i) (va_up cd nd [] i)) := by
  intro i hi
  rw [va_up_ne _ _ (by omega), va_up_ne _ _ (by omega), va_up_ne _ _ (by omega), va_up_ne _ _ (by omega), mtt_up (by omega), va_up_ne _ _ (by omega)]
  obtain ⟨q1, q2, q3, q4⟩ := h6 i hi
  exact ⟨q1, fun z => by rw [hm i hi z]; exact q2 z, fun z => by rw [hn i hi z]; exact q3 z, q4⟩
/-- a clause begins -/
theorem MN_begin {h : AH} {nd r t : Nat} {kd : Nat → Nat} {cd : Nat → List Nat} {my ne : Int32} {nw nn na no nv : Nat → Int32} {x : Int32} (h6 : ∀ i, i < nd → nw i = nI (kd i - 14) ∧ (kd i = 14 → nn i = my) ∧ (kd i = 15 → nn i = ne) ∧ (16 ≤ kd i → na i = nI (mtt kd cd i) ∧ no (mtt kd cd i + (cd i).length) = 408 ∧ CLp no nv (mtt kd cd i) (cd i))) (hr : r = mtt kd cd nd) (g1 : Hs h 80 (aI 10 (va_up nw nd (nI (t - 14))))) (g2 : Hs h 81 (aI 10 (va_up nn nd x))) (g3 : Hs h 82 (aI 10 (va_up na nd (nI r)))) (g4 : Hs h 83 (aI 400 no)) (g5 : Hs h 84 (aI 400 nv)) : MN h nd true (va_up kd nd t) (va_up cd nd []) my ne r := by
  refine ⟨_, _, _, _, _, g1, g2, g3, g4, g5, MN_new h6 (fun _ _ _ => rfl) (fun _ _ _ => rfl), ?_, fun _ => ⟨?_, ?_, ?_⟩⟩
  · rw [mtt_up (Nat.le_refl _), va_up_self, hr]; rfl
  · rw [va_up_self, va_up_self]
  · rw [va_up_self, mtt_up (Nat.le_refl _), hr]
  · rw [va_up_self]
    intro j v hj
    simp at hj
/-- a clause of a number is over -/
theorem MN_num {h : AH} {nd r t : Nat} {kd : Nat → Nat} {cd : Nat → List Nat} {my ne my' ne' : Int32} {nw nn na no nv : Nat → Int32} {x : Int32} (h6 : ∀ i, i < nd → nw i = nI (kd i - 14) ∧ (kd i = 14 → nn i = my) ∧ (kd i = 15 → nn i = ne) ∧ (16 ≤ kd i → na i = nI (mtt kd cd i) ∧ no (mtt kd cd i + (cd i).length) = 408 ∧ CLp no nv (mtt kd cd i) (cd i))) (hr : r = mtt kd cd nd) (ht : t = 14 ∨ t = 15) (hno : ∀ i, i < nd → kd i ≠ t) (hm : my' = if t = 14 then x else my) (hn : ne' = if t = 15 then x else ne) (g1 : Hs h 80 (aI 10 (va_up nw nd (nI (t - 14))))) (g2 : Hs h 81 (aI 10 (va_up nn nd x))) (g3 : Hs h 82 (aI 10 (va_up na nd (nI r)))) (g4 : Hs h 83 (aI 400 no)) (g5 : Hs h 84 (aI 400 nv)) : MN h (nd + 1) false (va_up kd nd t) (va_up cd nd []) my' ne' r := by
  refine ⟨_, _, _, _, _, g1, g2, g3, g4, g5, fun i hi => ?_, ?_, fun z => by cases z⟩
  · by_cases e : i = nd
    · subst e
      rw [va_up_self, va_up_self, va_up_self]
      exact ⟨rfl, fun z => by rw [hm, if_pos z], fun z => by rw [hn, if_pos z], fun z => by omega⟩
    · exact MN_new h6 (fun j hj hk => by rw [hm, if_neg (fun z => hno j hj (by omega))]) (fun j hj hk => by rw [hn, if_neg (fun z => hno j hj (by omega))]) i (by omega)
  · rw [mtt_S, va_up_self, if_neg (by omega), mtt_up (Nat.le_refl _), hr]; simp

theorem mcc_6 : ∀ w, w ≤ 6 → mcc w = 14 + w := by decide +kernel
theorem mcc_7 : ∀ w, w < 21 → 6 < w → mcc w < 14 := by decide +kernel
theorem va_up2 {f : Nat → Int32} {i : Nat} {a b : Int32} : va_up (va_up f i a) i b = va_up f i b := by
  funext j
  by_cases e : j = i
  · subst e; rw [va_up_self, va_up_self]
  · rw [va_up_ne _ _ e, va_up_ne _ _ e, va_up_ne _ _ e]
theorem Hs.s9 {h : AH} {a : Nat} {c c1 c2 : AC} (H : Hs h a c) (e : c1 = c2) : Hs (up h a c1) a c2 := by subst e; exact H.s
theorem MdE_up {h : AH} {q s k : Nat} {c : AC} (H : MdE h q s) (hk : 66 ≠ k := by decide) : MdE (up h k c) q s := by
  obtain ⟨a1, a2, a3, a4, a5, a6, a7, a8, a9, b1, b2, b3, b4, b5, b6, c1, c2, c3, c4, H⟩ := H
  exact ⟨a1, a2, a3, a4, a5, a6, a7, a8, a9, b1, b2, b3, b4, b5, b6, c1, c2, c3, c4, H.n hk⟩

theorem s_X11_clause {h : AH} {tb : Nat → Nat} {L s nd r : Nat} {nk : Int32} {kd : Nat → Nat} {cd : Nat → List Nat} {my ne : Int32} {mt : Nat → Int32} (hP : MdP h tb L s 0 (-1) 0 0 0 nd r 4 nk) (hGs : MGs h []) (hN : MN h nd false kd cd my ne r) (H_mtape : Hs h 69 (aB 300 mt)) (hmt : ∀ k, k < 300 → mt k = sbI (tb k) ∧ tb k < 256) (hsL : s ≤ L) (hL : L ≤ 300) (hb : ∀ k, k < L → tb k < 256) (hI : gI (4, [], nd, kd, cd, my, ne) s) (hne : ¬ ((tok tb L s).1 = 35 ∧ 4 = 4)) : Sp M_X11_clause (0, 0) h [.ref 66] (rV (fun h' => ClR h' tb L s (qr tb L s (4, [], nd, kd, cd, my, ne)) ∧ Fr [66, 76, 77, 78, 79, 80, 81, 82, 83, 84] h h')) := by
  refine ⟨Nat.le_of_ble_eq_true rfl, ?_⟩
  show E _ _ _ 0 h [some (.ref 66)] []
  obtain ⟨so, to, mfl, mfa, mdn, mup, mlo, mgu, mgl, H_md, htk⟩ := id hP
  obtain ⟨nw, nn, na, no, nv, H_mnw, H_mnn, H_mna, H_mno, H_mnv, hdone, hr, hcur⟩ := id hN
  have hr0 : r = mtt kd cd nd := hr
  have hnd : nd ≤ 10 := hI.1
  have hkd : ∀ i, i < nd → 14 ≤ kd i ∧ kd i ≤ 20 := hI.2.1
  have hgs : gstep (tok tb L s).1 (4, [], nd, kd, cd, my, ne) = gClause (tok tb L s).1 nd kd cd my ne := by simp only [gstep]; rw [if_pos trivial]
  refine e_aloadn d_X11_clause_0 rfl ?_
  refine e_get d_X11_clause_1 f_X11_200 H_md rfl ?_
  refine e_iconst (v := 1) d_X11_clause_4 (by decide) ?_
  refine e_icmp_ne d_X11_clause_5 (fun c5 => ?_) (fun c5 => ?_)
  · have c5 : ¬ (tok tb L s).1 < 21 := fun z => c5 ((tk_word htk).mpr z)
    refine e_aloadn d_X11_clause_17 rfl ?_
    refine e_iconst (v := 1) d_X11_clause_18 (by decide) ?_
    have hg : (gClause (tok tb L s).1 nd kd cd my ne).1 = 1 := by
      unfold gClause
      rw [if_pos (by omega)]
    refine e_callRVV d_X11_clause_19 l_X11_clause_231 H_md rfl rfl (s_X11_errs2 (q := 1) (MdP.mk H_md htk)) rfl rfl (Nat.le_of_ble_eq_true rfl) (fun h_19 q_19 s_19 => ?_)
    obtain ⟨_, _, _, _, _, _, _, _, _, _, _, _, _, _, _, _, _, _, _, H_mdE⟩ := id q_19.1
    exact e_vret d_X11_clause_22 rfl (⟨rfl, ClR_of hb hsL hI hne hgs (MqR_bad hg (by decide) q_19.1), q_19.2.mono (by decide)⟩)
  · have c5 : (tok tb L s).1 < 21 := (tk_word htk).mp (by first | exact c5 | exact Decidable.of_not_not c5)
    obtain ⟨w, hw1, hw2, hw3⟩ := tk_w htk c5
    subst hw2
    refine e_aloadn d_X11_clause_8 rfl ?_
    refine e_get d_X11_clause_9 f_X11_212 H_md rfl ?_
    refine e_bipush (v := 6) d_X11_clause_12 (by decide) ?_
    refine e_icmp_le d_X11_clause_14 (fun c14 => ?_) (fun c14 => ?_)
    · have c14 := i_le (a := w) (b := 6) (by omega) (by decide) c14
      obtain ⟨hwt, hwt2⟩ : w = (tok tb L s).1 - 14 ∧ 14 ≤ (tok tb L s).1 ∧ (tok tb L s).1 ≤ 20 := by have := mcc_6 w c14; omega
      rw [hwt] at H_md htk
      refine e_aloadn d_X11_clause_23 rfl ?_
      refine e_aloadn d_X11_clause_24 rfl ?_
      refine e_get d_X11_clause_25 f_X11_212 H_md rfl ?_
      refine e_puti d_X11_clause_28 f_X11_263 H_md (Nat.le_of_ble_eq_true rfl) ?_
      refine e_aloadn d_X11_clause_31 rfl ?_
      refine e_get d_X11_clause_32 f_X11_263 H_md.s rfl ?_
      refine e_iconst (v := 2) d_X11_clause_35 (by decide) ?_
      refine e_icmp_gt d_X11_clause_36 (fun c36 => ?_) (fun c36 => ?_)
      · have c36 := i_lt (a := 2) (b := (tok tb L s).1 - 14) (by decide) (by omega) c36
        have hno : ¬ ((tok tb L s).1 ≤ 16 ∧ hasK nd kd (tok tb L s).1 = true) := fun z => by omega
        refine e_aloadn d_X11_clause_58 rfl ?_
        refine e_get d_X11_clause_59 f_X11_290 H_md.s rfl ?_
        refine e_bipush (v := 10) d_X11_clause_62 (by decide) ?_
        refine e_icmp_ne d_X11_clause_64 (fun c64 => ?_) (fun c64 => ?_)
        · have h10 : ¬ 10 ≤ nd := fun z => c64 (by rw [show nd = 10 by omega]; rfl)
          refine e_aloadn d_X11_clause_73 rfl ?_
          refine e_get d_X11_clause_74 f_X11_216 H_md.s rfl ?_
          refine e_if_le d_X11_clause_77 (fun _ => ?_) (fun z => by first | exact absurd (by decide) z | exact absurd z (by decide))
          refine e_aloadn d_X11_clause_81 rfl ?_
          refine e_get d_X11_clause_82 f_X11_57 H_md.s rfl ?_
          refine e_aloadn d_X11_clause_85 rfl ?_
          refine e_get d_X11_clause_86 f_X11_290 H_md.s rfl ?_
          refine e_aloadn d_X11_clause_89 rfl ?_
          refine e_get d_X11_clause_90 f_X11_263 H_md.s rfl ?_
          refine e_iastN (k := nd) d_X11_clause_93 (H_mnw.n (by decide)) rfl (by omega) (by omega) ?_
          refine e_aloadn d_X11_clause_94 rfl ?_
          refine e_get d_X11_clause_95 f_X11_60 (H_md.s.n (by decide)) rfl ?_
          refine e_aloadn d_X11_clause_98 rfl ?_
          refine e_get d_X11_clause_99 f_X11_290 (H_md.s.n (by decide)) rfl ?_
          refine e_iconst (v := 0) d_X11_clause_102 (by decide) ?_
          refine e_iastN (k := nd) d_X11_clause_103 ((H_mnn.n (by decide)).n (by decide)) rfl (by omega) (by omega) ?_
          refine e_aloadn d_X11_clause_104 rfl ?_
          refine e_get d_X11_clause_105 f_X11_63 ((H_md.s.n (by decide)).n (by decide)) rfl ?_
          refine e_aloadn d_X11_clause_108 rfl ?_
          refine e_get d_X11_clause_109 f_X11_290 ((H_md.s.n (by decide)).n (by decide)) rfl ?_
          refine e_aloadn d_X11_clause_112 rfl ?_
          refine e_get d_X11_clause_113 f_X11_222 ((H_md.s.n (by decide)).n (by decide)) rfl ?_
          refine e_iastN (k := nd) d_X11_clause_116 (((H_mna.n (by decide)).n (by decide)).n (by decide)) rfl (by omega) (by omega) ?_
          refine e_aloadn d_X11_clause_117 rfl ?_
          refine e_callRVV d_X11_clause_118 l_X11_clause_237 (((H_md.s.n (by decide)).n (by decide)).n (by decide)) rfl rfl (s_X11_next2 (MdP.mk (((H_md.s.n (by decide)).n (by decide)).n (by decide)) htk) ((((H_mtape.n (by decide)).n (by decide)).n (by decide)).n (by decide)) hmt (tok_nx hsL (by omega)).2.2 hL) rfl rfl (Nat.le_of_ble_eq_true rfl) (fun h_118 q_118 s_118 => ?_)
          obtain ⟨hP118, fr_118⟩ := q_118
          have H_mnw118 := fr_118.hs (((((H_mnw.n (by decide)).s).n (by decide)).n (by decide))) (by decide)
          have H_mnn118 := fr_118.hs (((((H_mnn.n (by decide)).n (by decide)).s).n (by decide))) (by decide)
          have H_mna118 := fr_118.hs (((((H_mna.n (by decide)).n (by decide)).n (by decide)).s)) (by decide)
          obtain ⟨so118, to118, mfl118, mfa118, mdn118, mup118, mlo118, mgu118, mgl118, H_md118, htk118⟩ := id hP118
          refine e_aloadn d_X11_clause_121 rfl ?_
          refine e_get d_X11_clause_122 f_X11_263 H_md118 rfl ?_
          refine e_iconst (v := 1) d_X11_clause_125 (by decide) ?_
          refine e_icmp_le d_X11_clause_126 (fun c126 => ?_) (fun c126 => ?_)
          · have c126 := i_le (a := (tok tb L s).1 - 14) (b := 1) (by omega) (by decide) c126
            have hnc : gstep (tok tb L s).1 (4, [], nd, kd, cd, my, ne) = (0, (5, [], nd + 1, (va_up kd nd (tok tb L s).1), (va_up cd nd []), my, ne)) := by rw [hgs]; unfold gClause; rw [if_neg (by omega), if_neg hno, if_neg h10, if_pos (show (tok tb L s).1 ≤ 15 by omega), if_pos (show (tok tb L s).1 ≤ 15 by omega)]
            obtain ⟨s2, hs2⟩ : ∃ s2, s2 = run isB tb L (tok tb L s).2 := ⟨_, rfl⟩
            rw [← hs2] at hP118 H_md118 htk118
            obtain ⟨e1, e2, e3, e4⟩ := qr_st hb hsL hI hne hnc
            rw [← hs2] at e1 e2 e3 e4
            have hgsn : gstep (tok tb L s2).1 (5, [], nd + 1, (va_up kd nd (tok tb L s).1), (va_up cd nd []), my, ne) = gNumber (tok tb L s2).1 (nd + 1) (va_up kd nd (tok tb L s).1) (va_up cd nd []) my ne := by simp only [gstep]; rw [if_neg (by decide), if_pos trivial]
            have hno9 : ∀ i, i < nd → kd i ≠ (tok tb L s).1 := hasK_f (by
              cases e : hasK nd kd (tok tb L s).1
              · rfl
              · exact absurd ⟨by omega, e⟩ hno)
            refine e_aloadn d_X11_clause_164 rfl ?_
            refine e_get d_X11_clause_165 f_X11_60 H_md118 rfl ?_
            refine e_aloadn d_X11_clause_168 rfl ?_
            refine e_get d_X11_clause_169 f_X11_290 H_md118 rfl ?_
            refine e_aloadn d_X11_clause_172 rfl ?_
            refine e_iconst (v := 0) d_X11_clause_173 (by decide) ?_
            refine e_aloadn d_X11_clause_174 rfl ?_
            refine e_get d_X11_clause_175 f_X11_263 H_md118 rfl ?_
            refine e_if_ne d_X11_clause_178 (fun c178 => ?_) (fun c178 => ?_)
            · have ht14 : ¬ (tok tb L s).1 = 14 := fun z => c178 (by rw [z]; rfl)
              refine e_sipush (v := 9999) d_X11_clause_186 (by decide) ?_
              refine e_callRVI d_X11_clause_189 l_X11_clause_296 H_md118 rfl rfl (s_X11_number (hi := 9999) hP118 (fr_118.hs ((((H_mtape.n (by decide)).n (by decide)).n (by decide)).n (by decide)) (by decide)) hmt e3 hL (by decide)) rfl rfl (Nat.le_of_ble_eq_true rfl) (fun x_189 h_189 q_189 s_189 => ?_)
              obtain ⟨hD9, fr_189⟩ := q_189
              have H_mnn9 := fr_189.hs (H_mnn118) (by decide)
              have hlim : limN ((va_up kd nd (tok tb L s).1) (nd + 1 - 1)) = 9999 := by rw [show nd + 1 - 1 = nd from rfl, va_up_self]; unfold limN; first | (rw [if_pos (by omega)]; done) | (rw [if_neg (by omega)]; done)
              by_cases hok : 100 ≤ (tok tb L s2).1 ∧ (tok tb L s2).1 - 100 ≤ limN ((va_up kd nd (tok tb L s).1) (nd + 1 - 1))
              · rw [hlim] at hok
                obtain ⟨-, -, hx9, hP189⟩ : 100 ≤ (tok tb L s2).1 ∧ (tok tb L s2).1 - 100 ≤ 9999 ∧ x_189 = nI ((tok tb L s2).1 - 100) ∧ _ := by
                  rcases hD9 with ⟨d1, -⟩ | ⟨d1, d2, -⟩ | d
                  · exact absurd hok.1 (by omega)
                  · exact absurd hok.2 (by omega)
                  · exact d
                obtain ⟨s3, hs3⟩ : ∃ s3, s3 = (run isB tb L (tok tb L s2).2) := ⟨_, rfl⟩
                rw [← hs3] at hP189
                obtain ⟨S3, hS3⟩ : ∃ S3 : PS, S3 = (6, [], nd + 1, (va_up kd nd (tok tb L s).1), (va_up cd nd []), if (va_up kd nd (tok tb L s).1) (nd + 1 - 1) = 14 then nI ((tok tb L s2).1 - 100) else my, if (va_up kd nd (tok tb L s).1) (nd + 1 - 1) = 15 then nI ((tok tb L s2).1 - 100) else ne) := ⟨_, rfl⟩
                obtain ⟨f1, f2, f3, f4⟩ := qr_st hb e3 e4 (fun z => absurd z.2 (by simp)) (show gstep (tok tb L s2).1 (5, [], nd + 1, (va_up kd nd (tok tb L s).1), (va_up cd nd []), my, ne) = (0, S3) from by rw [hgsn, hS3]; unfold gNumber; rw [if_neg (by omega), hlim, if_neg (by omega)])
                rw [← hs3] at f1 f2 f3 f4
                obtain ⟨so189, to189, mfl189, mfa189, mdn189, mup189, mlo189, mgu189, mgl189, H_md189, htk189⟩ := id hP189
                have htk := htk189
                refine e_iastN (k := nd) d_X11_clause_192 H_mnn9 rfl (by omega) (by omega) ?_
                refine e_aloadn d_X11_clause_193 rfl ?_
                refine e_get d_X11_clause_194 f_X11_216 (H_md189.n (by decide)) rfl ?_
                refine e_if_ne d_X11_clause_197 (fun z => by first | exact absurd (fun z => z rfl) z | exact absurd z (fun z => z rfl)) (fun _ => ?_)
                refine e_aloadn d_X11_clause_200 rfl ?_
                refine e_bipush (v := 59) d_X11_clause_201 (by decide) ?_
                refine e_callVI d_X11_clause_203 l_X11_clause_272 (H_md189.n (by decide)) rfl rfl (s_X11_isSign (H_md189.n (by decide))) rfl rfl (Nat.le_of_ble_eq_true rfl) ?_
                refine e_if_ne d_X11_clause_206 (fun c206 => ?_) (fun c206 => ?_)
                · have c206 : (tok tb L s3).1 = 34 := (tk_sg htk (c := 34) (by decide) (by decide) (by decide)).mp (bI_1.mp (bI_z.resolve_left c206))
                  refine e_aloadn d_X11_clause_214 rfl ?_
                  refine e_get d_X11_clause_215 f_X11_216 (H_md189.n (by decide)) rfl ?_
                  refine e_if_ne d_X11_clause_218 (fun z => by first | exact absurd (fun z => z rfl) z | exact absurd z (fun z => z rfl)) (fun _ => ?_)
                  refine e_aloadn d_X11_clause_221 rfl ?_
                  refine e_dup d_X11_clause_222 rfl ?_
                  refine e_get d_X11_clause_223 f_X11_290 (H_md189.n (by decide)) rfl ?_
                  refine e_iconst (v := 1) d_X11_clause_226 (by decide) ?_
                  refine e_iadd d_X11_clause_227 ?_
                  rw [nI_1]
                  refine e_puti d_X11_clause_228 f_X11_290 (H_md189.n (by decide)) (Nat.le_of_ble_eq_true rfl) ?_
                  refine e_aloadn d_X11_clause_231 rfl ?_
                  refine e_callRVV d_X11_clause_232 l_X11_clause_237 ((H_md189.n (by decide)).s) rfl rfl (s_X11_next2 (MdP.mk (nd := nd + 1) ((H_md189.n (by decide)).s) htk) (((fr_189.hs (fr_118.hs ((((H_mtape.n (by decide)).n (by decide)).n (by decide)).n (by decide)) (by decide)) (by decide)).n (by decide)).n (by decide)) hmt (tok_nx f3 (by omega)).2.2 hL) rfl rfl (Nat.le_of_ble_eq_true rfl) (fun h_232 q_232 s_232 => ?_)
                  have hm9 : (if (va_up kd nd (tok tb L s).1) (nd + 1 - 1) = 14 then nI ((tok tb L s2).1 - 100) else my) = if (tok tb L s).1 = 14 then x_189 else my := by rw [show nd + 1 - 1 = nd from rfl, va_up_self, hx9]
                  have hn9 : (if (va_up kd nd (tok tb L s).1) (nd + 1 - 1) = 15 then nI ((tok tb L s2).1 - 100) else ne) = if (tok tb L s).1 = 15 then x_189 else ne := by rw [show nd + 1 - 1 = nd from rfl, va_up_self, hx9]
                  exact e_vret d_X11_clause_235 rfl (⟨rfl, by rw [e1, f1]; exact ClR_tr (by omega) (ClR_of hb f3 f4 (fun z => absurd z.2 (by simp [hS3])) (by rw [hS3]; simp only [gstep]; rw [if_neg (by decide), if_neg (by decide), if_pos trivial]; unfold gStop; rw [if_pos c206]) (MqR_ok rfl (MCs_mk4 q_232.1 (hGs.fr (S := [66, 80, 81, 82]) (((((((Fr.refl [66, 80, 81, 82] _).up (by decide)).up (by decide)).up (by decide)).up (by decide)).trans (fr_118.mono (by decide))).trans ((((fr_189.mono (by decide)).up (by decide)).up (by decide)).trans (q_232.2.mono (by decide)))) (by simp)) (MN_num hdone hr0 (by omega) hno9 hm9 hn9 (q_232.2.hs (((fr_189.hs H_mnw118 (by decide)).n (by decide)).n (by decide)) (by decide)) (q_232.2.hs ((Hs.s9 H_mnn9 (by rw [va_up2])).n (by decide)) (by decide)) (q_232.2.hs (((fr_189.hs H_mna118 (by decide)).n (by decide)).n (by decide)) (by decide)) (q_232.2.hs (((fr_189.hs (fr_118.hs ((((H_mno.n (by decide)).n (by decide)).n (by decide)).n (by decide)) (by decide)) (by decide)).n (by decide)).n (by decide)) (by decide)) (q_232.2.hs (((fr_189.hs (fr_118.hs ((((H_mnv.n (by decide)).n (by decide)).n (by decide)).n (by decide)) (by decide)) (by decide)).n (by decide)).n (by decide)) (by decide)))))), ((((((((Fr.refl [66, 76, 77, 78, 79, 80, 81, 82, 83, 84] _).up (by decide)).up (by decide)).up (by decide)).up (by decide)).trans (fr_118.mono (by decide))).trans (fr_189.mono (by decide))).up (by decide)).trans (((Fr.refl [66, 76, 77, 78, 79, 80, 81, 82, 83, 84] _).up (by decide)).trans (q_232.2.mono (by decide)))⟩)
                · have c206 : ¬ (tok tb L s3).1 = 34 := fun z => bI_0.mp (by first | exact c206 | exact Decidable.of_not_not c206) ((tk_sg htk (c := 34) (by decide) (by decide) (by decide)).mpr z)
                  refine e_aloadn d_X11_clause_209 rfl ?_
                  refine e_iconst (v := 1) d_X11_clause_210 (by decide) ?_
                  refine e_callRVV d_X11_clause_211 l_X11_clause_231 (H_md189.n (by decide)) rfl rfl (s_X11_errs2 (q := 1) (MdP.mk (H_md189.n (by decide)) htk)) rfl rfl (Nat.le_of_ble_eq_true rfl) (fun h_211 q_211 s_211 => ?_)
                  obtain ⟨_, _, _, _, _, _, _, _, _, _, _, _, _, _, _, _, _, _, _, H_mdE⟩ := id q_211.1
                  refine e_aloadn d_X11_clause_214 rfl ?_
                  refine e_get d_X11_clause_215 f_X11_216 H_mdE rfl ?_
                  refine e_if_ne d_X11_clause_218 (fun _ => ?_) (fun z => by first | exact absurd (by decide) z | exact absurd z (by decide))
                  exact e_vret d_X11_clause_235 rfl (⟨rfl, Or.inr ⟨1, s3, S3, by decide, by decide, by rw [e1, f1]; exact qr_bad f3 (fun z => absurd z.2 (by simp [hS3])) (by rw [hS3]; simp only [gstep]; rw [if_neg (by decide), if_neg (by decide), if_pos trivial]; unfold gStop; rw [if_neg c206]) (by decide), q_211.1⟩, ((((((((Fr.refl [66, 76, 77, 78, 79, 80, 81, 82, 83, 84] _).up (by decide)).up (by decide)).up (by decide)).up (by decide)).trans (fr_118.mono (by decide))).trans (fr_189.mono (by decide))).up (by decide)).trans (q_211.2.mono (by decide))⟩)
              · rw [hlim] at hok
                obtain ⟨q9, hq9, hq96, hgn, hE9, hx9⟩ : ∃ q, q ≠ 0 ∧ q ≤ 6 ∧ (gstep (tok tb L s2).1 (5, [], nd + 1, (va_up kd nd (tok tb L s).1), (va_up cd nd []), my, ne)).1 = q ∧ MdE h_189 q s2 ∧ x_189 = 0 := by
                  rcases hD9 with ⟨d1, d2, d3⟩ | ⟨d1, d2, d3, d4⟩ | ⟨d1, d2, -⟩
                  · exact ⟨1, by decide, by decide, by rw [hgsn]; unfold gNumber; rw [if_pos d1], d3, d2⟩
                  · exact ⟨2, by decide, by decide, by rw [hgsn]; unfold gNumber; rw [if_neg (by omega), hlim, if_pos d2], d4, d3⟩
                  · exact absurd ⟨d1, d2⟩ hok
                obtain ⟨_, _, _, _, _, _, _, _, _, _, _, _, _, _, _, _, _, _, _, H_mdE⟩ := id hE9
                refine e_iastN (k := nd) d_X11_clause_192 H_mnn9 rfl (by omega) (by omega) ?_
                refine e_aloadn d_X11_clause_193 rfl ?_
                refine e_get d_X11_clause_194 f_X11_216 (H_mdE.n (by decide)) rfl ?_
                refine e_if_ne d_X11_clause_197 (fun _ => ?_) (fun z => by first | exact absurd (fun z => hq9 ((nI_eq (b := 0) (by omega) (by decide)).mp z)) z | exact absurd z (fun z => hq9 ((nI_eq (b := 0) (by omega) (by decide)).mp z)))
                refine e_aloadn d_X11_clause_214 rfl ?_
                refine e_get d_X11_clause_215 f_X11_216 (H_mdE.n (by decide)) rfl ?_
                refine e_if_ne d_X11_clause_218 (fun _ => ?_) (fun z => by first | exact absurd (fun z => hq9 ((nI_eq (b := 0) (by omega) (by decide)).mp z)) z | exact absurd z (fun z => hq9 ((nI_eq (b := 0) (by omega) (by decide)).mp z)))
                exact e_vret d_X11_clause_235 rfl (⟨rfl, Or.inr ⟨q9, s2, (5, [], nd + 1, (va_up kd nd (tok tb L s).1), (va_up cd nd []), my, ne), hq9, hq96, by rw [e1]; exact qr_bad e3 (fun z => absurd z.2 (by simp)) (Prod.ext hgn rfl : gstep (tok tb L s2).1 (5, [], nd + 1, (va_up kd nd (tok tb L s).1), (va_up cd nd []), my, ne) = (q9, _)) hq9, MdE_up hE9⟩, (((((((Fr.refl [66, 76, 77, 78, 79, 80, 81, 82, 83, 84] _).up (by decide)).up (by decide)).up (by decide)).up (by decide)).trans (fr_118.mono (by decide))).trans (fr_189.mono (by decide))).up (by decide)⟩)
            · have ht14 : (tok tb L s).1 = 14 := by have := i_eq (a := (tok tb L s).1 - 14) (b := 0) (by omega) (by decide) (by first | exact c178 | exact Decidable.of_not_not c178); omega
              refine e_bipush (v := 14) d_X11_clause_181 (by decide) ?_
              refine e_gt d_X11_clause_183 ?_
              refine e_callRVI d_X11_clause_189 l_X11_clause_296 H_md118 rfl rfl (s_X11_number (hi := 14) hP118 (fr_118.hs ((((H_mtape.n (by decide)).n (by decide)).n (by decide)).n (by decide)) (by decide)) hmt e3 hL (by decide)) rfl rfl (Nat.le_of_ble_eq_true rfl) (fun x_189 h_189 q_189 s_189 => ?_)
              obtain ⟨hD9, fr_189⟩ := q_189
              have H_mnn9 := fr_189.hs (H_mnn118) (by decide)
              have hlim : limN ((va_up kd nd (tok tb L s).1) (nd + 1 - 1)) = 14 := by rw [show nd + 1 - 1 = nd from rfl, va_up_self]; unfold limN; first | (rw [if_pos (by omega)]; done) | (rw [if_neg (by omega)]; done)
              by_cases hok : 100 ≤ (tok tb L s2).1 ∧ (tok tb L s2).1 - 100 ≤ limN ((va_up kd nd (tok tb L s).1) (nd + 1 - 1))
              · rw [hlim] at hok
                obtain ⟨-, -, hx9, hP189⟩ : 100 ≤ (tok tb L s2).1 ∧ (tok tb L s2).1 - 100 ≤ 14 ∧ x_189 = nI ((tok tb L s2).1 - 100) ∧ _ := by
                  rcases hD9 with ⟨d1, -⟩ | ⟨d1, d2, -⟩ | d
                  · exact absurd hok.1 (by omega)
                  · exact absurd hok.2 (by omega)
                  · exact d
                obtain ⟨s3, hs3⟩ : ∃ s3, s3 = (run isB tb L (tok tb L s2).2) := ⟨_, rfl⟩
                rw [← hs3] at hP189
                obtain ⟨S3, hS3⟩ : ∃ S3 : PS, S3 = (6, [], nd + 1, (va_up kd nd (tok tb L s).1), (va_up cd nd []), if (va_up kd nd (tok tb L s).1) (nd + 1 - 1) = 14 then nI ((tok tb L s2).1 - 100) else my, if (va_up kd nd (tok tb L s).1) (nd + 1 - 1) = 15 then nI ((tok tb L s2).1 - 100) else ne) := ⟨_, rfl⟩
                obtain ⟨f1, f2, f3, f4⟩ := qr_st hb e3 e4 (fun z => absurd z.2 (by simp)) (show gstep (tok tb L s2).1 (5, [], nd + 1, (va_up kd nd (tok tb L s).1), (va_up cd nd []), my, ne) = (0, S3) from by rw [hgsn, hS3]; unfold gNumber; rw [if_neg (by omega), hlim, if_neg (by omega)])
                rw [← hs3] at f1 f2 f3 f4
                obtain ⟨so189, to189, mfl189, mfa189, mdn189, mup189, mlo189, mgu189, mgl189, H_md189, htk189⟩ := id hP189
                have htk := htk189
                refine e_iastN (k := nd) d_X11_clause_192 H_mnn9 rfl (by omega) (by omega) ?_
                refine e_aloadn d_X11_clause_193 rfl ?_
                refine e_get d_X11_clause_194 f_X11_216 (H_md189.n (by decide)) rfl ?_
                refine e_if_ne d_X11_clause_197 (fun z => by first | exact absurd (fun z => z rfl) z | exact absurd z (fun z => z rfl)) (fun _ => ?_)
                refine e_aloadn d_X11_clause_200 rfl ?_
                refine e_bipush (v := 59) d_X11_clause_201 (by decide) ?_
                refine e_callVI d_X11_clause_203 l_X11_clause_272 (H_md189.n (by decide)) rfl rfl (s_X11_isSign (H_md189.n (by decide))) rfl rfl (Nat.le_of_ble_eq_true rfl) ?_
                refine e_if_ne d_X11_clause_206 (fun c206 => ?_) (fun c206 => ?_)
                · have c206 : (tok tb L s3).1 = 34 := (tk_sg htk (c := 34) (by decide) (by decide) (by decide)).mp (bI_1.mp (bI_z.resolve_left c206))
                  refine e_aloadn d_X11_clause_214 rfl ?_
                  refine e_get d_X11_clause_215 f_X11_216 (H_md189.n (by decide)) rfl ?_
                  refine e_if_ne d_X11_clause_218 (fun z => by first | exact absurd (fun z => z rfl) z | exact absurd z (fun z => z rfl)) (fun _ => ?_)
                  refine e_aloadn d_X11_clause_221 rfl ?_
                  refine e_dup d_X11_clause_222 rfl ?_
                  refine e_get d_X11_clause_223 f_X11_290 (H_md189.n (by decide)) rfl ?_
                  refine e_iconst (v := 1) d_X11_clause_226 (by decide) ?_
                  refine e_iadd d_X11_clause_227 ?_
                  rw [nI_1]
                  refine e_puti d_X11_clause_228 f_X11_290 (H_md189.n (by decide)) (Nat.le_of_ble_eq_true rfl) ?_
                  refine e_aloadn d_X11_clause_231 rfl ?_
                  refine e_callRVV d_X11_clause_232 l_X11_clause_237 ((H_md189.n (by decide)).s) rfl rfl (s_X11_next2 (MdP.mk (nd := nd + 1) ((H_md189.n (by decide)).s) htk) (((fr_189.hs (fr_118.hs ((((H_mtape.n (by decide)).n (by decide)).n (by decide)).n (by decide)) (by decide)) (by decide)).n (by decide)).n (by decide)) hmt (tok_nx f3 (by omega)).2.2 hL) rfl rfl (Nat.le_of_ble_eq_true rfl) (fun h_232 q_232 s_232 => ?_)
                  have hm9 : (if (va_up kd nd (tok tb L s).1) (nd + 1 - 1) = 14 then nI ((tok tb L s2).1 - 100) else my) = if (tok tb L s).1 = 14 then x_189 else my := by rw [show nd + 1 - 1 = nd from rfl, va_up_self, hx9]
                  have hn9 : (if (va_up kd nd (tok tb L s).1) (nd + 1 - 1) = 15 then nI ((tok tb L s2).1 - 100) else ne) = if (tok tb L s).1 = 15 then x_189 else ne := by rw [show nd + 1 - 1 = nd from rfl, va_up_self, hx9]
                  exact e_vret d_X11_clause_235 rfl (⟨rfl, by rw [e1, f1]; exact ClR_tr (by omega) (ClR_of hb f3 f4 (fun z => absurd z.2 (by simp [hS3])) (by rw [hS3]; simp only [gstep]; rw [if_neg (by decide), if_neg (by decide), if_pos trivial]; unfold gStop; rw [if_pos c206]) (MqR_ok rfl (MCs_mk4 q_232.1 (hGs.fr (S := [66, 80, 81, 82]) (((((((Fr.refl [66, 80, 81, 82] _).up (by decide)).up (by decide)).up (by decide)).up (by decide)).trans (fr_118.mono (by decide))).trans ((((fr_189.mono (by decide)).up (by decide)).up (by decide)).trans (q_232.2.mono (by decide)))) (by simp)) (MN_num hdone hr0 (by omega) hno9 hm9 hn9 (q_232.2.hs (((fr_189.hs H_mnw118 (by decide)).n (by decide)).n (by decide)) (by decide)) (q_232.2.hs ((Hs.s9 H_mnn9 (by rw [va_up2])).n (by decide)) (by decide)) (q_232.2.hs (((fr_189.hs H_mna118 (by decide)).n (by decide)).n (by decide)) (by decide)) (q_232.2.hs (((fr_189.hs (fr_118.hs ((((H_mno.n (by decide)).n (by decide)).n (by decide)).n (by decide)) (by decide)) (by decide)).n (by decide)).n (by decide)) (by decide)) (q_232.2.hs (((fr_189.hs (fr_118.hs ((((H_mnv.n (by decide)).n (by decide)).n (by decide)).n (by decide)) (by decide)) (by decide)).n (by decide)).n (by decide)) (by decide)))))), ((((((((Fr.refl [66, 76, 77, 78, 79, 80, 81, 82, 83, 84] _).up (by decide)).up (by decide)).up (by decide)).up (by decide)).trans (fr_118.mono (by decide))).trans (fr_189.mono (by decide))).up (by decide)).trans (((Fr.refl [66, 76, 77, 78, 79, 80, 81, 82, 83, 84] _).up (by decide)).trans (q_232.2.mono (by decide)))⟩)
                · have c206 : ¬ (tok tb L s3).1 = 34 := fun z => bI_0.mp (by first | exact c206 | exact Decidable.of_not_not c206) ((tk_sg htk (c := 34) (by decide) (by decide) (by decide)).mpr z)
                  refine e_aloadn d_X11_clause_209 rfl ?_
                  refine e_iconst (v := 1) d_X11_clause_210 (by decide) ?_
                  refine e_callRVV d_X11_clause_211 l_X11_clause_231 (H_md189.n (by decide)) rfl rfl (s_X11_errs2 (q := 1) (MdP.mk (H_md189.n (by decide)) htk)) rfl rfl (Nat.le_of_ble_eq_true rfl) (fun h_211 q_211 s_211 => ?_)
                  obtain ⟨_, _, _, _, _, _, _, _, _, _, _, _, _, _, _, _, _, _, _, H_mdE⟩ := id q_211.1
                  refine e_aloadn d_X11_clause_214 rfl ?_
                  refine e_get d_X11_clause_215 f_X11_216 H_mdE rfl ?_
                  refine e_if_ne d_X11_clause_218 (fun _ => ?_) (fun z => by first | exact absurd (by decide) z | exact absurd z (by decide))
                  exact e_vret d_X11_clause_235 rfl (⟨rfl, Or.inr ⟨1, s3, S3, by decide, by decide, by rw [e1, f1]; exact qr_bad f3 (fun z => absurd z.2 (by simp [hS3])) (by rw [hS3]; simp only [gstep]; rw [if_neg (by decide), if_neg (by decide), if_pos trivial]; unfold gStop; rw [if_neg c206]) (by decide), q_211.1⟩, ((((((((Fr.refl [66, 76, 77, 78, 79, 80, 81, 82, 83, 84] _).up (by decide)).up (by decide)).up (by decide)).up (by decide)).trans (fr_118.mono (by decide))).trans (fr_189.mono (by decide))).up (by decide)).trans (q_211.2.mono (by decide))⟩)
              · rw [hlim] at hok
                obtain ⟨q9, hq9, hq96, hgn, hE9, hx9⟩ : ∃ q, q ≠ 0 ∧ q ≤ 6 ∧ (gstep (tok tb L s2).1 (5, [], nd + 1, (va_up kd nd (tok tb L s).1), (va_up cd nd []), my, ne)).1 = q ∧ MdE h_189 q s2 ∧ x_189 = 0 := by
                  rcases hD9 with ⟨d1, d2, d3⟩ | ⟨d1, d2, d3, d4⟩ | ⟨d1, d2, -⟩
                  · exact ⟨1, by decide, by decide, by rw [hgsn]; unfold gNumber; rw [if_pos d1], d3, d2⟩
                  · exact ⟨2, by decide, by decide, by rw [hgsn]; unfold gNumber; rw [if_neg (by omega), hlim, if_pos d2], d4, d3⟩
                  · exact absurd ⟨d1, d2⟩ hok
                obtain ⟨_, _, _, _, _, _, _, _, _, _, _, _, _, _, _, _, _, _, _, H_mdE⟩ := id hE9
                refine e_iastN (k := nd) d_X11_clause_192 H_mnn9 rfl (by omega) (by omega) ?_
                refine e_aloadn d_X11_clause_193 rfl ?_
                refine e_get d_X11_clause_194 f_X11_216 (H_mdE.n (by decide)) rfl ?_
                refine e_if_ne d_X11_clause_197 (fun _ => ?_) (fun z => by first | exact absurd (fun z => hq9 ((nI_eq (b := 0) (by omega) (by decide)).mp z)) z | exact absurd z (fun z => hq9 ((nI_eq (b := 0) (by omega) (by decide)).mp z)))
                refine e_aloadn d_X11_clause_214 rfl ?_
                refine e_get d_X11_clause_215 f_X11_216 (H_mdE.n (by decide)) rfl ?_
                refine e_if_ne d_X11_clause_218 (fun _ => ?_) (fun z => by first | exact absurd (fun z => hq9 ((nI_eq (b := 0) (by omega) (by decide)).mp z)) z | exact absurd z (fun z => hq9 ((nI_eq (b := 0) (by omega) (by decide)).mp z)))
                exact e_vret d_X11_clause_235 rfl (⟨rfl, Or.inr ⟨q9, s2, (5, [], nd + 1, (va_up kd nd (tok tb L s).1), (va_up cd nd []), my, ne), hq9, hq96, by rw [e1]; exact qr_bad e3 (fun z => absurd z.2 (by simp)) (Prod.ext hgn rfl : gstep (tok tb L s2).1 (5, [], nd + 1, (va_up kd nd (tok tb L s).1), (va_up cd nd []), my, ne) = (q9, _)) hq9, MdE_up hE9⟩, (((((((Fr.refl [66, 76, 77, 78, 79, 80, 81, 82, 83, 84] _).up (by decide)).up (by decide)).up (by decide)).up (by decide)).trans (fr_118.mono (by decide))).trans (fr_189.mono (by decide))).up (by decide)⟩)
          · have c126 := i_nle (a := (tok tb L s).1 - 14) (b := 1) (by omega) (by decide) c126
            refine e_aloadn d_X11_clause_129 rfl ?_
            refine e_aloadn d_X11_clause_130 rfl ?_
            refine e_get d_X11_clause_131 f_X11_263 H_md118 rfl ?_
            refine e_iconst (v := 2) d_X11_clause_134 (by decide) ?_
            refine e_icmp_ne d_X11_clause_135 (fun c135 => ?_) (fun c135 => ?_)
            · have ht16 : ¬ (tok tb L s).1 = 16 := fun z => c135 (by rw [z]; rfl)
              refine e_iconst (v := 2) d_X11_clause_142 (by decide) ?_
              refine e_callRVV d_X11_clause_143 l_X11_clause_234 H_md118 rfl rfl (s_X11_opensFrame2 (f := 2) (G := []) (MdP.mk H_md118 htk118) ((hGs.fr (S := [66, 80, 81, 82]) ((((Fr.refl _ _).up (by decide)).up (by decide)).up (by decide) |>.up (by decide)) (by simp)).fr fr_118 (by simp)) (by decide) rfl (by decide)) rfl rfl (Nat.le_of_ble_eq_true rfl) (fun h_143 q_143 s_143 => ?_)
              obtain ⟨hP143, hGs143, fr_143⟩ := q_143
              obtain ⟨so143, to143, mfl143, mfa143, mdn143, mup143, mlo143, mgu143, mgl143, H_md143, htk143⟩ := id hP143
              refine e_aloadn d_X11_clause_146 rfl ?_
              refine e_aloadn d_X11_clause_147 rfl ?_
              refine e_get d_X11_clause_148 f_X11_263 H_md143 rfl ?_
              refine e_iconst (v := 2) d_X11_clause_151 (by decide) ?_
              refine e_icmp_ne d_X11_clause_152 (fun _ => ?_) (fun z => by first | exact absurd (c135) z | exact absurd z (c135))
              refine e_iconst (v := 0) d_X11_clause_159 (by decide) ?_
              refine e_puti d_X11_clause_160 f_X11_260 H_md143 (Nat.le_of_ble_eq_true rfl) ?_
              exact e_vret d_X11_clause_163 rfl (⟨rfl, ClR_of hb hsL hI hne hgs (MqR_ok (S := (0, [(2, [])], nd + 1, (va_up kd nd (tok tb L s).1), (va_up cd nd []), my, ne)) (by unfold gClause; rw [if_neg (by omega), if_neg hno, if_neg h10, if_neg (show ¬ (tok tb L s).1 ≤ 15 by omega), if_neg (show ¬ (tok tb L s).1 ≤ 15 by omega), if_neg ht16, if_neg ht16]) (MCs_mk (by decide) (by rw [va_up_self]; exact ⟨_, _, _, _, _, _, _, _, _, H_md143.s, htk143⟩) (hGs143.fr ((Fr.refl [66] _).up (by decide)) (by simp)) (MN_begin hdone hr0 ((fr_143.hs H_mnw118 (by decide)).n (by decide)) ((fr_143.hs H_mnn118 (by decide)).n (by decide)) ((fr_143.hs H_mna118 (by decide)).n (by decide)) ((fr_143.hs (fr_118.hs ((((H_mno.n (by decide)).n (by decide)).n (by decide)).n (by decide)) (by decide)) (by decide)).n (by decide)) ((fr_143.hs (fr_118.hs ((((H_mnv.n (by decide)).n (by decide)).n (by decide)).n (by decide)) (by decide)) (by decide)).n (by decide))))), (((((Fr.refl [66, 76, 77, 78, 79, 80, 81, 82, 83, 84] _).up (by decide)).up (by decide)).up (by decide)).up (by decide)).trans ((fr_118.mono (by decide)).trans ((fr_143.mono (by decide)).up (by decide)))⟩)
            · have ht16 : (tok tb L s).1 = 16 := by have := i_eq (a := (tok tb L s).1 - 14) (b := 2) (by omega) (by decide) (by first | exact c135 | exact Decidable.of_not_not c135); omega
              refine e_iconst (v := 1) d_X11_clause_138 (by decide) ?_
              refine e_gt d_X11_clause_139 ?_
              refine e_callRVV d_X11_clause_143 l_X11_clause_234 H_md118 rfl rfl (s_X11_opensFrame2 (f := 1) (G := []) (MdP.mk H_md118 htk118) ((hGs.fr (S := [66, 80, 81, 82]) ((((Fr.refl _ _).up (by decide)).up (by decide)).up (by decide) |>.up (by decide)) (by simp)).fr fr_118 (by simp)) (by decide) rfl (by decide)) rfl rfl (Nat.le_of_ble_eq_true rfl) (fun h_143 q_143 s_143 => ?_)
              obtain ⟨hP143, hGs143, fr_143⟩ := q_143
              obtain ⟨so143, to143, mfl143, mfa143, mdn143, mup143, mlo143, mgu143, mgl143, H_md143, htk143⟩ := id hP143
              refine e_aloadn d_X11_clause_146 rfl ?_
              refine e_aloadn d_X11_clause_147 rfl ?_
              refine e_get d_X11_clause_148 f_X11_263 H_md143 rfl ?_
              refine e_iconst (v := 2) d_X11_clause_151 (by decide) ?_
              refine e_icmp_ne d_X11_clause_152 (fun z => by first | exact absurd (fun z => z (by rw [ht16]; rfl)) z | exact absurd z (fun z => z (by rw [ht16]; rfl))) (fun _ => ?_)
              refine e_iconst (v := 1) d_X11_clause_155 (by decide) ?_
              refine e_gt d_X11_clause_156 ?_
              refine e_puti d_X11_clause_160 f_X11_260 H_md143 (Nat.le_of_ble_eq_true rfl) ?_
              exact e_vret d_X11_clause_163 rfl (⟨rfl, ClR_of hb hsL hI hne hgs (MqR_ok (S := (1, [(1, [])], nd + 1, (va_up kd nd (tok tb L s).1), (va_up cd nd []), my, ne)) (by unfold gClause; rw [if_neg (by omega), if_neg hno, if_neg h10, if_neg (show ¬ (tok tb L s).1 ≤ 15 by omega), if_neg (show ¬ (tok tb L s).1 ≤ 15 by omega), if_pos ht16, if_pos ht16]) (MCs_mk (by decide) (by rw [va_up_self]; exact ⟨_, _, _, _, _, _, _, _, _, H_md143.s, htk143⟩) (hGs143.fr ((Fr.refl [66] _).up (by decide)) (by simp)) (MN_begin hdone hr0 ((fr_143.hs H_mnw118 (by decide)).n (by decide)) ((fr_143.hs H_mnn118 (by decide)).n (by decide)) ((fr_143.hs H_mna118 (by decide)).n (by decide)) ((fr_143.hs (fr_118.hs ((((H_mno.n (by decide)).n (by decide)).n (by decide)).n (by decide)) (by decide)) (by decide)).n (by decide)) ((fr_143.hs (fr_118.hs ((((H_mnv.n (by decide)).n (by decide)).n (by decide)).n (by decide)) (by decide)) (by decide)).n (by decide))))), (((((Fr.refl [66, 76, 77, 78, 79, 80, 81, 82, 83, 84] _).up (by decide)).up (by decide)).up (by decide)).up (by decide)).trans ((fr_118.mono (by decide)).trans ((fr_143.mono (by decide)).up (by decide)))⟩)
        · have c64 := i_eq (a := nd) (b := 10) (by omega) (by decide) (by first | exact c64 | exact Decidable.of_not_not c64)
          refine e_aloadn d_X11_clause_67 rfl ?_
          refine e_bipush (v := 6) d_X11_clause_68 (by decide) ?_
          have hg : (gClause (tok tb L s).1 nd kd cd my ne).1 = 6 := by
            unfold gClause
            rw [if_neg (by omega), if_neg hno, if_pos (by omega)]
          refine e_callRVV d_X11_clause_70 l_X11_clause_231 H_md.s rfl rfl (s_X11_errs2 (q := 6) (MdP.mk H_md.s htk)) rfl rfl (Nat.le_of_ble_eq_true rfl) (fun h_70 q_70 s_70 => ?_)
          obtain ⟨_, _, _, _, _, _, _, _, _, _, _, _, _, _, _, _, _, _, _, H_mdE⟩ := id q_70.1
          refine e_aloadn d_X11_clause_73 rfl ?_
          refine e_get d_X11_clause_74 f_X11_216 H_mdE rfl ?_
          refine e_if_le d_X11_clause_77 (fun z => by first | exact absurd (by decide) z | exact absurd z (by decide)) (fun _ => ?_)
          exact e_vret d_X11_clause_80 rfl (⟨rfl, ClR_of hb hsL hI hne hgs (MqR_bad hg (by decide) q_70.1), ((Fr.refl [66, 76, 77, 78, 79, 80, 81, 82, 83, 84] _).up (by decide)).trans (q_70.2.mono (by decide))⟩)
      · have c36 := i_nlt (a := 2) (b := (tok tb L s).1 - 14) (by decide) (by omega) c36
        refine e_aloadn d_X11_clause_39 rfl ?_
        refine e_aloadn d_X11_clause_40 rfl ?_
        refine e_get d_X11_clause_41 f_X11_263 H_md.s rfl ?_
        refine e_callVI d_X11_clause_44 l_X11_clause_293 H_md.s rfl rfl (s_X11_wasTold (k := (tok tb L s).1) H_md.s (H_mnw.n (by decide)) (by omega) (fun i hi => ⟨(hdone i hi).1, hkd i hi⟩) (by omega)) rfl rfl (Nat.le_of_ble_eq_true rfl) ?_
        refine e_if_eq d_X11_clause_47 (fun c47 => ?_) (fun c47 => ?_)
        · have hno : ¬ ((tok tb L s).1 ≤ 16 ∧ hasK nd kd (tok tb L s).1 = true) := fun z => bI_0.mp c47 z.2
          refine e_aloadn d_X11_clause_58 rfl ?_
          refine e_get d_X11_clause_59 f_X11_290 H_md.s rfl ?_
          refine e_bipush (v := 10) d_X11_clause_62 (by decide) ?_
          refine e_icmp_ne d_X11_clause_64 (fun c64 => ?_) (fun c64 => ?_)
          · have h10 : ¬ 10 ≤ nd := fun z => c64 (by rw [show nd = 10 by omega]; rfl)
            refine e_aloadn d_X11_clause_73 rfl ?_
            refine e_get d_X11_clause_74 f_X11_216 H_md.s rfl ?_
            refine e_if_le d_X11_clause_77 (fun _ => ?_) (fun z => by first | exact absurd (by decide) z | exact absurd z (by decide))
            refine e_aloadn d_X11_clause_81 rfl ?_
            refine e_get d_X11_clause_82 f_X11_57 H_md.s rfl ?_
            refine e_aloadn d_X11_clause_85 rfl ?_
            refine e_get d_X11_clause_86 f_X11_290 H_md.s rfl ?_
            refine e_aloadn d_X11_clause_89 rfl ?_
            refine e_get d_X11_clause_90 f_X11_263 H_md.s rfl ?_
            refine e_iastN (k := nd) d_X11_clause_93 (H_mnw.n (by decide)) rfl (by omega) (by omega) ?_
            refine e_aloadn d_X11_clause_94 rfl ?_
            refine e_get d_X11_clause_95 f_X11_60 (H_md.s.n (by decide)) rfl ?_
            refine e_aloadn d_X11_clause_98 rfl ?_
            refine e_get d_X11_clause_99 f_X11_290 (H_md.s.n (by decide)) rfl ?_
            refine e_iconst (v := 0) d_X11_clause_102 (by decide) ?_
            refine e_iastN (k := nd) d_X11_clause_103 ((H_mnn.n (by decide)).n (by decide)) rfl (by omega) (by omega) ?_
            refine e_aloadn d_X11_clause_104 rfl ?_
            refine e_get d_X11_clause_105 f_X11_63 ((H_md.s.n (by decide)).n (by decide)) rfl ?_
            refine e_aloadn d_X11_clause_108 rfl ?_
            refine e_get d_X11_clause_109 f_X11_290 ((H_md.s.n (by decide)).n (by decide)) rfl ?_
            refine e_aloadn d_X11_clause_112 rfl ?_
            refine e_get d_X11_clause_113 f_X11_222 ((H_md.s.n (by decide)).n (by decide)) rfl ?_
            refine e_iastN (k := nd) d_X11_clause_116 (((H_mna.n (by decide)).n (by decide)).n (by decide)) rfl (by omega) (by omega) ?_
            refine e_aloadn d_X11_clause_117 rfl ?_
            refine e_callRVV d_X11_clause_118 l_X11_clause_237 (((H_md.s.n (by decide)).n (by decide)).n (by decide)) rfl rfl (s_X11_next2 (MdP.mk (((H_md.s.n (by decide)).n (by decide)).n (by decide)) htk) ((((H_mtape.n (by decide)).n (by decide)).n (by decide)).n (by decide)) hmt (tok_nx hsL (by omega)).2.2 hL) rfl rfl (Nat.le_of_ble_eq_true rfl) (fun h_118 q_118 s_118 => ?_)
            obtain ⟨hP118, fr_118⟩ := q_118
            have H_mnw118 := fr_118.hs (((((H_mnw.n (by decide)).s).n (by decide)).n (by decide))) (by decide)
            have H_mnn118 := fr_118.hs (((((H_mnn.n (by decide)).n (by decide)).s).n (by decide))) (by decide)
            have H_mna118 := fr_118.hs (((((H_mna.n (by decide)).n (by decide)).n (by decide)).s)) (by decide)
            obtain ⟨so118, to118, mfl118, mfa118, mdn118, mup118, mlo118, mgu118, mgl118, H_md118, htk118⟩ := id hP118
            refine e_aloadn d_X11_clause_121 rfl ?_
            refine e_get d_X11_clause_122 f_X11_263 H_md118 rfl ?_
            refine e_iconst (v := 1) d_X11_clause_125 (by decide) ?_
            refine e_icmp_le d_X11_clause_126 (fun c126 => ?_) (fun c126 => ?_)
            · have c126 := i_le (a := (tok tb L s).1 - 14) (b := 1) (by omega) (by decide) c126
              have hnc : gstep (tok tb L s).1 (4, [], nd, kd, cd, my, ne) = (0, (5, [], nd + 1, (va_up kd nd (tok tb L s).1), (va_up cd nd []), my, ne)) := by rw [hgs]; unfold gClause; rw [if_neg (by omega), if_neg hno, if_neg h10, if_pos (show (tok tb L s).1 ≤ 15 by omega), if_pos (show (tok tb L s).1 ≤ 15 by omega)]
              obtain ⟨s2, hs2⟩ : ∃ s2, s2 = run isB tb L (tok tb L s).2 := ⟨_, rfl⟩
              rw [← hs2] at hP118 H_md118 htk118
              obtain ⟨e1, e2, e3, e4⟩ := qr_st hb hsL hI hne hnc
              rw [← hs2] at e1 e2 e3 e4
              have hgsn : gstep (tok tb L s2).1 (5, [], nd + 1, (va_up kd nd (tok tb L s).1), (va_up cd nd []), my, ne) = gNumber (tok tb L s2).1 (nd + 1) (va_up kd nd (tok tb L s).1) (va_up cd nd []) my ne := by simp only [gstep]; rw [if_neg (by decide), if_pos trivial]
              have hno9 : ∀ i, i < nd → kd i ≠ (tok tb L s).1 := hasK_f (by
                cases e : hasK nd kd (tok tb L s).1
                · rfl
                · exact absurd ⟨by omega, e⟩ hno)
              refine e_aloadn d_X11_clause_164 rfl ?_
              refine e_get d_X11_clause_165 f_X11_60 H_md118 rfl ?_
              refine e_aloadn d_X11_clause_168 rfl ?_
              refine e_get d_X11_clause_169 f_X11_290 H_md118 rfl ?_
              refine e_aloadn d_X11_clause_172 rfl ?_
              refine e_iconst (v := 0) d_X11_clause_173 (by decide) ?_
              refine e_aloadn d_X11_clause_174 rfl ?_
              refine e_get d_X11_clause_175 f_X11_263 H_md118 rfl ?_
              refine e_if_ne d_X11_clause_178 (fun c178 => ?_) (fun c178 => ?_)
              · have ht14 : ¬ (tok tb L s).1 = 14 := fun z => c178 (by rw [z]; rfl)
                refine e_sipush (v := 9999) d_X11_clause_186 (by decide) ?_
                refine e_callRVI d_X11_clause_189 l_X11_clause_296 H_md118 rfl rfl (s_X11_number (hi := 9999) hP118 (fr_118.hs ((((H_mtape.n (by decide)).n (by decide)).n (by decide)).n (by decide)) (by decide)) hmt e3 hL (by decide)) rfl rfl (Nat.le_of_ble_eq_true rfl) (fun x_189 h_189 q_189 s_189 => ?_)
                obtain ⟨hD9, fr_189⟩ := q_189
                have H_mnn9 := fr_189.hs (H_mnn118) (by decide)
                have hlim : limN ((va_up kd nd (tok tb L s).1) (nd + 1 - 1)) = 9999 := by rw [show nd + 1 - 1 = nd from rfl, va_up_self]; unfold limN; first | (rw [if_pos (by omega)]; done) | (rw [if_neg (by omega)]; done)
                by_cases hok : 100 ≤ (tok tb L s2).1 ∧ (tok tb L s2).1 - 100 ≤ limN ((va_up kd nd (tok tb L s).1) (nd + 1 - 1))
                · rw [hlim] at hok
                  obtain ⟨-, -, hx9, hP189⟩ : 100 ≤ (tok tb L s2).1 ∧ (tok tb L s2).1 - 100 ≤ 9999 ∧ x_189 = nI ((tok tb L s2).1 - 100) ∧ _ := by
                    rcases hD9 with ⟨d1, -⟩ | ⟨d1, d2, -⟩ | d
                    · exact absurd hok.1 (by omega)
                    · exact absurd hok.2 (by omega)
                    · exact d
                  obtain ⟨s3, hs3⟩ : ∃ s3, s3 = (run isB tb L (tok tb L s2).2) := ⟨_, rfl⟩
                  rw [← hs3] at hP189
                  obtain ⟨S3, hS3⟩ : ∃ S3 : PS, S3 = (6, [], nd + 1, (va_up kd nd (tok tb L s).1), (va_up cd nd []), if (va_up kd nd (tok tb L s).1) (nd + 1 - 1) = 14 then nI ((tok tb L s2).1 - 100) else my, if (va_up kd nd (tok tb L s).1) (nd + 1 - 1) = 15 then nI ((tok tb L s2).1 - 100) else ne) := ⟨_, rfl⟩
                  obtain ⟨f1, f2, f3, f4⟩ := qr_st hb e3 e4 (fun z => absurd z.2 (by simp)) (show gstep (tok tb L s2).1 (5, [], nd + 1, (va_up kd nd (tok tb L s).1), (va_up cd nd []), my, ne) = (0, S3) from by rw [hgsn, hS3]; unfold gNumber; rw [if_neg (by omega), hlim, if_neg (by omega)])
                  rw [← hs3] at f1 f2 f3 f4
                  obtain ⟨so189, to189, mfl189, mfa189, mdn189, mup189, mlo189, mgu189, mgl189, H_md189, htk189⟩ := id hP189
                  have htk := htk189
                  refine e_iastN (k := nd) d_X11_clause_192 H_mnn9 rfl (by omega) (by omega) ?_
                  refine e_aloadn d_X11_clause_193 rfl ?_
                  refine e_get d_X11_clause_194 f_X11_216 (H_md189.n (by decide)) rfl ?_
                  refine e_if_ne d_X11_clause_197 (fun z => by first | exact absurd (fun z => z rfl) z | exact absurd z (fun z => z rfl)) (fun _ => ?_)
                  refine e_aloadn d_X11_clause_200 rfl ?_
                  refine e_bipush (v := 59) d_X11_clause_201 (by decide) ?_
                  refine e_callVI d_X11_clause_203 l_X11_clause_272 (H_md189.n (by decide)) rfl rfl (s_X11_isSign (H_md189.n (by decide))) rfl rfl (Nat.le_of_ble_eq_true rfl) ?_
                  refine e_if_ne d_X11_clause_206 (fun c206 => ?_) (fun c206 => ?_)
                  · have c206 : (tok tb L s3).1 = 34 := (tk_sg htk (c := 34) (by decide) (by decide) (by decide)).mp (bI_1.mp (bI_z.resolve_left c206))
                    refine e_aloadn d_X11_clause_214 rfl ?_
                    refine e_get d_X11_clause_215 f_X11_216 (H_md189.n (by decide)) rfl ?_
                    refine e_if_ne d_X11_clause_218 (fun z => by first | exact absurd (fun z => z rfl) z | exact absurd z (fun z => z rfl)) (fun _ => ?_)
                    refine e_aloadn d_X11_clause_221 rfl ?_
                    refine e_dup d_X11_clause_222 rfl ?_
                    refine e_get d_X11_clause_223 f_X11_290 (H_md189.n (by decide)) rfl ?_
                    refine e_iconst (v := 1) d_X11_clause_226 (by decide) ?_
                    refine e_iadd d_X11_clause_227 ?_
                    rw [nI_1]
                    refine e_puti d_X11_clause_228 f_X11_290 (H_md189.n (by decide)) (Nat.le_of_ble_eq_true rfl) ?_
                    refine e_aloadn d_X11_clause_231 rfl ?_
                    refine e_callRVV d_X11_clause_232 l_X11_clause_237 ((H_md189.n (by decide)).s) rfl rfl (s_X11_next2 (MdP.mk (nd := nd + 1) ((H_md189.n (by decide)).s) htk) (((fr_189.hs (fr_118.hs ((((H_mtape.n (by decide)).n (by decide)).n (by decide)).n (by decide)) (by decide)) (by decide)).n (by decide)).n (by decide)) hmt (tok_nx f3 (by omega)).2.2 hL) rfl rfl (Nat.le_of_ble_eq_true rfl) (fun h_232 q_232 s_232 => ?_)
                    have hm9 : (if (va_up kd nd (tok tb L s).1) (nd + 1 - 1) = 14 then nI ((tok tb L s2).1 - 100) else my) = if (tok tb L s).1 = 14 then x_189 else my := by rw [show nd + 1 - 1 = nd from rfl, va_up_self, hx9]
                    have hn9 : (if (va_up kd nd (tok tb L s).1) (nd + 1 - 1) = 15 then nI ((tok tb L s2).1 - 100) else ne) = if (tok tb L s).1 = 15 then x_189 else ne := by rw [show nd + 1 - 1 = nd from rfl, va_up_self, hx9]
                    exact e_vret d_X11_clause_235 rfl (⟨rfl, by rw [e1, f1]; exact ClR_tr (by omega) (ClR_of hb f3 f4 (fun z => absurd z.2 (by simp [hS3])) (by rw [hS3]; simp only [gstep]; rw [if_neg (by decide), if_neg (by decide), if_pos trivial]; unfold gStop; rw [if_pos c206]) (MqR_ok rfl (MCs_mk4 q_232.1 (hGs.fr (S := [66, 80, 81, 82]) (((((((Fr.refl [66, 80, 81, 82] _).up (by decide)).up (by decide)).up (by decide)).up (by decide)).trans (fr_118.mono (by decide))).trans ((((fr_189.mono (by decide)).up (by decide)).up (by decide)).trans (q_232.2.mono (by decide)))) (by simp)) (MN_num hdone hr0 (by omega) hno9 hm9 hn9 (q_232.2.hs (((fr_189.hs H_mnw118 (by decide)).n (by decide)).n (by decide)) (by decide)) (q_232.2.hs ((Hs.s9 H_mnn9 (by rw [va_up2])).n (by decide)) (by decide)) (q_232.2.hs (((fr_189.hs H_mna118 (by decide)).n (by decide)).n (by decide)) (by decide)) (q_232.2.hs (((fr_189.hs (fr_118.hs ((((H_mno.n (by decide)).n (by decide)).n (by decide)).n (by decide)) (by decide)) (by decide)).n (by decide)).n (by decide)) (by decide)) (q_232.2.hs (((fr_189.hs (fr_118.hs ((((H_mnv.n (by decide)).n (by decide)).n (by decide)).n (by decide)) (by decide)) (by decide)).n (by decide)).n (by decide)) (by decide)))))), ((((((((Fr.refl [66, 76, 77, 78, 79, 80, 81, 82, 83, 84] _).up (by decide)).up (by decide)).up (by decide)).up (by decide)).trans (fr_118.mono (by decide))).trans (fr_189.mono (by decide))).up (by decide)).trans (((Fr.refl [66, 76, 77, 78, 79, 80, 81, 82, 83, 84] _).up (by decide)).trans (q_232.2.mono (by decide)))⟩)
                  · have c206 : ¬ (tok tb L s3).1 = 34 := fun z => bI_0.mp (by first | exact c206 | exact Decidable.of_not_not c206) ((tk_sg htk (c := 34) (by decide) (by decide) (by decide)).mpr z)
                    refine e_aloadn d_X11_clause_209 rfl ?_
                    refine e_iconst (v := 1) d_X11_clause_210 (by decide) ?_
                    refine e_callRVV d_X11_clause_211 l_X11_clause_231 (H_md189.n (by decide)) rfl rfl (s_X11_errs2 (q := 1) (MdP.mk (H_md189.n (by decide)) htk)) rfl rfl (Nat.le_of_ble_eq_true rfl) (fun h_211 q_211 s_211 => ?_)
                    obtain ⟨_, _, _, _, _, _, _, _, _, _, _, _, _, _, _, _, _, _, _, H_mdE⟩ := id q_211.1
                    refine e_aloadn d_X11_clause_214 rfl ?_
                    refine e_get d_X11_clause_215 f_X11_216 H_mdE rfl ?_
                    refine e_if_ne d_X11_clause_218 (fun _ => ?_) (fun z => by first | exact absurd (by decide) z | exact absurd z (by decide))
                    exact e_vret d_X11_clause_235 rfl (⟨rfl, Or.inr ⟨1, s3, S3, by decide, by decide, by rw [e1, f1]; exact qr_bad f3 (fun z => absurd z.2 (by simp [hS3])) (by rw [hS3]; simp only [gstep]; rw [if_neg (by decide), if_neg (by decide), if_pos trivial]; unfold gStop; rw [if_neg c206]) (by decide), q_211.1⟩, ((((((((Fr.refl [66, 76, 77, 78, 79, 80, 81, 82, 83, 84] _).up (by decide)).up (by decide)).up (by decide)).up (by decide)).trans (fr_118.mono (by decide))).trans (fr_189.mono (by decide))).up (by decide)).trans (q_211.2.mono (by decide))⟩)
                · rw [hlim] at hok
                  obtain ⟨q9, hq9, hq96, hgn, hE9, hx9⟩ : ∃ q, q ≠ 0 ∧ q ≤ 6 ∧ (gstep (tok tb L s2).1 (5, [], nd + 1, (va_up kd nd (tok tb L s).1), (va_up cd nd []), my, ne)).1 = q ∧ MdE h_189 q s2 ∧ x_189 = 0 := by
                    rcases hD9 with ⟨d1, d2, d3⟩ | ⟨d1, d2, d3, d4⟩ | ⟨d1, d2, -⟩
                    · exact ⟨1, by decide, by decide, by rw [hgsn]; unfold gNumber; rw [if_pos d1], d3, d2⟩
                    · exact ⟨2, by decide, by decide, by rw [hgsn]; unfold gNumber; rw [if_neg (by omega), hlim, if_pos d2], d4, d3⟩
                    · exact absurd ⟨d1, d2⟩ hok
                  obtain ⟨_, _, _, _, _, _, _, _, _, _, _, _, _, _, _, _, _, _, _, H_mdE⟩ := id hE9
                  refine e_iastN (k := nd) d_X11_clause_192 H_mnn9 rfl (by omega) (by omega) ?_
                  refine e_aloadn d_X11_clause_193 rfl ?_
                  refine e_get d_X11_clause_194 f_X11_216 (H_mdE.n (by decide)) rfl ?_
                  refine e_if_ne d_X11_clause_197 (fun _ => ?_) (fun z => by first | exact absurd (fun z => hq9 ((nI_eq (b := 0) (by omega) (by decide)).mp z)) z | exact absurd z (fun z => hq9 ((nI_eq (b := 0) (by omega) (by decide)).mp z)))
                  refine e_aloadn d_X11_clause_214 rfl ?_
                  refine e_get d_X11_clause_215 f_X11_216 (H_mdE.n (by decide)) rfl ?_
                  refine e_if_ne d_X11_clause_218 (fun _ => ?_) (fun z => by first | exact absurd (fun z => hq9 ((nI_eq (b := 0) (by omega) (by decide)).mp z)) z | exact absurd z (fun z => hq9 ((nI_eq (b := 0) (by omega) (by decide)).mp z)))
                  exact e_vret d_X11_clause_235 rfl (⟨rfl, Or.inr ⟨q9, s2, (5, [], nd + 1, (va_up kd nd (tok tb L s).1), (va_up cd nd []), my, ne), hq9, hq96, by rw [e1]; exact qr_bad e3 (fun z => absurd z.2 (by simp)) (Prod.ext hgn rfl : gstep (tok tb L s2).1 (5, [], nd + 1, (va_up kd nd (tok tb L s).1), (va_up cd nd []), my, ne) = (q9, _)) hq9, MdE_up hE9⟩, (((((((Fr.refl [66, 76, 77, 78, 79, 80, 81, 82, 83, 84] _).up (by decide)).up (by decide)).up (by decide)).up (by decide)).trans (fr_118.mono (by decide))).trans (fr_189.mono (by decide))).up (by decide)⟩)
              · have ht14 : (tok tb L s).1 = 14 := by have := i_eq (a := (tok tb L s).1 - 14) (b := 0) (by omega) (by decide) (by first | exact c178 | exact Decidable.of_not_not c178); omega
                refine e_bipush (v := 14) d_X11_clause_181 (by decide) ?_
                refine e_gt d_X11_clause_183 ?_
                refine e_callRVI d_X11_clause_189 l_X11_clause_296 H_md118 rfl rfl (s_X11_number (hi := 14) hP118 (fr_118.hs ((((H_mtape.n (by decide)).n (by decide)).n (by decide)).n (by decide)) (by decide)) hmt e3 hL (by decide)) rfl rfl (Nat.le_of_ble_eq_true rfl) (fun x_189 h_189 q_189 s_189 => ?_)
                obtain ⟨hD9, fr_189⟩ := q_189
                have H_mnn9 := fr_189.hs (H_mnn118) (by decide)
                have hlim : limN ((va_up kd nd (tok tb L s).1) (nd + 1 - 1)) = 14 := by rw [show nd + 1 - 1 = nd from rfl, va_up_self]; unfold limN; first | (rw [if_pos (by omega)]; done) | (rw [if_neg (by omega)]; done)
                by_cases hok : 100 ≤ (tok tb L s2).1 ∧ (tok tb L s2).1 - 100 ≤ limN ((va_up kd nd (tok tb L s).1) (nd + 1 - 1))
                · rw [hlim] at hok
                  obtain ⟨-, -, hx9, hP189⟩ : 100 ≤ (tok tb L s2).1 ∧ (tok tb L s2).1 - 100 ≤ 14 ∧ x_189 = nI ((tok tb L s2).1 - 100) ∧ _ := by
                    rcases hD9 with ⟨d1, -⟩ | ⟨d1, d2, -⟩ | d
                    · exact absurd hok.1 (by omega)
                    · exact absurd hok.2 (by omega)
                    · exact d
                  obtain ⟨s3, hs3⟩ : ∃ s3, s3 = (run isB tb L (tok tb L s2).2) := ⟨_, rfl⟩
                  rw [← hs3] at hP189
                  obtain ⟨S3, hS3⟩ : ∃ S3 : PS, S3 = (6, [], nd + 1, (va_up kd nd (tok tb L s).1), (va_up cd nd []), if (va_up kd nd (tok tb L s).1) (nd + 1 - 1) = 14 then nI ((tok tb L s2).1 - 100) else my, if (va_up kd nd (tok tb L s).1) (nd + 1 - 1) = 15 then nI ((tok tb L s2).1 - 100) else ne) := ⟨_, rfl⟩
                  obtain ⟨f1, f2, f3, f4⟩ := qr_st hb e3 e4 (fun z => absurd z.2 (by simp)) (show gstep (tok tb L s2).1 (5, [], nd + 1, (va_up kd nd (tok tb L s).1), (va_up cd nd []), my, ne) = (0, S3) from by rw [hgsn, hS3]; unfold gNumber; rw [if_neg (by omega), hlim, if_neg (by omega)])
                  rw [← hs3] at f1 f2 f3 f4
                  obtain ⟨so189, to189, mfl189, mfa189, mdn189, mup189, mlo189, mgu189, mgl189, H_md189, htk189⟩ := id hP189
                  have htk := htk189
                  refine e_iastN (k := nd) d_X11_clause_192 H_mnn9 rfl (by omega) (by omega) ?_
                  refine e_aloadn d_X11_clause_193 rfl ?_
                  refine e_get d_X11_clause_194 f_X11_216 (H_md189.n (by decide)) rfl ?_
                  refine e_if_ne d_X11_clause_197 (fun z => by first | exact absurd (fun z => z rfl) z | exact absurd z (fun z => z rfl)) (fun _ => ?_)
                  refine e_aloadn d_X11_clause_200 rfl ?_
                  refine e_bipush (v := 59) d_X11_clause_201 (by decide) ?_
                  refine e_callVI d_X11_clause_203 l_X11_clause_272 (H_md189.n (by decide)) rfl rfl (s_X11_isSign (H_md189.n (by decide))) rfl rfl (Nat.le_of_ble_eq_true rfl) ?_
                  refine e_if_ne d_X11_clause_206 (fun c206 => ?_) (fun c206 => ?_)
                  · have c206 : (tok tb L s3).1 = 34 := (tk_sg htk (c := 34) (by decide) (by decide) (by decide)).mp (bI_1.mp (bI_z.resolve_left c206))
                    refine e_aloadn d_X11_clause_214 rfl ?_
                    refine e_get d_X11_clause_215 f_X11_216 (H_md189.n (by decide)) rfl ?_
                    refine e_if_ne d_X11_clause_218 (fun z => by first | exact absurd (fun z => z rfl) z | exact absurd z (fun z => z rfl)) (fun _ => ?_)
                    refine e_aloadn d_X11_clause_221 rfl ?_
                    refine e_dup d_X11_clause_222 rfl ?_
                    refine e_get d_X11_clause_223 f_X11_290 (H_md189.n (by decide)) rfl ?_
                    refine e_iconst (v := 1) d_X11_clause_226 (by decide) ?_
                    refine e_iadd d_X11_clause_227 ?_
                    rw [nI_1]
                    refine e_puti d_X11_clause_228 f_X11_290 (H_md189.n (by decide)) (Nat.le_of_ble_eq_true rfl) ?_
                    refine e_aloadn d_X11_clause_231 rfl ?_
                    refine e_callRVV d_X11_clause_232 l_X11_clause_237 ((H_md189.n (by decide)).s) rfl rfl (s_X11_next2 (MdP.mk (nd := nd + 1) ((H_md189.n (by decide)).s) htk) (((fr_189.hs (fr_118.hs ((((H_mtape.n (by decide)).n (by decide)).n (by decide)).n (by decide)) (by decide)) (by decide)).n (by decide)).n (by decide)) hmt (tok_nx f3 (by omega)).2.2 hL) rfl rfl (Nat.le_of_ble_eq_true rfl) (fun h_232 q_232 s_232 => ?_)
                    have hm9 : (if (va_up kd nd (tok tb L s).1) (nd + 1 - 1) = 14 then nI ((tok tb L s2).1 - 100) else my) = if (tok tb L s).1 = 14 then x_189 else my := by rw [show nd + 1 - 1 = nd from rfl, va_up_self, hx9]
                    have hn9 : (if (va_up kd nd (tok tb L s).1) (nd + 1 - 1) = 15 then nI ((tok tb L s2).1 - 100) else ne) = if (tok tb L s).1 = 15 then x_189 else ne := by rw [show nd + 1 - 1 = nd from rfl, va_up_self, hx9]
                    exact e_vret d_X11_clause_235 rfl (⟨rfl, by rw [e1, f1]; exact ClR_tr (by omega) (ClR_of hb f3 f4 (fun z => absurd z.2 (by simp [hS3])) (by rw [hS3]; simp only [gstep]; rw [if_neg (by decide), if_neg (by decide), if_pos trivial]; unfold gStop; rw [if_pos c206]) (MqR_ok rfl (MCs_mk4 q_232.1 (hGs.fr (S := [66, 80, 81, 82]) (((((((Fr.refl [66, 80, 81, 82] _).up (by decide)).up (by decide)).up (by decide)).up (by decide)).trans (fr_118.mono (by decide))).trans ((((fr_189.mono (by decide)).up (by decide)).up (by decide)).trans (q_232.2.mono (by decide)))) (by simp)) (MN_num hdone hr0 (by omega) hno9 hm9 hn9 (q_232.2.hs (((fr_189.hs H_mnw118 (by decide)).n (by decide)).n (by decide)) (by decide)) (q_232.2.hs ((Hs.s9 H_mnn9 (by rw [va_up2])).n (by decide)) (by decide)) (q_232.2.hs (((fr_189.hs H_mna118 (by decide)).n (by decide)).n (by decide)) (by decide)) (q_232.2.hs (((fr_189.hs (fr_118.hs ((((H_mno.n (by decide)).n (by decide)).n (by decide)).n (by decide)) (by decide)) (by decide)).n (by decide)).n (by decide)) (by decide)) (q_232.2.hs (((fr_189.hs (fr_118.hs ((((H_mnv.n (by decide)).n (by decide)).n (by decide)).n (by decide)) (by decide)) (by decide)).n (by decide)).n (by decide)) (by decide)))))), ((((((((Fr.refl [66, 76, 77, 78, 79, 80, 81, 82, 83, 84] _).up (by decide)).up (by decide)).up (by decide)).up (by decide)).trans (fr_118.mono (by decide))).trans (fr_189.mono (by decide))).up (by decide)).trans (((Fr.refl [66, 76, 77, 78, 79, 80, 81, 82, 83, 84] _).up (by decide)).trans (q_232.2.mono (by decide)))⟩)
                  · have c206 : ¬ (tok tb L s3).1 = 34 := fun z => bI_0.mp (by first | exact c206 | exact Decidable.of_not_not c206) ((tk_sg htk (c := 34) (by decide) (by decide) (by decide)).mpr z)
                    refine e_aloadn d_X11_clause_209 rfl ?_
                    refine e_iconst (v := 1) d_X11_clause_210 (by decide) ?_
                    refine e_callRVV d_X11_clause_211 l_X11_clause_231 (H_md189.n (by decide)) rfl rfl (s_X11_errs2 (q := 1) (MdP.mk (H_md189.n (by decide)) htk)) rfl rfl (Nat.le_of_ble_eq_true rfl) (fun h_211 q_211 s_211 => ?_)
                    obtain ⟨_, _, _, _, _, _, _, _, _, _, _, _, _, _, _, _, _, _, _, H_mdE⟩ := id q_211.1
                    refine e_aloadn d_X11_clause_214 rfl ?_
                    refine e_get d_X11_clause_215 f_X11_216 H_mdE rfl ?_
                    refine e_if_ne d_X11_clause_218 (fun _ => ?_) (fun z => by first | exact absurd (by decide) z | exact absurd z (by decide))
                    exact e_vret d_X11_clause_235 rfl (⟨rfl, Or.inr ⟨1, s3, S3, by decide, by decide, by rw [e1, f1]; exact qr_bad f3 (fun z => absurd z.2 (by simp [hS3])) (by rw [hS3]; simp only [gstep]; rw [if_neg (by decide), if_neg (by decide), if_pos trivial]; unfold gStop; rw [if_neg c206]) (by decide), q_211.1⟩, ((((((((Fr.refl [66, 76, 77, 78, 79, 80, 81, 82, 83, 84] _).up (by decide)).up (by decide)).up (by decide)).up (by decide)).trans (fr_118.mono (by decide))).trans (fr_189.mono (by decide))).up (by decide)).trans (q_211.2.mono (by decide))⟩)
                · rw [hlim] at hok
                  obtain ⟨q9, hq9, hq96, hgn, hE9, hx9⟩ : ∃ q, q ≠ 0 ∧ q ≤ 6 ∧ (gstep (tok tb L s2).1 (5, [], nd + 1, (va_up kd nd (tok tb L s).1), (va_up cd nd []), my, ne)).1 = q ∧ MdE h_189 q s2 ∧ x_189 = 0 := by
                    rcases hD9 with ⟨d1, d2, d3⟩ | ⟨d1, d2, d3, d4⟩ | ⟨d1, d2, -⟩
                    · exact ⟨1, by decide, by decide, by rw [hgsn]; unfold gNumber; rw [if_pos d1], d3, d2⟩
                    · exact ⟨2, by decide, by decide, by rw [hgsn]; unfold gNumber; rw [if_neg (by omega), hlim, if_pos d2], d4, d3⟩
                    · exact absurd ⟨d1, d2⟩ hok
                  obtain ⟨_, _, _, _, _, _, _, _, _, _, _, _, _, _, _, _, _, _, _, H_mdE⟩ := id hE9
                  refine e_iastN (k := nd) d_X11_clause_192 H_mnn9 rfl (by omega) (by omega) ?_
                  refine e_aloadn d_X11_clause_193 rfl ?_
                  refine e_get d_X11_clause_194 f_X11_216 (H_mdE.n (by decide)) rfl ?_
                  refine e_if_ne d_X11_clause_197 (fun _ => ?_) (fun z => by first | exact absurd (fun z => hq9 ((nI_eq (b := 0) (by omega) (by decide)).mp z)) z | exact absurd z (fun z => hq9 ((nI_eq (b := 0) (by omega) (by decide)).mp z)))
                  refine e_aloadn d_X11_clause_214 rfl ?_
                  refine e_get d_X11_clause_215 f_X11_216 (H_mdE.n (by decide)) rfl ?_
                  refine e_if_ne d_X11_clause_218 (fun _ => ?_) (fun z => by first | exact absurd (fun z => hq9 ((nI_eq (b := 0) (by omega) (by decide)).mp z)) z | exact absurd z (fun z => hq9 ((nI_eq (b := 0) (by omega) (by decide)).mp z)))
                  exact e_vret d_X11_clause_235 rfl (⟨rfl, Or.inr ⟨q9, s2, (5, [], nd + 1, (va_up kd nd (tok tb L s).1), (va_up cd nd []), my, ne), hq9, hq96, by rw [e1]; exact qr_bad e3 (fun z => absurd z.2 (by simp)) (Prod.ext hgn rfl : gstep (tok tb L s2).1 (5, [], nd + 1, (va_up kd nd (tok tb L s).1), (va_up cd nd []), my, ne) = (q9, _)) hq9, MdE_up hE9⟩, (((((((Fr.refl [66, 76, 77, 78, 79, 80, 81, 82, 83, 84] _).up (by decide)).up (by decide)).up (by decide)).up (by decide)).trans (fr_118.mono (by decide))).trans (fr_189.mono (by decide))).up (by decide)⟩)
            · have c126 := i_nle (a := (tok tb L s).1 - 14) (b := 1) (by omega) (by decide) c126
              refine e_aloadn d_X11_clause_129 rfl ?_
              refine e_aloadn d_X11_clause_130 rfl ?_
              refine e_get d_X11_clause_131 f_X11_263 H_md118 rfl ?_
              refine e_iconst (v := 2) d_X11_clause_134 (by decide) ?_
              refine e_icmp_ne d_X11_clause_135 (fun c135 => ?_) (fun c135 => ?_)
              · have ht16 : ¬ (tok tb L s).1 = 16 := fun z => c135 (by rw [z]; rfl)
                refine e_iconst (v := 2) d_X11_clause_142 (by decide) ?_
                refine e_callRVV d_X11_clause_143 l_X11_clause_234 H_md118 rfl rfl (s_X11_opensFrame2 (f := 2) (G := []) (MdP.mk H_md118 htk118) ((hGs.fr (S := [66, 80, 81, 82]) ((((Fr.refl _ _).up (by decide)).up (by decide)).up (by decide) |>.up (by decide)) (by simp)).fr fr_118 (by simp)) (by decide) rfl (by decide)) rfl rfl (Nat.le_of_ble_eq_true rfl) (fun h_143 q_143 s_143 => ?_)
                obtain ⟨hP143, hGs143, fr_143⟩ := q_143
                obtain ⟨so143, to143, mfl143, mfa143, mdn143, mup143, mlo143, mgu143, mgl143, H_md143, htk143⟩ := id hP143
                refine e_aloadn d_X11_clause_146 rfl ?_
                refine e_aloadn d_X11_clause_147 rfl ?_
                refine e_get d_X11_clause_148 f_X11_263 H_md143 rfl ?_
                refine e_iconst (v := 2) d_X11_clause_151 (by decide) ?_
                refine e_icmp_ne d_X11_clause_152 (fun _ => ?_) (fun z => by first | exact absurd (c135) z | exact absurd z (c135))
                refine e_iconst (v := 0) d_X11_clause_159 (by decide) ?_
                refine e_puti d_X11_clause_160 f_X11_260 H_md143 (Nat.le_of_ble_eq_true rfl) ?_
                exact e_vret d_X11_clause_163 rfl (⟨rfl, ClR_of hb hsL hI hne hgs (MqR_ok (S := (0, [(2, [])], nd + 1, (va_up kd nd (tok tb L s).1), (va_up cd nd []), my, ne)) (by unfold gClause; rw [if_neg (by omega), if_neg hno, if_neg h10, if_neg (show ¬ (tok tb L s).1 ≤ 15 by omega), if_neg (show ¬ (tok tb L s).1 ≤ 15 by omega), if_neg ht16, if_neg ht16]) (MCs_mk (by decide) (by rw [va_up_self]; exact ⟨_, _, _, _, _, _, _, _, _, H_md143.s, htk143⟩) (hGs143.fr ((Fr.refl [66] _).up (by decide)) (by simp)) (MN_begin hdone hr0 ((fr_143.hs H_mnw118 (by decide)).n (by decide)) ((fr_143.hs H_mnn118 (by decide)).n (by decide)) ((fr_143.hs H_mna118 (by decide)).n (by decide)) ((fr_143.hs (fr_118.hs ((((H_mno.n (by decide)).n (by decide)).n (by decide)).n (by decide)) (by decide)) (by decide)).n (by decide)) ((fr_143.hs (fr_118.hs ((((H_mnv.n (by decide)).n (by decide)).n (by decide)).n (by decide)) (by decide)) (by decide)).n (by decide))))), (((((Fr.refl [66, 76, 77, 78, 79, 80, 81, 82, 83, 84] _).up (by decide)).up (by decide)).up (by decide)).up (by decide)).trans ((fr_118.mono (by decide)).trans ((fr_143.mono (by decide)).up (by decide)))⟩)
              · have ht16 : (tok tb L s).1 = 16 := by have := i_eq (a := (tok tb L s).1 - 14) (b := 2) (by omega) (by decide) (by first | exact c135 | exact Decidable.of_not_not c135); omega
                refine e_iconst (v := 1) d_X11_clause_138 (by decide) ?_
                refine e_gt d_X11_clause_139 ?_
                refine e_callRVV d_X11_clause_143 l_X11_clause_234 H_md118 rfl rfl (s_X11_opensFrame2 (f := 1) (G := []) (MdP.mk H_md118 htk118) ((hGs.fr (S := [66, 80, 81, 82]) ((((Fr.refl _ _).up (by decide)).up (by decide)).up (by decide) |>.up (by decide)) (by simp)).fr fr_118 (by simp)) (by decide) rfl (by decide)) rfl rfl (Nat.le_of_ble_eq_true rfl) (fun h_143 q_143 s_143 => ?_)
                obtain ⟨hP143, hGs143, fr_143⟩ := q_143
                obtain ⟨so143, to143, mfl143, mfa143, mdn143, mup143, mlo143, mgu143, mgl143, H_md143, htk143⟩ := id hP143
                refine e_aloadn d_X11_clause_146 rfl ?_
                refine e_aloadn d_X11_clause_147 rfl ?_
                refine e_get d_X11_clause_148 f_X11_263 H_md143 rfl ?_
                refine e_iconst (v := 2) d_X11_clause_151 (by decide) ?_
                refine e_icmp_ne d_X11_clause_152 (fun z => by first | exact absurd (fun z => z (by rw [ht16]; rfl)) z | exact absurd z (fun z => z (by rw [ht16]; rfl))) (fun _ => ?_)
                refine e_iconst (v := 1) d_X11_clause_155 (by decide) ?_
                refine e_gt d_X11_clause_156 ?_
                refine e_puti d_X11_clause_160 f_X11_260 H_md143 (Nat.le_of_ble_eq_true rfl) ?_
                exact e_vret d_X11_clause_163 rfl (⟨rfl, ClR_of hb hsL hI hne hgs (MqR_ok (S := (1, [(1, [])], nd + 1, (va_up kd nd (tok tb L s).1), (va_up cd nd []), my, ne)) (by unfold gClause; rw [if_neg (by omega), if_neg hno, if_neg h10, if_neg (show ¬ (tok tb L s).1 ≤ 15 by omega), if_neg (show ¬ (tok tb L s).1 ≤ 15 by omega), if_pos ht16, if_pos ht16]) (MCs_mk (by decide) (by rw [va_up_self]; exact ⟨_, _, _, _, _, _, _, _, _, H_md143.s, htk143⟩) (hGs143.fr ((Fr.refl [66] _).up (by decide)) (by simp)) (MN_begin hdone hr0 ((fr_143.hs H_mnw118 (by decide)).n (by decide)) ((fr_143.hs H_mnn118 (by decide)).n (by decide)) ((fr_143.hs H_mna118 (by decide)).n (by decide)) ((fr_143.hs (fr_118.hs ((((H_mno.n (by decide)).n (by decide)).n (by decide)).n (by decide)) (by decide)) (by decide)).n (by decide)) ((fr_143.hs (fr_118.hs ((((H_mnv.n (by decide)).n (by decide)).n (by decide)).n (by decide)) (by decide)) (by decide)).n (by decide))))), (((((Fr.refl [66, 76, 77, 78, 79, 80, 81, 82, 83, 84] _).up (by decide)).up (by decide)).up (by decide)).up (by decide)).trans ((fr_118.mono (by decide)).trans ((fr_143.mono (by decide)).up (by decide)))⟩)
          · have c64 := i_eq (a := nd) (b := 10) (by omega) (by decide) (by first | exact c64 | exact Decidable.of_not_not c64)
            refine e_aloadn d_X11_clause_67 rfl ?_
            refine e_bipush (v := 6) d_X11_clause_68 (by decide) ?_
            have hg : (gClause (tok tb L s).1 nd kd cd my ne).1 = 6 := by
              unfold gClause
              rw [if_neg (by omega), if_neg hno, if_pos (by omega)]
            refine e_callRVV d_X11_clause_70 l_X11_clause_231 H_md.s rfl rfl (s_X11_errs2 (q := 6) (MdP.mk H_md.s htk)) rfl rfl (Nat.le_of_ble_eq_true rfl) (fun h_70 q_70 s_70 => ?_)
            obtain ⟨_, _, _, _, _, _, _, _, _, _, _, _, _, _, _, _, _, _, _, H_mdE⟩ := id q_70.1
            refine e_aloadn d_X11_clause_73 rfl ?_
            refine e_get d_X11_clause_74 f_X11_216 H_mdE rfl ?_
            refine e_if_le d_X11_clause_77 (fun z => by first | exact absurd (by decide) z | exact absurd z (by decide)) (fun _ => ?_)
            exact e_vret d_X11_clause_80 rfl (⟨rfl, ClR_of hb hsL hI hne hgs (MqR_bad hg (by decide) q_70.1), ((Fr.refl [66, 76, 77, 78, 79, 80, 81, 82, 83, 84] _).up (by decide)).trans (q_70.2.mono (by decide))⟩)
        · have c47 := bI_1.mp (bI_z.resolve_left c47)
          refine e_aloadn d_X11_clause_50 rfl ?_
          refine e_iconst (v := 4) d_X11_clause_51 (by decide) ?_
          have hg : (gClause (tok tb L s).1 nd kd cd my ne).1 = 4 := by
            unfold gClause
            rw [if_neg (by omega), if_pos ⟨by omega, c47⟩]
          refine e_callRVV d_X11_clause_52 l_X11_clause_231 H_md.s rfl rfl (s_X11_errs2 (q := 4) (MdP.mk H_md.s htk)) rfl rfl (Nat.le_of_ble_eq_true rfl) (fun h_52 q_52 s_52 => ?_)
          obtain ⟨_, _, _, _, _, _, _, _, _, _, _, _, _, _, _, _, _, _, _, H_mdE⟩ := id q_52.1
          refine e_gt d_X11_clause_55 ?_
          refine e_aloadn d_X11_clause_73 rfl ?_
          refine e_get d_X11_clause_74 f_X11_216 H_mdE rfl ?_
          refine e_if_le d_X11_clause_77 (fun z => by first | exact absurd (by decide) z | exact absurd z (by decide)) (fun _ => ?_)
          exact e_vret d_X11_clause_80 rfl (⟨rfl, ClR_of hb hsL hI hne hgs (MqR_bad hg (by decide) q_52.1), ((Fr.refl [66, 76, 77, 78, 79, 80, 81, 82, 83, 84] _).up (by decide)).trans (q_52.2.mono (by decide))⟩)
    · have c14 := i_nle (a := w) (b := 6) (by omega) (by decide) c14
      have c5b : (tok tb L s).1 < 14 := by rw [hw3]; exact mcc_7 w hw1 c14
      refine e_aloadn d_X11_clause_17 rfl ?_
      refine e_iconst (v := 1) d_X11_clause_18 (by decide) ?_
      have hg : (gClause (tok tb L s).1 nd kd cd my ne).1 = 1 := by
        unfold gClause
        rw [if_pos (by omega)]
      refine e_callRVV d_X11_clause_19 l_X11_clause_231 H_md rfl rfl (s_X11_errs2 (q := 1) (MdP.mk H_md htk)) rfl rfl (Nat.le_of_ble_eq_true rfl) (fun h_19 q_19 s_19 => ?_)
      obtain ⟨_, _, _, _, _, _, _, _, _, _, _, _, _, _, _, _, _, _, _, H_mdE⟩ := id q_19.1
      exact e_vret d_X11_clause_22 rfl (⟨rfl, ClR_of hb hsL hI hne hgs (MqR_bad hg (by decide) q_19.1), q_19.2.mono (by decide)⟩)
