/-! THE MODEL: text -/
theorem mw_end {h k : AH} {tb : Nat → Nat} {L s : Nat} {Q : Option Value → AH → Prop} {nc : Nat} {kd : Nat → Nat} {cd : Nat → List Nat} {my ne : Int32} (hC : MCs k tb L s (4, [], nc, kd, cd, my, ne)) (h35 : (tok tb L s).1 = 35) (hx : E M_X11_text (0, 0) Q 167 k [some (.ref 66)] []) : E M_X11_text (0, 0) Q 75 k [some (.ref 66)] [] := by
  obtain ⟨r, nk, hP, hGs, hN⟩ := MCs_4 hC
  obtain ⟨so, to, mfl, mfa, mdn, mup, mlo, mgu, mgl, H_md, htk⟩ := id hP
  refine e_aloadn d_X11_text_75 rfl ?_
  refine e_get d_X11_text_76 f_X11_216 H_md rfl ?_
  refine e_if_ne d_X11_text_79 (fun z => by first | exact absurd (fun z => z rfl) z | exact absurd z (fun z => z rfl)) (fun _ => ?_)
  refine e_aloadn d_X11_text_82 rfl ?_
  refine e_get d_X11_text_83 f_X11_260 H_md rfl ?_
  refine e_iconst (v := 4) d_X11_text_86 (by decide) ?_
  refine e_icmp_ne d_X11_text_87 (fun z => by first | exact absurd (fun z => z rfl) z | exact absurd z (fun z => z rfl)) (fun _ => ?_)
  refine e_aloadn d_X11_text_90 rfl ?_
  refine e_get d_X11_text_91 f_X11_200 H_md rfl ?_
  refine e_if_eq d_X11_text_94 (fun _ => ?_) (fun z => by first | exact absurd ((tk_end htk).mpr h35) z | exact absurd z ((tk_end htk).mpr h35))
  exact hx

theorem mw_bad {k : AH} {q s1 : Nat} {Q : Option Value → AH → Prop} (hq : q ≠ 0) (hq6 : q ≤ 6) (hE : MdE k q s1) (hx : E M_X11_text (0, 0) Q 167 k [some (.ref 66)] []) : E M_X11_text (0, 0) Q 75 k [some (.ref 66)] [] := by
  obtain ⟨_, _, _, _, _, _, _, _, _, _, _, _, _, _, _, _, _, _, _, H_md⟩ := id hE
  refine e_aloadn d_X11_text_75 rfl ?_
  refine e_get d_X11_text_76 f_X11_216 H_md rfl ?_
  refine e_if_ne d_X11_text_79 (fun _ => ?_) (fun z => by first | exact absurd (fun z => hq ((nI_eq (b := 0) (by omega) (by decide)).mp z)) z | exact absurd z (fun z => hq ((nI_eq (b := 0) (by omega) (by decide)).mp z)))
  exact hx

theorem MCs_ph {h : AH} {tb : Nat → Nat} {L s : Nat} {S : PS} (H : MCs h tb L s S) : S.1 ≤ 2 ∨ S.1 = 4 := by
  rcases H with ⟨q, -⟩ | ⟨q, -⟩
  · exact Or.inl q
  · exact Or.inr q
theorem mw_loop {h : AH} {tb : Nat → Nat} {mt : Nat → Int32} {L : Nat} {R : Nat × Nat × PS} {Q : Option Value → AH → Prop} (H_mt0 : Hs h 69 (aB 300 mt)) (hmt : ∀ k, k < 300 → mt k = sbI (tb k) ∧ tb k < 256) (hb : ∀ k, k < L → tb k < 256) (hL : L ≤ 300)
    (hx1 : ∀ (k : AH) (s nc : Nat) (kd : Nat → Nat) (cd : Nat → List Nat) (my ne : Int32), Fr [66, 76, 77, 78, 79, 80, 81, 82, 83, 84] h k → s ≤ L → (tok tb L s).1 = 35 → R = qr tb L s (4, [], nc, kd, cd, my, ne) → gI (4, [], nc, kd, cd, my, ne) s → MCs k tb L s (4, [], nc, kd, cd, my, ne) → E M_X11_text (0, 0) Q 167 k [some (.ref 66)] [])
    (hx2 : ∀ (k : AH) (q s1 : Nat) (S1 : PS), Fr [66, 76, 77, 78, 79, 80, 81, 82, 83, 84] h k → q ≠ 0 → q ≤ 6 → R = (q, s1, S1) → MdE k q s1 → E M_X11_text (0, 0) Q 167 k [some (.ref 66)] []) : ∀ i, i ≤ 3 * L + 4 → ∀ (k : AH) (m : Nat), InM k tb L i m R → Fr [66, 76, 77, 78, 79, 80, 81, 82, 83, 84] h k → E M_X11_text (0, 0) Q 75 k [some (.ref 66)] [] := by
  refine loop_ind (n := 3 * L + 4) ?_
  intro i hi ih0 k m hM hF
  rcases hM with ⟨-, s, ph, nc, G, kd, cd, my, ne, h1, hsL, hR, hI, hC⟩ | ⟨-, s, nc, G, kd, cd, my, ne, h1, hsL, h11, hR, hI, hC⟩ | ⟨-, s, nd, f, w, e, r0, kd, cd, my, ne, h1, hsL, hna, hf1, hf2, hu, he, hR, hI, hC⟩ | ⟨-, q, s1, S1, hq, hq6, hR, hE⟩
  · have ih : ∀ (k1 : AH) (m1 : Nat), InM k1 tb L (i + 1) m1 R → Fr [66, 76, 77, 78, 79, 80, 81, 82, 83, 84] h k1 → E M_X11_text (0, 0) Q 75 k1 [some (.ref 66)] [] := fun k1 m1 g1 g2 => ih0 (i + 1) (by omega) (by omega) k1 m1 g1 g2
    rcases MCs_ph hC with hp | hp
    · have hp : ph ≤ 2 := hp
      obtain ⟨h0, hn10, hgC, -⟩ := gI_in hI hp
      obtain ⟨nd, rfl⟩ : ∃ nd, nc = nd + 1 := ⟨nc - 1, by omega⟩
      rcases (by omega : ph = 0 ∨ ph = 1 ∨ ph = 2) with rfl | rfl | rfl
      · exact mw_0 hF H_mt0 hmt hb hL hsL ih h1 hR hI hC
      · exact mw_1 hF H_mt0 hmt hb hL hsL ih h1 hR hI hC
      · obtain ⟨hS, hn⟩ : shI (kd nd) G ∧ neg G = 0 := by
          rcases hgC.2.2.2.2.2 with q | q | q
          · omega
          · exact q.2
          · omega
        match G, hS with
        | (f, w) :: r0, hS =>
          have hf7 : f ≠ 7 := fun e => by subst e; simp [neg] at hn
          rcases hS with ⟨rfl, hw, hr⟩ | ⟨q, -⟩ | ⟨hw, hS⟩
          · exact mw_26 hF H_mt0 hmt hb hL hsL ih h1 hR hI hC hw hr
          · exact absurd q hf7
          · rcases hS with ⟨hk, rfl, rfl⟩ | ⟨hk, hf, hE⟩
            · exact mw_21 hF H_mt0 hmt hb hL hsL ih h1 hR hI hC hw
            · rcases hf with rfl | hf
              · exact mw_24 hF H_mt0 hmt hb hL hsL ih h1 hR hI hC hw hE
              · exact mw_2c hF H_mt0 hmt hb hL hsL ih h1 hR hI hC hw hE hf
    · have hp : ph = 4 := hp
      subst hp
      obtain rfl : G = [] := hI.2.2.2.2.2.2.2.2.2.1 (by show 3 ≤ 4; decide)
      by_cases h35 : (tok tb L s).1 = 35
      · exact mw_end (h := h) hC h35 (hx1 k s nc kd cd my ne hF hsL h35 hR hI hC)
      · exact mw_4 hF H_mt0 hmt hb hL hsL ih h1 hR hI hC h35
  · have ih : ∀ (k1 : AH) (m1 : Nat), InM k1 tb L (i + 1) m1 R → Fr [66, 76, 77, 78, 79, 80, 81, 82, 83, 84] h k1 → E M_X11_text (0, 0) Q 75 k1 [some (.ref 66)] [] := fun k1 m1 g1 g2 => ih0 (i + 1) (by omega) (by omega) k1 m1 g1 g2
    obtain ⟨h0, -⟩ := gI_in hI (by decide)
    obtain ⟨nd, rfl⟩ : ∃ nd, nc = nd + 1 := ⟨nc - 1, by omega⟩
    exact mw_B hF H_mt0 hmt hb hL hsL ih h1 hR hI h11 hC
  · have ih : ∀ (k1 : AH) (m1 : Nat), InM k1 tb L (i + 1) m1 R → Fr [66, 76, 77, 78, 79, 80, 81, 82, 83, 84] h k1 → E M_X11_text (0, 0) Q 75 k1 [some (.ref 66)] [] := fun k1 m1 g1 g2 => ih0 (i + 1) (by omega) (by omega) k1 m1 g1 g2
    exact mw_C hF H_mt0 hmt hb hL hsL ih h1 hR hI hna hf1 hf2 hu he hC
  · exact mw_bad hq hq6 hE (hx2 k q s1 S1 hF hq hq6 hR hE)

/-- what text says, and what it leaves, in the model -/
def TxtM (h h' : AH) (tcn : Nat) (a : Nat → Int32) (x : Int32) (R : Nat × Nat × PS) : Prop := ((R.1 = 0 ∧ x = nI tcn ∧ MdO h' 0 0 (-1) ∧ Hs h' 67 (aI 380 (va_up a 2 (nI (tcn + 1)))) ∧ TxK h' tcn R.2.2.2.2.1 R.2.2.2.2.2.1 R.2.2.2.2.2.2.1 R.2.2.2.2.2.2.2.1 R.2.2.2.2.2.2.2.2 ∧ ∃ a, gI R.2.2 a ∧ R.2.2.1 = 4) ∨ (R.1 ≠ 0 ∧ x = -1 ∧ MdO h' 0 (nI R.1) (nI R.2.1) ∧ Hs h' 67 (aI 380 a))) ∧ ∀ (tp nc : Nat) (kd : Nat → Nat) (cd : Nat → List Nat) (many near : Int32), tp ≠ tcn → TxK h tp nc kd cd many near → TxK h' tp nc kd cd many near
/-- the arrays of the model's reader, at rest -/
def MK0 (h : AH) : Prop := (∃ a b c d e f : Nat → Int32, Hs h 70 (aI 6 a) ∧ Hs h 71 (aI 60 b) ∧ Hs h 72 (aI 60 c) ∧ Hs h 73 (aI 60 d) ∧ Hs h 74 (aI 2400 e) ∧ Hs h 75 (aI 2400 f)) ∧ (∃ a b c d : Nat → Int32, Hs h 76 (aI 40 a) ∧ Hs h 77 (aI 41 b) ∧ Hs h 78 (aI 80 c) ∧ Hs h 79 (aI 80 d)) ∧ ∃ a b c d e : Nat → Int32, Hs h 80 (aI 10 a) ∧ Hs h 81 (aI 10 b) ∧ Hs h 82 (aI 10 c) ∧ Hs h 83 (aI 400 d) ∧ Hs h 84 (aI 400 e)
theorem MK0.fr {S : List Nat} {h h' : AH} (T : MK0 h) (F : Fr S h h') (hS : ∀ x, x ∈ S → x < 70 ∨ 84 < x) : MK0 h' := by
  obtain ⟨⟨a, b, c, d, e, f, h1, h2, h3, h4, h5, h6⟩, ⟨a1, b1, c1, d1, g1, g2, g3, g4⟩, a2, b2, c2, d2, e2, k1, k2, k3, k4, k5⟩ := T
  have q : ∀ x, 70 ≤ x → x ≤ 84 → x ∉ S := fun x h1 h2 z => by have := hS x z; omega
  exact ⟨⟨a, b, c, d, e, f, F.hs h1 (q _ (by decide) (by decide)), F.hs h2 (q _ (by decide) (by decide)), F.hs h3 (q _ (by decide) (by decide)), F.hs h4 (q _ (by decide) (by decide)), F.hs h5 (q _ (by decide) (by decide)), F.hs h6 (q _ (by decide) (by decide))⟩, ⟨a1, b1, c1, d1, F.hs g1 (q _ (by decide) (by decide)), F.hs g2 (q _ (by decide) (by decide)), F.hs g3 (q _ (by decide) (by decide)), F.hs g4 (q _ (by decide) (by decide))⟩, a2, b2, c2, d2, e2, F.hs k1 (q _ (by decide) (by decide)), F.hs k2 (q _ (by decide) (by decide)), F.hs k3 (q _ (by decide) (by decide)), F.hs k4 (q _ (by decide) (by decide)), F.hs k5 (q _ (by decide) (by decide))⟩

theorem mx_1 {h0 k : AH} {tb : Nat → Nat} {L s nc tcn : Nat} {a : Nat → Int32} {kd : Nat → Nat} {cd : Nat → List Nat} {my ne : Int32} {R : Nat × Nat × PS} (H_a0 : Hs h0 67 (aI 380 a)) (ha2 : a 2 = nI tcn) (htc : tcn < 6) (hK0 : MK0 h0) (hL : L ≤ 300) (hF : Fr (66 :: [76, 77, 78, 79, 80, 81, 82, 83, 84]) h0 k) (hsL : s ≤ L) (h35 : (tok tb L s).1 = 35) (hR : R = qr tb L s (4, [], nc, kd, cd, my, ne)) (hI : gI (4, [], nc, kd, cd, my, ne) s) (hC : MCs k tb L s (4, [], nc, kd, cd, my, ne)) : E M_X11_text (0, 0) (rI (fun x h' => TxtM h0 h' tcn a x R ∧ Fr [66, 67, 70, 71, 72, 73, 74, 75, 76, 77, 78, 79, 80, 81, 82, 83, 84] h0 h')) 167 k [some (.ref 66)] [] := by
  have hR2 : R = (0, 0, (4, [], nc, kd, cd, my, ne)) := by rw [hR]; exact qr_end hsL h35 rfl
  obtain ⟨r, nk, hP, hGs, hN⟩ := MCs_4 hC
  obtain ⟨so, to, mfl, mfa, mdn, mup, mlo, mgu, mgl, H_md, htk⟩ := id hP
  obtain ⟨nw, nn, na, no, nv, H_mnw, H_mnn, H_mna, H_mno, H_mnv, hdone, hr, hcur⟩ := id hN
  have H_a := hF.hs H_a0 (by decide)
  obtain ⟨⟨mcl, mcw, mcn, mca, mor, mva, h1, h2, h3, h4, h5, h6⟩, -⟩ := id hK0
  have H_mcl := hF.hs h1 (by decide)
  have H_mcw := hF.hs h2 (by decide)
  have H_mcn := hF.hs h3 (by decide)
  have H_mca := hF.hs h4 (by decide)
  have H_mor := hF.hs h5 (by decide)
  have H_mva := hF.hs h6 (by decide)
  have hn10 : nc ≤ 10 := hI.1
  have hr0 : r = mtt kd cd nc := hr
  have hrl : r ≤ 310 := by
    have := mtt_tot (kd := kd) (cd := cd) nc
    have h9 : tot cd nc + 0 ≤ s := hI.2.2.1
    omega
  have hdone9 : ∀ i, i < nc → 14 ≤ kd i ∧ kd i ≤ 20 ∧ nw i = nI (kd i - 14) ∧ (kd i = 14 → nn i = my) ∧ (kd i = 15 → nn i = ne) ∧ (16 ≤ kd i → ∃ s, s + (cd i).length < r ∧ na i = nI s ∧ no (s + (cd i).length) = 408 ∧ CLp no nv s (cd i)) := fun i hi => by
    obtain ⟨q1, q2, q3, q4⟩ := hdone i hi
    refine ⟨(hI.2.1 i hi).1, (hI.2.1 i hi).2, q1, q2, q3, fun hk => ?_⟩
    obtain ⟨q5, q6, q7⟩ := q4 hk
    refine ⟨mtt kd cd i, ?_, q5, q6, q7⟩
    have := mtt_le (kd := kd) (cd := cd) (n := i + 1) (m := nc) (by omega)
    rw [mtt_S, if_pos hk] at this; omega
  refine e_aloadn d_X11_text_167 rfl ?_
  refine e_aloadn d_X11_text_168 rfl ?_
  refine e_get d_X11_text_169 f_X11_216 H_md rfl ?_
  refine e_puti d_X11_text_172 f_X11_20 H_md (Nat.le_of_ble_eq_true rfl) ?_
  refine e_aloadn d_X11_text_175 rfl ?_
  refine e_aloadn d_X11_text_176 rfl ?_
  refine e_get d_X11_text_177 f_X11_219 H_md.s rfl ?_
  refine e_puti d_X11_text_180 f_X11_24 H_md.s (Nat.le_of_ble_eq_true rfl) ?_
  refine e_aloadn d_X11_text_183 rfl ?_
  refine e_get d_X11_text_184 f_X11_216 H_md.s.s rfl ?_
  refine e_if_le d_X11_text_187 (fun _ => ?_) (fun z => by first | exact absurd (by decide) z | exact absurd z (by decide))
  refine e_aloadn d_X11_text_192 rfl ?_
  refine e_aloadn d_X11_text_193 rfl ?_
  refine e_get d_X11_text_194 f_X11_7 H_md.s.s rfl ?_
  refine e_iconst (v := 2) d_X11_text_197 (by decide) ?_
  refine e_ialdN (k := 2) d_X11_text_198 ((H_a.n (by decide)).n (by decide)) rfl (by decide) (by decide) ?_
  rw [ha2]
  refine e_callRVV d_X11_text_199 l_X11_text_314 H_md.s.s rfl rfl (s_X11_keepsText (t := tcn) (kd := kd) (cd := cd) H_md.s.s ((H_mcl.n (by decide)).n (by decide)) ((H_mcw.n (by decide)).n (by decide)) ((H_mcn.n (by decide)).n (by decide)) ((H_mca.n (by decide)).n (by decide)) ((H_mor.n (by decide)).n (by decide)) ((H_mva.n (by decide)).n (by decide)) ((H_mnw.n (by decide)).n (by decide)) ((H_mnn.n (by decide)).n (by decide)) ((H_mna.n (by decide)).n (by decide)) ((H_mno.n (by decide)).n (by decide)) ((H_mnv.n (by decide)).n (by decide)) htc hn10 (by omega)) rfl rfl (Nat.le_of_ble_eq_true rfl) (fun h_9 q_9 s_9 => ?_)
  obtain ⟨hK1, hK2, fr_9⟩ := q_9
  have H_md := fr_9.hs H_md.s.s (by first | decide | (simp; omega))
  have H_a := fr_9.hs ((H_a.n (by decide)).n (by decide)) (by first | decide | (simp; omega))
  refine e_aloadn d_X11_text_202 rfl ?_
  refine e_get d_X11_text_203 f_X11_7 H_md rfl ?_
  refine e_iconst (v := 2) d_X11_text_206 (by decide) ?_
  refine e_dup2 d_X11_text_207 rfl rfl ?_
  refine e_ialdN (k := 2) d_X11_text_208 H_a rfl (by decide) (by decide) ?_
  rw [ha2]
  refine e_iconst (v := 1) d_X11_text_209 (by decide) ?_
  refine e_iadd d_X11_text_210 ?_
  rw [nI_1]
  refine e_iastN (k := 2) d_X11_text_211 H_a rfl (by decide) (by decide) ?_
  refine e_aloadn d_X11_text_212 rfl ?_
  refine e_get d_X11_text_213 f_X11_7 (H_md.n (by decide)) rfl ?_
  refine e_iconst (v := 2) d_X11_text_216 (by decide) ?_
  skip
  refine e_ialdN (k := 2) d_X11_text_217 H_a.s rfl (by decide) (by decide) ?_
  rw [va_up_self]
  refine e_iconst (v := 1) d_X11_text_218 (by decide) ?_
  refine e_isub d_X11_text_219 ?_
  rw [show nI (tcn + 1) - 1 = nI tcn from nI_m]
  exact e_iret d_X11_text_220 rfl (rfl) (⟨_, rfl, ⟨Or.inl ⟨by rw [hR2], rfl, ⟨_, _, _, _, _, _, _, _, _, _, _, _, _, _, _, _, _, _, _, (H_md.n (by decide))⟩, H_a.s, by rw [hR2]; exact (hK1 my ne hdone9 (hI.2.2.2.2.1) (hI.2.2.2.2.2.1)).fr ((Fr.refl [67] _).up (by decide)) (by decide), ⟨s, by rw [hR2]; exact hI, by rw [hR2]⟩⟩, fun tp nc kd cd many near hne T => (hK2 tp nc kd cd many near hne ((T.fr hF (by decide)).fr (((Fr.refl [66] _).up (by decide)).up (by decide)) (by decide))).fr ((Fr.refl [67] _).up (by decide)) (by decide)⟩, (((((hF.mono (by decide)).up (by decide)).up (by decide)).trans (fr_9.mono (by decide))).up (by decide))⟩)

theorem mx_2 {h0 k : AH} {q s1 tcn : Nat} {S1 : PS} {a : Nat → Int32} {R : Nat × Nat × PS} (H_a0 : Hs h0 67 (aI 380 a)) (hF : Fr (66 :: [76, 77, 78, 79, 80, 81, 82, 83, 84]) h0 k) (hq : q ≠ 0) (hq6 : q ≤ 6) (hR : R = (q, s1, S1)) (hE : MdE k q s1) : E M_X11_text (0, 0) (rI (fun x h' => TxtM h0 h' tcn a x R ∧ Fr [66, 67, 70, 71, 72, 73, 74, 75, 76, 77, 78, 79, 80, 81, 82, 83, 84] h0 h')) 167 k [some (.ref 66)] [] := by
  have H_a := hF.hs H_a0 (by decide)
  obtain ⟨_, _, _, _, _, _, _, _, _, _, _, _, _, _, _, _, _, _, _, H_md⟩ := id hE
  refine e_aloadn d_X11_text_167 rfl ?_
  refine e_aloadn d_X11_text_168 rfl ?_
  refine e_get d_X11_text_169 f_X11_216 H_md rfl ?_
  refine e_puti d_X11_text_172 f_X11_20 H_md (Nat.le_of_ble_eq_true rfl) ?_
  refine e_aloadn d_X11_text_175 rfl ?_
  refine e_aloadn d_X11_text_176 rfl ?_
  refine e_get d_X11_text_177 f_X11_219 H_md.s rfl ?_
  refine e_puti d_X11_text_180 f_X11_24 H_md.s (Nat.le_of_ble_eq_true rfl) ?_
  refine e_aloadn d_X11_text_183 rfl ?_
  refine e_get d_X11_text_184 f_X11_216 H_md.s.s rfl ?_
  refine e_if_le d_X11_text_187 (fun z => by first | exact absurd (fun z => absurd (i_np (by omega) z) hq) z | exact absurd z (fun z => absurd (i_np (by omega) z) hq)) (fun _ => ?_)
  refine e_iconst (v := -1) d_X11_text_190 (by decide) ?_
  exact e_iret d_X11_text_191 rfl (rfl) (⟨_, rfl, ⟨Or.inr ⟨by rw [hR]; exact hq, rfl, by rw [hR]; exact ⟨_, _, _, _, _, _, _, _, _, _, _, _, _, _, _, _, _, _, _, H_md.s.s⟩, ((H_a.n (by decide)).n (by decide))⟩, fun tp nc kd cd many near hne T => (T.fr hF (by decide)).fr (((Fr.refl [66] _).up (by decide)).up (by decide)) (by decide)⟩, ((hF.mono (by decide)).up (by decide)).up (by decide)⟩)

theorem s_X11_text {h : AH} {tcn L : Nat} {a mt : Nat → Int32} {tb : Nat → Nat} {kd0 : Nat → Nat} {cd0 : Nat → List Nat} {mfl mfa mln mat mtk mso mto mwr mwp mop mfs mws mst mnc mnk mnr mdn : Int32} {mup mlo mgu mgl : Int64} (H_md : Hs h 66 (oMd (nI L) mfl mfa mup mlo mln mat mtk mso mto mwr mwp mop mfs mws mst mnc mnk mnr mdn mgu mgl)) (H_a : Hs h 67 (aI 380 a)) (ha2 : a 2 = nI tcn) (htc : tcn < 6) (H_mtape : Hs h 69 (aB 300 mt)) (hmt : ∀ k, k < 300 → mt k = sbI (tb k) ∧ tb k < 256) (hL : L ≤ 300) (hK : MK0 h) : Sp M_X11_text (0, 0) h [.ref 66] (rI (fun x h' => TxtM h h' tcn a x (qr tb L (run isB tb L 0) (4, [], 0, kd0, cd0, -1, -1)) ∧ Fr [66, 67, 70, 71, 72, 73, 74, 75, 76, 77, 78, 79, 80, 81, 82, 83, 84] h h')) := by
  refine ⟨Nat.le_of_ble_eq_true rfl, ?_⟩
  show E _ _ _ 0 h [some (.ref 66)] []
  have H_a0 := H_a
  have H_mtape0 := H_mtape
  obtain ⟨-, ⟨g1, g2, g3, g4, k1, k2, k3, k4⟩, f1, f2, f3, f4, f5, j1, j2, j3, j4, j5⟩ := id hK
  refine e_aloadn d_X11_text_0 rfl ?_
  refine e_get d_X11_text_1 f_X11_7 H_md rfl ?_
  refine e_iconst (v := 2) d_X11_text_4 (by decide) ?_
  refine e_ialdN (k := 2) d_X11_text_5 H_a rfl (by decide) (by decide) ?_
  rw [ha2]
  refine e_bipush (v := 6) d_X11_text_6 (by decide) ?_
  refine e_icmp_ne d_X11_text_8 (fun _ => ?_) (fun z => by first | exact absurd (fun z => absurd ((nI_eq (b := 6) (by omega) (by decide)).mp z) (by omega)) z | exact absurd z (fun z => absurd ((nI_eq (b := 6) (by omega) (by decide)).mp z) (by omega)))
  refine e_aloadn d_X11_text_13 rfl ?_
  refine e_aloadn d_X11_text_14 rfl ?_
  refine e_get d_X11_text_15 f_X11_142 H_md rfl ?_
  refine e_puti d_X11_text_18 f_X11_194 H_md (Nat.le_of_ble_eq_true rfl) ?_
  refine e_aloadn d_X11_text_21 rfl ?_
  refine e_iconst (v := 0) d_X11_text_22 (by decide) ?_
  refine e_puti d_X11_text_23 f_X11_142 H_md.s (Nat.le_of_ble_eq_true rfl) ?_
  refine e_aloadn d_X11_text_26 rfl ?_
  refine e_iconst (v := 0) d_X11_text_27 (by decide) ?_
  refine e_puti d_X11_text_28 f_X11_191 H_md.s.s (Nat.le_of_ble_eq_true rfl) ?_
  refine e_aloadn d_X11_text_31 rfl ?_
  refine e_iconst (v := 0) d_X11_text_32 (by decide) ?_
  refine e_puti d_X11_text_33 f_X11_216 H_md.s.s.s (Nat.le_of_ble_eq_true rfl) ?_
  refine e_aloadn d_X11_text_36 rfl ?_
  refine e_iconst (v := -1) d_X11_text_37 (by decide) ?_
  refine e_puti d_X11_text_38 f_X11_219 H_md.s.s.s.s (Nat.le_of_ble_eq_true rfl) ?_
  refine e_aloadn d_X11_text_41 rfl ?_
  refine e_iconst (v := 0) d_X11_text_42 (by decide) ?_
  refine e_puti d_X11_text_43 f_X11_228 H_md.s.s.s.s.s (Nat.le_of_ble_eq_true rfl) ?_
  refine e_aloadn d_X11_text_46 rfl ?_
  refine e_iconst (v := 0) d_X11_text_47 (by decide) ?_
  refine e_puti d_X11_text_48 f_X11_225 H_md.s.s.s.s.s.s (Nat.le_of_ble_eq_true rfl) ?_
  refine e_aloadn d_X11_text_51 rfl ?_
  refine e_iconst (v := 0) d_X11_text_52 (by decide) ?_
  refine e_puti d_X11_text_53 f_X11_240 H_md.s.s.s.s.s.s.s (Nat.le_of_ble_eq_true rfl) ?_
  refine e_aloadn d_X11_text_56 rfl ?_
  refine e_iconst (v := 4) d_X11_text_57 (by decide) ?_
  refine e_puti d_X11_text_58 f_X11_260 H_md.s.s.s.s.s.s.s.s (Nat.le_of_ble_eq_true rfl) ?_
  refine e_aloadn d_X11_text_61 rfl ?_
  refine e_iconst (v := 0) d_X11_text_62 (by decide) ?_
  refine e_puti d_X11_text_63 f_X11_290 H_md.s.s.s.s.s.s.s.s.s (Nat.le_of_ble_eq_true rfl) ?_
  refine e_aloadn d_X11_text_66 rfl ?_
  refine e_iconst (v := 0) d_X11_text_67 (by decide) ?_
  refine e_puti d_X11_text_68 f_X11_222 H_md.s.s.s.s.s.s.s.s.s.s (Nat.le_of_ble_eq_true rfl) ?_
  refine e_aloadn d_X11_text_71 rfl ?_
  refine e_callRVV d_X11_text_72 l_X11_text_237 H_md.s.s.s.s.s.s.s.s.s.s.s rfl rfl (s_X11_next (L := L) (a := 0) H_md.s.s.s.s.s.s.s.s.s.s.s (((((((((((H_mtape.n (by decide)).n (by decide)).n (by decide)).n (by decide)).n (by decide)).n (by decide)).n (by decide)).n (by decide)).n (by decide)).n (by decide)).n (by decide)) hmt (Nat.zero_le _) hL) rfl rfl (Nat.le_of_ble_eq_true rfl) (fun h_72 q_72 s_72 => ?_)
  obtain ⟨⟨so, to, H_md2, htk⟩, fr_72⟩ := q_72
  have hF72 : Fr (66 :: [76, 77, 78, 79, 80, 81, 82, 83, 84]) h h_72 := ((((((((((((Fr.refl _ _).up (by decide)).up (by decide)).up (by decide)).up (by decide)).up (by decide)).up (by decide)).up (by decide)).up (by decide)).up (by decide)).up (by decide)).up (by decide)).trans (fr_72.mono (by decide))
  have hs0 := (run_ge (P := isB) (b := tb) (Nat.zero_le L)).2
  have hb : ∀ k, k < L → tb k < 256 := fun k hk => (hmt k (by omega)).2
  exact mw_loop (R := (qr tb L (run isB tb L 0) (4, [], 0, kd0, cd0, -1, -1))) H_mtape0 hmt hb hL (fun k s nc kd cd my ne g1 g2 g3 g4 g5 g6 => mx_1 H_a0 ha2 htc hK hL g1 g2 g3 g4 g5 g6) (fun k q s1 S1 g1 g2 g3 g4 g5 => mx_2 H_a0 g1 g2 g3 g4 g5) 0 (Nat.zero_le _) h_72 0 (Or.inl ⟨rfl, _, 4, 0, [], kd0, cd0, -1, -1, Nat.zero_le _, hs0, rfl, gI_mono gI_0 (Nat.zero_le _), Or.inr ⟨rfl, 0, mnk, ⟨so, to, _, _, _, _, _, _, _, H_md2, htk⟩, ⟨g1, g2, g3, g4, (fr_72.hs (((((((((((k1.n (by decide)).n (by decide)).n (by decide)).n (by decide)).n (by decide)).n (by decide)).n (by decide)).n (by decide)).n (by decide)).n (by decide)).n (by decide)) (by decide)), (fr_72.hs (((((((((((k2.n (by decide)).n (by decide)).n (by decide)).n (by decide)).n (by decide)).n (by decide)).n (by decide)).n (by decide)).n (by decide)).n (by decide)).n (by decide)) (by decide)), (fr_72.hs (((((((((((k3.n (by decide)).n (by decide)).n (by decide)).n (by decide)).n (by decide)).n (by decide)).n (by decide)).n (by decide)).n (by decide)).n (by decide)).n (by decide)) (by decide)), (fr_72.hs (((((((((((k4.n (by decide)).n (by decide)).n (by decide)).n (by decide)).n (by decide)).n (by decide)).n (by decide)).n (by decide)).n (by decide)).n (by decide)).n (by decide)) (by decide)), trivial⟩, ⟨f1, f2, f3, f4, f5, (fr_72.hs (((((((((((j1.n (by decide)).n (by decide)).n (by decide)).n (by decide)).n (by decide)).n (by decide)).n (by decide)).n (by decide)).n (by decide)).n (by decide)).n (by decide)) (by decide)), (fr_72.hs (((((((((((j2.n (by decide)).n (by decide)).n (by decide)).n (by decide)).n (by decide)).n (by decide)).n (by decide)).n (by decide)).n (by decide)).n (by decide)).n (by decide)) (by decide)), (fr_72.hs (((((((((((j3.n (by decide)).n (by decide)).n (by decide)).n (by decide)).n (by decide)).n (by decide)).n (by decide)).n (by decide)).n (by decide)).n (by decide)).n (by decide)) (by decide)), (fr_72.hs (((((((((((j4.n (by decide)).n (by decide)).n (by decide)).n (by decide)).n (by decide)).n (by decide)).n (by decide)).n (by decide)).n (by decide)).n (by decide)).n (by decide)) (by decide)), (fr_72.hs (((((((((((j5.n (by decide)).n (by decide)).n (by decide)).n (by decide)).n (by decide)).n (by decide)).n (by decide)).n (by decide)).n (by decide)).n (by decide)).n (by decide)) (by decide)), fun i hi => absurd hi (Nat.not_lt_zero _), rfl, fun z => by cases z⟩⟩⟩) hF72
