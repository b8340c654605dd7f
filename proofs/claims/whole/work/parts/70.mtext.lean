/-! THE MODEL READS A TAPE -/
theorem MqR_eq {h : AH} {tb : Nat → Nat} {L s : Nat} {r r' : Nat × PS} (h1 : MqR h tb L s r) (e1 : r'.1 = r.1) (e2 : r'.1 = 0 → r'.2 = r.2) : MqR h tb L s r' := by
  rcases h1 with ⟨h0, hC⟩ | ⟨h0, hE⟩
  · exact Or.inl ⟨e1.trans h0, by rw [e2 (e1.trans h0)]; exact hC⟩
  · exact Or.inr ⟨by rw [e1]; exact h0, by rw [e1]; exact hE⟩
theorem gOp_01 {t nc : Nat} {G : LV} {kd : Nat → Nat} {cd : Nat → List Nat} {my ne : Int32} (ht : ¬ t = 11) : (gOperand t 0 G nc kd cd my ne).1 = (gOperand t 1 ((4, []) :: G) nc kd cd my ne).1 ∧ ((gOperand t 0 G nc kd cd my ne).1 = 0 → (gOperand t 0 G nc kd cd my ne).2 = (gOperand t 1 ((4, []) :: G) nc kd cd my ne).2) := by
  have e1 : lft 0 G = (4, []) :: G := rfl
  have e2 : lft 1 ((4, []) :: G) = (4, []) :: G := rfl
  have e3 : nO ((4, []) :: G) = nO G := by simp [nO]
  unfold gOperand
  rw [e1, e2, e3]
  by_cases h1 : 100 ≤ t
  · rw [if_pos h1, if_pos h1]; exact ⟨rfl, fun _ => rfl⟩
  · rw [if_neg h1, if_neg h1]
    by_cases h2 : t < 11
    · rw [if_pos h2, if_pos h2]; exact ⟨rfl, fun _ => rfl⟩
    · rw [if_neg h2, if_neg h2]
      by_cases h3 : t = 32
      · rw [if_pos h3, if_pos h3]; exact ⟨rfl, fun _ => rfl⟩
      · rw [if_neg h3, if_neg h3]
        by_cases h4 : t = 28
        · rw [if_pos h4, if_pos h4]; exact ⟨rfl, fun _ => rfl⟩
        · rw [if_neg h4, if_neg h4, if_neg (fun z => ht z.1), if_neg (fun z => ht z.1)]
          exact ⟨rfl, fun z => absurd z (by simp)⟩
/-- the model's loop: m 0 a token ahead of all, 1 behind the left side's opening, 2 behind an ASK, 3 a fault -/
def InM (h : AH) (tb : Nat → Nat) (L i m : Nat) (R : Nat × Nat × PS) : Prop :=
  (m = 0 ∧ ∃ (s ph nc : Nat) (G : LV) (kd : Nat → Nat) (cd : Nat → List Nat) (my ne : Int32), i ≤ 3 * s ∧ s ≤ L ∧ R = qr tb L s (ph, G, nc, kd, cd, my, ne) ∧ gI (ph, G, nc, kd, cd, my, ne) s ∧ MCs h tb L s (ph, G, nc, kd, cd, my, ne)) ∨
  (m = 1 ∧ ∃ (s nc : Nat) (G : LV) (kd : Nat → Nat) (cd : Nat → List Nat) (my ne : Int32), i ≤ 3 * s + 1 ∧ s ≤ L ∧ ¬ (tok tb L s).1 = 11 ∧ R = qr tb L s (0, G, nc, kd, cd, my, ne) ∧ gI (0, G, nc, kd, cd, my, ne) s ∧ MCs h tb L s (1, (4, []) :: G, nc, kd, cd, my, ne)) ∨
  (m = 2 ∧ ∃ (s nd f : Nat) (w e : List Nat) (r0 : LV) (kd : Nat → Nat) (cd : Nat → List Nat) (my ne : Int32), i ≤ 3 * s + 1 ∧ s ≤ L ∧ ¬ (27 ≤ (tok tb L s).1 ∧ (tok tb L s).1 ≤ 30) ∧ 21 ≤ f ∧ f ≤ 26 ∧ unt r0 = [(2, e)] ∧ vE e ∧ R = qr tb L s (2, (f, w) :: r0, nd + 1, kd, cd, my, ne) ∧ gI (2, (f, w) :: r0, nd + 1, kd, cd, my, ne) s ∧ MC3 h tb L s [(2, e)] nd kd (cdA cd (nd + 1) (w ++ ([f] ++ List.replicate (nts r0) 11))) my ne) ∨
  (m = 3 ∧ ∃ (q s1 : Nat) (S1 : PS), q ≠ 0 ∧ q ≤ 6 ∧ R = (q, s1, S1) ∧ MdE h q s1)
theorem InM_cl {h : AH} {tb : Nat → Nat} {L s i : Nat} {R : Nat × Nat × PS} (hi : i ≤ 3 * s + 1) (hC : ClR h tb L s R) : ∃ m, InM h tb L (i + 1) m R := by
  rcases hC with ⟨s1, ⟨ph, G, nc, kd, cd, my, ne⟩, e, h1, h2, h3, h4⟩ | ⟨q, s1, S1, h1, h2, h3, h4⟩
  · exact ⟨0, Or.inl ⟨rfl, s1, ph, nc, G, kd, cd, my, ne, by omega, h2, e, h3, h4⟩⟩
  · exact ⟨3, Or.inr (Or.inr (Or.inr ⟨rfl, q, s1, S1, h1, h2, h3, h4⟩))⟩
theorem InM.m {h : AH} {tb : Nat → Nat} {L i m : Nat} {R : Nat × Nat × PS} (H : InM h tb L i m R) : m ≤ 3 := by
  rcases H with ⟨h, -⟩ | ⟨h, -⟩ | ⟨h, -⟩ | ⟨h, -⟩ <;> omega
theorem InM.i0 {h : AH} {tb : Nat → Nat} {L i m : Nat} {R : Nat × Nat × PS} (H : InM h tb L i m R) (hm : m ≠ 3) : i ≤ 3 * L + 1 := by
  rcases H with ⟨-, s, ph, nc, G, kd, cd, my, ne, h1, h2, -⟩ | ⟨-, s, nc, G, kd, cd, my, ne, h1, h2, -⟩ | ⟨-, s, nd, f, w, e, r0, kd, cd, my, ne, h1, h2, -⟩ | ⟨h, -⟩
  · omega
  · omega
  · omega
  · exact absurd h hm
/-- what stands in a clause that goes on -/
theorem gI_in {ph nc a : Nat} {G : LV} {kd : Nat → Nat} {cd : Nat → List Nat} {my ne : Int32} (h : gI (ph, G, nc, kd, cd, my, ne) a) (hp : ph ≤ 2) : 0 < nc ∧ nc ≤ 10 ∧ gC ph G (kd (nc - 1)) (cd (nc - 1)) ∧ tot cd nc + (flat G).length ≤ a ∧ 16 ≤ kd (nc - 1) ∧ kd (nc - 1) ≤ 20 ∧ nO G ≤ 8 := by
  obtain ⟨h0, hC⟩ := h.2.2.2.2.2.2.2.2.1 hp
  exact ⟨h0, h.1, hC, h.2.2.1, hC.1, hC.2.1, hC.2.2.1⟩
theorem gC_sz {ph k : Nat} {G : LV} {c : List Nat} (h : gC ph G k c) : G.length ≤ 10 ∧ nW G ≤ 20 := by
  obtain ⟨h1, h2, h3, h4, h5, h6⟩ := h
  have hE : ∀ {r : LV}, shE r → nW r ≤ 2 := by
    intro r
    induction r with
    | nil => intro h; exact h.elim
    | cons p r ih =>
      obtain ⟨f, w⟩ := p
      intro h
      rcases h with ⟨rfl, rfl, hw⟩ | ⟨rfl, rfl, hr⟩
      · have := (vE_in hw).2
        simp [nW]; omega
      · have := ih hr
        simp [nW]; omega
  rcases h6 with ⟨-, -, q⟩ | ⟨-, q, -⟩ | ⟨-, q⟩
  · have := (flat_lenE q).2
    have := hE q
    omega
  · have := (flat_len q).2
    have := nW_I q
    omega
  · have := (flat_len q).2
    have := nW_I q
    omega
theorem MCs_in {h : AH} {tb : Nat → Nat} {L s ph nc : Nat} {G : LV} {kd : Nat → Nat} {cd : Nat → List Nat} {my ne : Int32} (H : MCs h tb L s (ph, G, nc, kd, cd, my, ne)) (hp : ph ≤ 2) : ∃ r, MdP h tb L s 0 (-1) (nO G) G.length (nW G) (nc - 1) r (nI ph) (nI (kd (nc - 1) - 14)) ∧ MGs h G ∧ MN h (nc - 1) true kd cd my ne r := by
  rcases H with ⟨-, q⟩ | ⟨h4, -⟩
  · exact q
  · have h4 : ph = 4 := h4
    omega
theorem MCs_4 {h : AH} {tb : Nat → Nat} {L s nc : Nat} {G : LV} {kd : Nat → Nat} {cd : Nat → List Nat} {my ne : Int32} (H : MCs h tb L s (4, G, nc, kd, cd, my, ne)) : ∃ r nk, MdP h tb L s 0 (-1) 0 0 0 nc r 4 nk ∧ MGs h [] ∧ MN h nc false kd cd my ne r := by
  rcases H with ⟨h4, -⟩ | ⟨-, q⟩
  · have h4 : 4 ≤ 2 := h4
    omega
  · exact q

theorem fl_le {f : Nat} {w : List Nat} {r : LV} (hf : 21 ≤ f) : w.length + (1 + nts r) ≤ (flat ((f, w) :: r)).length := by
  have h : ∀ r : LV, nts r ≤ (flat r).length := by
    intro r
    induction r with
    | nil => exact Nat.le_refl _
    | cons p r ih =>
      obtain ⟨g, v⟩ := p
      simp only [nts, flat, List.length_append]
      by_cases e : g = 3
      · rw [if_pos e, e]; simp [opn]; omega
      · rw [if_neg e]; omega
  have := h r
  simp only [flat, List.length_append]
  rw [opn_cmp hf]; simp; omega
theorem mw_0 {h k : AH} {tb : Nat → Nat} {mt : Nat → Int32} {L s i : Nat} {R : Nat × Nat × PS} {Q : Option Value → AH → Prop} {G : LV} {nd : Nat} {kd : Nat → Nat} {cd : Nat → List Nat} {my ne : Int32} (hF : Fr [66, 76, 77, 78, 79, 80, 81, 82, 83, 84] h k) (H_mt0 : Hs h 69 (aB 300 mt)) (hmt : ∀ k, k < 300 → mt k = sbI (tb k) ∧ tb k < 256) (hb : ∀ k, k < L → tb k < 256) (hL : L ≤ 300) (hsL : s ≤ L) (ih : ∀ (k1 : AH) (m1 : Nat), InM k1 tb L (i + 1) m1 R → Fr [66, 76, 77, 78, 79, 80, 81, 82, 83, 84] h k1 → E M_X11_text (0, 0) Q 75 k1 [some (.ref 66)] []) (hi : i ≤ 3 * s) (hR : R = qr tb L s (0, G, nd + 1, kd, cd, my, ne)) (hI : gI (0, G, nd + 1, kd, cd, my, ne) s) (hC : MCs k tb L s (0, G, nd + 1, kd, cd, my, ne)) : E M_X11_text (0, 0) Q 75 k [some (.ref 66)] [] := by
  have H_mtape := hF.hs H_mt0 (by decide)
  obtain ⟨r, hP, hGs, hN⟩ := MCs_in hC (by decide)
  obtain ⟨h0, hn10, hgC, htf, hk16, hk20, hO8⟩ := gI_in hI (by decide)
  obtain ⟨hgl, hgw⟩ := gC_sz hgC
  rw [show nd + 1 - 1 = nd from rfl] at hP hN hgC hk16 hk20
  have hr3 := r_400 hN (by omega) (by omega)
  obtain ⟨so, to, mfl, mfa, mdn, mup, mlo, mgu, mgl, H_md, htk⟩ := id hP
  refine e_aloadn d_X11_text_75 rfl ?_
  refine e_get d_X11_text_76 f_X11_216 H_md rfl ?_
  refine e_if_ne d_X11_text_79 (fun z => by first | exact absurd (fun z => z rfl) z | exact absurd z (fun z => z rfl)) (fun _ => ?_)
  refine e_aloadn d_X11_text_82 rfl ?_
  refine e_get d_X11_text_83 f_X11_260 H_md rfl ?_
  refine e_iconst (v := 4) d_X11_text_86 (by decide) ?_
  refine e_icmp_ne d_X11_text_87 (fun _ => ?_) (fun z => by first | exact absurd (by decide) z | exact absurd z (by decide))
  refine e_aloadn d_X11_text_97 rfl ?_
  refine e_get d_X11_text_98 f_X11_260 H_md rfl ?_
  refine e_tab d_X11_text_101 31 132 (by decide) (by decide) (by decide) (by decide) ?_
  refine e_aloadn d_X11_text_132 rfl ?_
  refine e_callRVV d_X11_text_133 l_X11_text_299 H_md rfl rfl (s_X11_asks hP hGs hN H_mtape hmt hsL hL hO8 (by omega)) rfl rfl (Nat.le_of_ble_eq_true rfl) (fun h_9 q_9 s_9 => ?_)
  refine e_gt d_X11_text_136 ?_
  rcases Decidable.em ((tok tb L s).1 = 11) with c11 | c11
  · have hCl := ClR_of hb hsL hI (fun z => absurd z.2 (by simp)) (by simp only [gstep]; rw [if_neg (by decide), if_neg (by decide), if_neg (by decide), if_neg (by decide)]) (q_9.1 c11)
    rw [← hR] at hCl
    obtain ⟨m9, hMM⟩ := InM_cl (i := i) (by omega) hCl
    have hFF := hF.trans (q_9.2.2.mono (by decide))
    exact ih _ _ hMM hFF
  · exact ih _ 1 (Or.inr (Or.inl ⟨rfl, s, nd + 1, G, kd, cd, my, ne, by omega, hsL, c11, hR, hI, q_9.2.1 c11⟩)) (hF.trans (q_9.2.2.mono (by decide)))

theorem mw_1 {h k : AH} {tb : Nat → Nat} {mt : Nat → Int32} {L s i : Nat} {R : Nat × Nat × PS} {Q : Option Value → AH → Prop} {G : LV} {nd : Nat} {kd : Nat → Nat} {cd : Nat → List Nat} {my ne : Int32} (hF : Fr [66, 76, 77, 78, 79, 80, 81, 82, 83, 84] h k) (H_mt0 : Hs h 69 (aB 300 mt)) (hmt : ∀ k, k < 300 → mt k = sbI (tb k) ∧ tb k < 256) (hb : ∀ k, k < L → tb k < 256) (hL : L ≤ 300) (hsL : s ≤ L) (ih : ∀ (k1 : AH) (m1 : Nat), InM k1 tb L (i + 1) m1 R → Fr [66, 76, 77, 78, 79, 80, 81, 82, 83, 84] h k1 → E M_X11_text (0, 0) Q 75 k1 [some (.ref 66)] []) (hi : i ≤ 3 * s) (hR : R = qr tb L s (1, G, nd + 1, kd, cd, my, ne)) (hI : gI (1, G, nd + 1, kd, cd, my, ne) s) (hC : MCs k tb L s (1, G, nd + 1, kd, cd, my, ne)) : E M_X11_text (0, 0) Q 75 k [some (.ref 66)] [] := by
  have H_mtape := hF.hs H_mt0 (by decide)
  obtain ⟨r, hP, hGs, hN⟩ := MCs_in hC (by decide)
  obtain ⟨h0, hn10, hgC, htf, hk16, hk20, hO8⟩ := gI_in hI (by decide)
  obtain ⟨hgl, hgw⟩ := gC_sz hgC
  rw [show nd + 1 - 1 = nd from rfl] at hP hN hgC hk16 hk20
  have hr3 := r_400 hN (by omega) (by omega)
  obtain ⟨so, to, mfl, mfa, mdn, mup, mlo, mgu, mgl, H_md, htk⟩ := id hP
  have hI9 : shI (kd nd) G := by
    rcases hgC.2.2.2.2.2 with q | q | q
    · omega
    · omega
    · exact q.2
  refine e_aloadn d_X11_text_75 rfl ?_
  refine e_get d_X11_text_76 f_X11_216 H_md rfl ?_
  refine e_if_ne d_X11_text_79 (fun z => by first | exact absurd (fun z => z rfl) z | exact absurd z (fun z => z rfl)) (fun _ => ?_)
  refine e_aloadn d_X11_text_82 rfl ?_
  refine e_get d_X11_text_83 f_X11_260 H_md rfl ?_
  refine e_iconst (v := 4) d_X11_text_86 (by decide) ?_
  refine e_icmp_ne d_X11_text_87 (fun _ => ?_) (fun z => by first | exact absurd (by decide) z | exact absurd z (by decide))
  refine e_aloadn d_X11_text_97 rfl ?_
  refine e_get d_X11_text_98 f_X11_260 H_md rfl ?_
  refine e_tab d_X11_text_101 38 139 (by decide) (by decide) (by decide) (by decide) ?_
  refine e_aloadn d_X11_text_139 rfl ?_
  refine e_callRVV d_X11_text_140 l_X11_text_302 H_md rfl rfl (s_X11_begins hP hGs hN H_mtape hmt hsL hL hO8 (by omega) hI9 (by have := neg_le G; omega) ⟨hk16, hk20⟩) rfl rfl (Nat.le_of_ble_eq_true rfl) (fun h_9 q_9 s_9 => ?_)
  have hCl := ClR_of hb hsL hI (fun z => absurd z.2 (by simp)) (by simp only [gstep]; rw [if_neg (by decide), if_neg (by decide), if_neg (by decide), if_neg (by decide)]) (q_9.1)
  rw [← hR] at hCl
  obtain ⟨m9, hMM⟩ := InM_cl (i := i) (by omega) hCl
  have hFF := hF.trans (q_9.2.mono (by decide))
  refine e_gt d_X11_text_143 ?_
  exact ih _ _ hMM hFF

theorem mw_26 {h k : AH} {tb : Nat → Nat} {mt : Nat → Int32} {L s i : Nat} {R : Nat × Nat × PS} {Q : Option Value → AH → Prop} {w : List Nat} {r0 : LV} {nd : Nat} {kd : Nat → Nat} {cd : Nat → List Nat} {my ne : Int32} (hF : Fr [66, 76, 77, 78, 79, 80, 81, 82, 83, 84] h k) (H_mt0 : Hs h 69 (aB 300 mt)) (hmt : ∀ k, k < 300 → mt k = sbI (tb k) ∧ tb k < 256) (hb : ∀ k, k < L → tb k < 256) (hL : L ≤ 300) (hsL : s ≤ L) (ih : ∀ (k1 : AH) (m1 : Nat), InM k1 tb L (i + 1) m1 R → Fr [66, 76, 77, 78, 79, 80, 81, 82, 83, 84] h k1 → E M_X11_text (0, 0) Q 75 k1 [some (.ref 66)] []) (hi : i ≤ 3 * s) (hR : R = qr tb L s (2, ((6, w) :: r0), nd + 1, kd, cd, my, ne)) (hI : gI (2, ((6, w) :: r0), nd + 1, kd, cd, my, ne) s) (hC : MCs k tb L s (2, ((6, w) :: r0), nd + 1, kd, cd, my, ne)) (hw : vS w) (hr : shI (kd nd) r0) : E M_X11_text (0, 0) Q 75 k [some (.ref 66)] [] := by
  have H_mtape := hF.hs H_mt0 (by decide)
  obtain ⟨r, hP, hGs, hN⟩ := MCs_in hC (by decide)
  obtain ⟨h0, hn10, hgC, htf, hk16, hk20, hO8⟩ := gI_in hI (by decide)
  obtain ⟨hgl, hgw⟩ := gC_sz hgC
  rw [show nd + 1 - 1 = nd from rfl] at hP hN hgC hk16 hk20
  have hr3 := r_400 hN (by omega) (by omega)
  obtain ⟨so, to, mfl, mfa, mdn, mup, mlo, mgu, mgl, H_md, htk⟩ := id hP
  refine e_aloadn d_X11_text_75 rfl ?_
  refine e_get d_X11_text_76 f_X11_216 H_md rfl ?_
  refine e_if_ne d_X11_text_79 (fun z => by first | exact absurd (fun z => z rfl) z | exact absurd z (fun z => z rfl)) (fun _ => ?_)
  refine e_aloadn d_X11_text_82 rfl ?_
  refine e_get d_X11_text_83 f_X11_260 H_md rfl ?_
  refine e_iconst (v := 4) d_X11_text_86 (by decide) ?_
  refine e_icmp_ne d_X11_text_87 (fun _ => ?_) (fun z => by first | exact absurd (by decide) z | exact absurd z (by decide))
  refine e_aloadn d_X11_text_97 rfl ?_
  refine e_get d_X11_text_98 f_X11_260 H_md rfl ?_
  refine e_tab d_X11_text_101 45 146 (by decide) (by decide) (by decide) (by decide) ?_
  refine e_aloadn d_X11_text_146 rfl ?_
  refine e_callRVV d_X11_text_147 l_X11_text_305 H_md rfl rfl (s_X11_goesOn_6 hP hGs hN H_mtape hmt hsL hL hw hr (by omega) (by omega) hr3) rfl rfl (Nat.le_of_ble_eq_true rfl) (fun h_9 q_9 s_9 => ?_)
  have hCl := ClR_of hb hsL hI (fun z => absurd z.2 (by simp)) (by simp only [gstep]; rw [if_neg (by decide), if_neg (by decide), if_neg (by decide), if_pos trivial]) (q_9.1)
  rw [← hR] at hCl
  obtain ⟨m9, hMM⟩ := InM_cl (i := i) (by omega) hCl
  have hFF := hF.trans (q_9.2.mono (by decide))
  refine e_gt d_X11_text_150 ?_
  exact ih _ _ hMM hFF

theorem mw_24 {h k : AH} {tb : Nat → Nat} {mt : Nat → Int32} {L s i : Nat} {R : Nat × Nat × PS} {Q : Option Value → AH → Prop} {w : List Nat} {r0 : LV} {nd : Nat} {kd : Nat → Nat} {cd : Nat → List Nat} {my ne : Int32} (hF : Fr [66, 76, 77, 78, 79, 80, 81, 82, 83, 84] h k) (H_mt0 : Hs h 69 (aB 300 mt)) (hmt : ∀ k, k < 300 → mt k = sbI (tb k) ∧ tb k < 256) (hb : ∀ k, k < L → tb k < 256) (hL : L ≤ 300) (hsL : s ≤ L) (ih : ∀ (k1 : AH) (m1 : Nat), InM k1 tb L (i + 1) m1 R → Fr [66, 76, 77, 78, 79, 80, 81, 82, 83, 84] h k1 → E M_X11_text (0, 0) Q 75 k1 [some (.ref 66)] []) (hi : i ≤ 3 * s) (hR : R = qr tb L s (2, ((4, w) :: r0), nd + 1, kd, cd, my, ne)) (hI : gI (2, ((4, w) :: r0), nd + 1, kd, cd, my, ne) s) (hC : MCs k tb L s (2, ((4, w) :: r0), nd + 1, kd, cd, my, ne)) (hw : vS w) (hE : shE r0) : E M_X11_text (0, 0) Q 75 k [some (.ref 66)] [] := by
  have H_mtape := hF.hs H_mt0 (by decide)
  obtain ⟨r, hP, hGs, hN⟩ := MCs_in hC (by decide)
  obtain ⟨h0, hn10, hgC, htf, hk16, hk20, hO8⟩ := gI_in hI (by decide)
  obtain ⟨hgl, hgw⟩ := gC_sz hgC
  rw [show nd + 1 - 1 = nd from rfl] at hP hN hgC hk16 hk20
  have hr3 := r_400 hN (by omega) (by omega)
  obtain ⟨so, to, mfl, mfa, mdn, mup, mlo, mgu, mgl, H_md, htk⟩ := id hP
  refine e_aloadn d_X11_text_75 rfl ?_
  refine e_get d_X11_text_76 f_X11_216 H_md rfl ?_
  refine e_if_ne d_X11_text_79 (fun z => by first | exact absurd (fun z => z rfl) z | exact absurd z (fun z => z rfl)) (fun _ => ?_)
  refine e_aloadn d_X11_text_82 rfl ?_
  refine e_get d_X11_text_83 f_X11_260 H_md rfl ?_
  refine e_iconst (v := 4) d_X11_text_86 (by decide) ?_
  refine e_icmp_ne d_X11_text_87 (fun _ => ?_) (fun z => by first | exact absurd (by decide) z | exact absurd z (by decide))
  refine e_aloadn d_X11_text_97 rfl ?_
  refine e_get d_X11_text_98 f_X11_260 H_md rfl ?_
  refine e_tab d_X11_text_101 45 146 (by decide) (by decide) (by decide) (by decide) ?_
  refine e_aloadn d_X11_text_146 rfl ?_
  refine e_callRVV d_X11_text_147 l_X11_text_305 H_md rfl rfl (s_X11_goesOn_4 hP hGs hN H_mtape hmt hsL hL hw hE (by omega) (by omega) hr3) rfl rfl (Nat.le_of_ble_eq_true rfl) (fun h_9 q_9 s_9 => ?_)
  have hCl := ClR_of hb hsL hI (fun z => absurd z.2 (by simp)) (by simp only [gstep]; rw [if_neg (by decide), if_neg (by decide), if_neg (by decide), if_pos trivial]) (q_9.1)
  rw [← hR] at hCl
  obtain ⟨m9, hMM⟩ := InM_cl (i := i) (by omega) hCl
  have hFF := hF.trans (q_9.2.mono (by decide))
  refine e_gt d_X11_text_150 ?_
  exact ih _ _ hMM hFF

theorem mw_2c {h k : AH} {tb : Nat → Nat} {mt : Nat → Int32} {L s i : Nat} {R : Nat × Nat × PS} {Q : Option Value → AH → Prop} {w : List Nat} {r0 : LV} {f : Nat} {nd : Nat} {kd : Nat → Nat} {cd : Nat → List Nat} {my ne : Int32} (hF : Fr [66, 76, 77, 78, 79, 80, 81, 82, 83, 84] h k) (H_mt0 : Hs h 69 (aB 300 mt)) (hmt : ∀ k, k < 300 → mt k = sbI (tb k) ∧ tb k < 256) (hb : ∀ k, k < L → tb k < 256) (hL : L ≤ 300) (hsL : s ≤ L) (ih : ∀ (k1 : AH) (m1 : Nat), InM k1 tb L (i + 1) m1 R → Fr [66, 76, 77, 78, 79, 80, 81, 82, 83, 84] h k1 → E M_X11_text (0, 0) Q 75 k1 [some (.ref 66)] []) (hi : i ≤ 3 * s) (hR : R = qr tb L s (2, ((f, w) :: r0), nd + 1, kd, cd, my, ne)) (hI : gI (2, ((f, w) :: r0), nd + 1, kd, cd, my, ne) s) (hC : MCs k tb L s (2, ((f, w) :: r0), nd + 1, kd, cd, my, ne)) (hw : vS w) (hE : shE r0) (hf : 21 ≤ f ∧ f ≤ 26) : E M_X11_text (0, 0) Q 75 k [some (.ref 66)] [] := by
  have H_mtape := hF.hs H_mt0 (by decide)
  obtain ⟨r, hP, hGs, hN⟩ := MCs_in hC (by decide)
  obtain ⟨h0, hn10, hgC, htf, hk16, hk20, hO8⟩ := gI_in hI (by decide)
  obtain ⟨hgl, hgw⟩ := gC_sz hgC
  rw [show nd + 1 - 1 = nd from rfl] at hP hN hgC hk16 hk20
  have hr3 := r_400 hN (by omega) (by omega)
  obtain ⟨so, to, mfl, mfa, mdn, mup, mlo, mgu, mgl, H_md, htk⟩ := id hP
  refine e_aloadn d_X11_text_75 rfl ?_
  refine e_get d_X11_text_76 f_X11_216 H_md rfl ?_
  refine e_if_ne d_X11_text_79 (fun z => by first | exact absurd (fun z => z rfl) z | exact absurd z (fun z => z rfl)) (fun _ => ?_)
  refine e_aloadn d_X11_text_82 rfl ?_
  refine e_get d_X11_text_83 f_X11_260 H_md rfl ?_
  refine e_iconst (v := 4) d_X11_text_86 (by decide) ?_
  refine e_icmp_ne d_X11_text_87 (fun _ => ?_) (fun z => by first | exact absurd (by decide) z | exact absurd z (by decide))
  refine e_aloadn d_X11_text_97 rfl ?_
  refine e_get d_X11_text_98 f_X11_260 H_md rfl ?_
  refine e_tab d_X11_text_101 45 146 (by decide) (by decide) (by decide) (by decide) ?_
  refine e_aloadn d_X11_text_146 rfl ?_
  refine e_callRVV d_X11_text_147 l_X11_text_305 H_md rfl rfl (s_X11_goesOn_c hP hGs hN H_mtape hmt hsL hL hw hE hf (by omega) (by omega) hr3) rfl rfl (Nat.le_of_ble_eq_true rfl) (fun h_9 q_9 s_9 => ?_)
  refine e_gt d_X11_text_150 ?_
  rcases Decidable.em (27 ≤ (tok tb L s).1 ∧ (tok tb L s).1 ≤ 30) with c11 | c11
  · have hCl := ClR_of hb hsL hI (fun z => absurd z.2 (by simp)) (by simp only [gstep]; rw [if_neg (by decide), if_neg (by decide), if_neg (by decide), if_pos trivial]) (q_9.1 c11)
    rw [← hR] at hCl
    obtain ⟨m9, hMM⟩ := InM_cl (i := i) (by omega) hCl
    have hFF := hF.trans (q_9.2.2.mono (by decide))
    exact ih _ _ hMM hFF
  · obtain ⟨e, u1, u2, -⟩ := unt_ok hE
    have q3 := q_9.2.1 c11
    rw [u1] at q3
    exact ih _ 2 (Or.inr (Or.inr (Or.inl ⟨rfl, s, nd, f, w, e, r0, kd, cd, my, ne, by omega, hsL, c11, hf.1, hf.2, u1, u2, hR, hI, q3⟩))) (hF.trans (q_9.2.2.mono (by decide)))

theorem mw_21 {h k : AH} {tb : Nat → Nat} {mt : Nat → Int32} {L s i : Nat} {R : Nat × Nat × PS} {Q : Option Value → AH → Prop} {w : List Nat} {nd : Nat} {kd : Nat → Nat} {cd : Nat → List Nat} {my ne : Int32} (hF : Fr [66, 76, 77, 78, 79, 80, 81, 82, 83, 84] h k) (H_mt0 : Hs h 69 (aB 300 mt)) (hmt : ∀ k, k < 300 → mt k = sbI (tb k) ∧ tb k < 256) (hb : ∀ k, k < L → tb k < 256) (hL : L ≤ 300) (hsL : s ≤ L) (ih : ∀ (k1 : AH) (m1 : Nat), InM k1 tb L (i + 1) m1 R → Fr [66, 76, 77, 78, 79, 80, 81, 82, 83, 84] h k1 → E M_X11_text (0, 0) Q 75 k1 [some (.ref 66)] []) (hi : i ≤ 3 * s) (hR : R = qr tb L s (2, [(1, w)], nd + 1, kd, cd, my, ne)) (hI : gI (2, [(1, w)], nd + 1, kd, cd, my, ne) s) (hC : MCs k tb L s (2, [(1, w)], nd + 1, kd, cd, my, ne)) (hw : vS w) : E M_X11_text (0, 0) Q 75 k [some (.ref 66)] [] := by
  have H_mtape := hF.hs H_mt0 (by decide)
  obtain ⟨r, hP, hGs, hN⟩ := MCs_in hC (by decide)
  obtain ⟨h0, hn10, hgC, htf, hk16, hk20, hO8⟩ := gI_in hI (by decide)
  obtain ⟨hgl, hgw⟩ := gC_sz hgC
  rw [show nd + 1 - 1 = nd from rfl] at hP hN hgC hk16 hk20
  have hr3 := r_400 hN (by omega) (by omega)
  obtain ⟨so, to, mfl, mfa, mdn, mup, mlo, mgu, mgl, H_md, htk⟩ := id hP
  refine e_aloadn d_X11_text_75 rfl ?_
  refine e_get d_X11_text_76 f_X11_216 H_md rfl ?_
  refine e_if_ne d_X11_text_79 (fun z => by first | exact absurd (fun z => z rfl) z | exact absurd z (fun z => z rfl)) (fun _ => ?_)
  refine e_aloadn d_X11_text_82 rfl ?_
  refine e_get d_X11_text_83 f_X11_260 H_md rfl ?_
  refine e_iconst (v := 4) d_X11_text_86 (by decide) ?_
  refine e_icmp_ne d_X11_text_87 (fun _ => ?_) (fun z => by first | exact absurd (by decide) z | exact absurd z (by decide))
  refine e_aloadn d_X11_text_97 rfl ?_
  refine e_get d_X11_text_98 f_X11_260 H_md rfl ?_
  refine e_tab d_X11_text_101 45 146 (by decide) (by decide) (by decide) (by decide) ?_
  refine e_aloadn d_X11_text_146 rfl ?_
  refine e_callRVV d_X11_text_147 l_X11_text_305 H_md rfl rfl (s_X11_goesOn_1 hP hGs hN H_mtape hmt hsL hL hw hk16 (by omega) (by omega) hr3) rfl rfl (Nat.le_of_ble_eq_true rfl) (fun h_9 q_9 s_9 => ?_)
  have hCl := ClR_of hb hsL hI (fun z => absurd z.2 (by simp)) (by simp only [gstep]; rw [if_neg (by decide), if_neg (by decide), if_neg (by decide), if_pos trivial]) (q_9.1)
  rw [← hR] at hCl
  obtain ⟨m9, hMM⟩ := InM_cl (i := i) (by omega) hCl
  have hFF := hF.trans (q_9.2.mono (by decide))
  refine e_gt d_X11_text_150 ?_
  exact ih _ _ hMM hFF

theorem mw_4 {h k : AH} {tb : Nat → Nat} {mt : Nat → Int32} {L s i : Nat} {R : Nat × Nat × PS} {Q : Option Value → AH → Prop} {nc : Nat} {kd : Nat → Nat} {cd : Nat → List Nat} {my ne : Int32} (hF : Fr [66, 76, 77, 78, 79, 80, 81, 82, 83, 84] h k) (H_mt0 : Hs h 69 (aB 300 mt)) (hmt : ∀ k, k < 300 → mt k = sbI (tb k) ∧ tb k < 256) (hb : ∀ k, k < L → tb k < 256) (hL : L ≤ 300) (hsL : s ≤ L) (ih : ∀ (k1 : AH) (m1 : Nat), InM k1 tb L (i + 1) m1 R → Fr [66, 76, 77, 78, 79, 80, 81, 82, 83, 84] h k1 → E M_X11_text (0, 0) Q 75 k1 [some (.ref 66)] []) (hi : i ≤ 3 * s) (hR : R = qr tb L s (4, [], nc, kd, cd, my, ne)) (hI : gI (4, [], nc, kd, cd, my, ne) s) (hC : MCs k tb L s (4, [], nc, kd, cd, my, ne)) (hne : ¬ (tok tb L s).1 = 35) : E M_X11_text (0, 0) Q 75 k [some (.ref 66)] [] := by
  have H_mtape := hF.hs H_mt0 (by decide)
  obtain ⟨r, nk, hP, hGs, hN⟩ := MCs_4 hC
  obtain ⟨so, to, mfl, mfa, mdn, mup, mlo, mgu, mgl, H_md, htk⟩ := id hP
  refine e_aloadn d_X11_text_75 rfl ?_
  refine e_get d_X11_text_76 f_X11_216 H_md rfl ?_
  refine e_if_ne d_X11_text_79 (fun z => by first | exact absurd (fun z => z rfl) z | exact absurd z (fun z => z rfl)) (fun _ => ?_)
  refine e_aloadn d_X11_text_82 rfl ?_
  refine e_get d_X11_text_83 f_X11_260 H_md rfl ?_
  refine e_iconst (v := 4) d_X11_text_86 (by decide) ?_
  refine e_icmp_ne d_X11_text_87 (fun z => by first | exact absurd (fun z => z rfl) z | exact absurd z (fun z => z rfl)) (fun _ => ?_)
  refine e_aloadn d_X11_text_90 rfl ?_
  refine e_get d_X11_text_91 f_X11_200 H_md rfl ?_
  refine e_if_eq d_X11_text_94 (fun z => by first | exact absurd (fun z => hne ((tk_end htk).mp z)) z | exact absurd z (fun z => hne ((tk_end htk).mp z))) (fun _ => ?_)
  refine e_aloadn d_X11_text_97 rfl ?_
  refine e_get d_X11_text_98 f_X11_260 H_md rfl ?_
  refine e_tabD d_X11_text_101 160 (by decide) (by decide) ?_
  refine e_aloadn d_X11_text_160 rfl ?_
  refine e_callRVV d_X11_text_161 l_X11_text_311 H_md rfl rfl (s_X11_clause hP hGs hN H_mtape hmt hsL hL hb hI (fun z => hne z.1)) rfl rfl (Nat.le_of_ble_eq_true rfl) (fun h_9 q_9 s_9 => ?_)
  have hCl := q_9.1
  rw [← hR] at hCl
  obtain ⟨m9, hMM⟩ := InM_cl (i := i) (by omega) hCl
  have hFF := hF.trans (q_9.2.mono (by decide))
  refine e_gt d_X11_text_164 ?_
  exact ih _ _ hMM hFF

theorem mw_B {h k : AH} {tb : Nat → Nat} {mt : Nat → Int32} {L s i : Nat} {R : Nat × Nat × PS} {Q : Option Value → AH → Prop} {G : LV} {nd : Nat} {kd : Nat → Nat} {cd : Nat → List Nat} {my ne : Int32} (hF : Fr [66, 76, 77, 78, 79, 80, 81, 82, 83, 84] h k) (H_mt0 : Hs h 69 (aB 300 mt)) (hmt : ∀ k, k < 300 → mt k = sbI (tb k) ∧ tb k < 256) (hb : ∀ k, k < L → tb k < 256) (hL : L ≤ 300) (hsL : s ≤ L) (ih : ∀ (k1 : AH) (m1 : Nat), InM k1 tb L (i + 1) m1 R → Fr [66, 76, 77, 78, 79, 80, 81, 82, 83, 84] h k1 → E M_X11_text (0, 0) Q 75 k1 [some (.ref 66)] []) (hi : i ≤ 3 * s + 1) (hR : R = qr tb L s (0, G, nd + 1, kd, cd, my, ne)) (hI : gI (0, G, nd + 1, kd, cd, my, ne) s) (h11 : ¬ (tok tb L s).1 = 11) (hC : MCs k tb L s (1, (4, []) :: G, nd + 1, kd, cd, my, ne)) : E M_X11_text (0, 0) Q 75 k [some (.ref 66)] [] := by
  have H_mtape := hF.hs H_mt0 (by decide)
  obtain ⟨r, hP, hGs, hN⟩ := MCs_in hC (by decide)
  obtain ⟨h0, hn10, hgC, htf, hk16, hk20, hO8⟩ := gI_in hI (by decide)
  obtain ⟨hgl, hgw⟩ := gC_sz hgC
  rw [show nd + 1 - 1 = nd from rfl] at hP hN hgC hk16 hk20
  have hr3 := r_400 hN (by omega) (by omega)
  have hE9 : kd nd ≠ 16 ∧ shE G := by
    rcases hgC.2.2.2.2.2 with q | q | q
    · exact q.2
    · omega
    · omega
  obtain ⟨so, to, mfl, mfa, mdn, mup, mlo, mgu, mgl, H_md, htk⟩ := id hP
  refine e_aloadn d_X11_text_75 rfl ?_
  refine e_get d_X11_text_76 f_X11_216 H_md rfl ?_
  refine e_if_ne d_X11_text_79 (fun z => by first | exact absurd (fun z => z rfl) z | exact absurd z (fun z => z rfl)) (fun _ => ?_)
  refine e_aloadn d_X11_text_82 rfl ?_
  refine e_get d_X11_text_83 f_X11_260 H_md rfl ?_
  refine e_iconst (v := 4) d_X11_text_86 (by decide) ?_
  refine e_icmp_ne d_X11_text_87 (fun _ => ?_) (fun z => by first | exact absurd (by decide) z | exact absurd z (by decide))
  refine e_aloadn d_X11_text_97 rfl ?_
  refine e_get d_X11_text_98 f_X11_260 H_md rfl ?_
  refine e_tab d_X11_text_101 38 139 (by decide) (by decide) (by decide) (by decide) ?_
  refine e_aloadn d_X11_text_139 rfl ?_
  refine e_callRVV d_X11_text_140 l_X11_text_302 H_md rfl rfl (s_X11_begins hP hGs hN H_mtape hmt hsL hL (by simp only [nO]; rw [if_neg (by decide)]; omega) (by simp; omega) (Or.inr (Or.inr ⟨Or.inl rfl, Or.inr ⟨hE9.1, Or.inl rfl, hE9.2⟩⟩)) (by simp only [neg]; rw [if_neg (by decide)]; omega) ⟨hk16, hk20⟩) rfl rfl (Nat.le_of_ble_eq_true rfl) (fun h_9 q_9 s_9 => ?_)
  obtain ⟨g1, g2⟩ := gOp_01 (G := G) (nc := nd + 1) (kd := kd) (cd := cd) (my := my) (ne := ne) h11
  have hCl := ClR_of hb hsL hI (fun z => absurd z.2 (by simp)) (by simp only [gstep]; rw [if_neg (by decide), if_neg (by decide), if_neg (by decide), if_neg (by decide)]) (MqR_eq q_9.1 g1 g2)
  rw [← hR] at hCl
  obtain ⟨m9, hMM⟩ := InM_cl (i := i) (by omega) hCl
  have hFF := hF.trans (q_9.2.mono (by decide))
  refine e_gt d_X11_text_143 ?_
  exact ih _ _ hMM hFF

theorem mw_C {h k : AH} {tb : Nat → Nat} {mt : Nat → Int32} {L s i : Nat} {R : Nat × Nat × PS} {Q : Option Value → AH → Prop} {f : Nat} {w e : List Nat} {r0 : LV} {nd : Nat} {kd : Nat → Nat} {cd : Nat → List Nat} {my ne : Int32} (hF : Fr [66, 76, 77, 78, 79, 80, 81, 82, 83, 84] h k) (H_mt0 : Hs h 69 (aB 300 mt)) (hmt : ∀ k, k < 300 → mt k = sbI (tb k) ∧ tb k < 256) (hb : ∀ k, k < L → tb k < 256) (hL : L ≤ 300) (hsL : s ≤ L) (ih : ∀ (k1 : AH) (m1 : Nat), InM k1 tb L (i + 1) m1 R → Fr [66, 76, 77, 78, 79, 80, 81, 82, 83, 84] h k1 → E M_X11_text (0, 0) Q 75 k1 [some (.ref 66)] []) (hi : i ≤ 3 * s + 1) (hR : R = qr tb L s (2, (f, w) :: r0, nd + 1, kd, cd, my, ne)) (hI : gI (2, (f, w) :: r0, nd + 1, kd, cd, my, ne) s) (hna : ¬ (27 ≤ (tok tb L s).1 ∧ (tok tb L s).1 ≤ 30)) (hf1 : 21 ≤ f) (hf2 : f ≤ 26) (hu : unt r0 = [(2, e)]) (he : vE e) (hC : MC3 k tb L s [(2, e)] nd kd (cdA cd (nd + 1) (w ++ ([f] ++ List.replicate (nts r0) 11))) my ne) : E M_X11_text (0, 0) Q 75 k [some (.ref 66)] [] := by
  have H_mtape := hF.hs H_mt0 (by decide)
  obtain ⟨r, hP, hGs, hN⟩ := hC
  obtain ⟨h0, hn10, hgC, htf, hk16, hk20, hO8⟩ := gI_in hI (by decide)
  rw [show nd + 1 - 1 = nd from rfl] at hgC hk16 hk20
  have hwl : w.length + (1 + nts r0) ≤ (flat ((f, w) :: r0)).length := fl_le hf1
  have hr3 := r_400 hN (by rw [tot_N (by omega)]; simp; omega) (by omega)
  obtain ⟨so, to, mfl, mfa, mdn, mup, mlo, mgu, mgl, H_md, htk⟩ := id hP
  refine e_aloadn d_X11_text_75 rfl ?_
  refine e_get d_X11_text_76 f_X11_216 H_md rfl ?_
  refine e_if_ne d_X11_text_79 (fun z => by first | exact absurd (fun z => z rfl) z | exact absurd z (fun z => z rfl)) (fun _ => ?_)
  refine e_aloadn d_X11_text_82 rfl ?_
  refine e_get d_X11_text_83 f_X11_260 H_md rfl ?_
  refine e_iconst (v := 4) d_X11_text_86 (by decide) ?_
  refine e_icmp_ne d_X11_text_87 (fun _ => ?_) (fun z => by first | exact absurd (by decide) z | exact absurd z (by decide))
  refine e_aloadn d_X11_text_97 rfl ?_
  refine e_get d_X11_text_98 f_X11_260 H_md rfl ?_
  refine e_tab d_X11_text_101 52 153 (by decide) (by decide) (by decide) (by decide) ?_
  refine e_aloadn d_X11_text_153 rfl ?_
  refine e_callRVV d_X11_text_154 l_X11_text_308 H_md rfl rfl (s_X11_asksOn hP hGs hN H_mtape hmt hsL hL he hk16 hr3) rfl rfl (Nat.le_of_ble_eq_true rfl) (fun h_9 q_9 s_9 => ?_)
  obtain ⟨g1, g2⟩ := gAsk_3 (t := (tok tb L s).1) (f := f) (w := w) (nc := nd + 1) (kd := kd) (cd := cd) (my := my) (ne := ne) hu
  have hCl := ClR_of hb hsL hI (fun z => absurd z.2 (by simp)) (by simp only [gstep]; rw [if_neg (by decide), if_neg (by decide), if_neg (by decide), if_pos trivial]; simp only [gOperator]; rw [if_neg hna, if_neg (by omega), if_neg (by omega), if_neg (by omega)]) (MqR_eq q_9.1 g1 g2)
  rw [← hR] at hCl
  obtain ⟨m9, hMM⟩ := InM_cl (i := i) (by omega) hCl
  have hFF := hF.trans (q_9.2.mono (by decide))
  refine e_gt d_X11_text_157 ?_
  exact ih _ _ hMM hFF
