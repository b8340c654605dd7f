/-! THE MODEL'S READER: operands -/
/-- the model's reader, for what is open and read -/
def MCs (h : AH) (tb : Nat → Nat) (L s : Nat) (S : PS) : Prop := (S.1 ≤ 2 ∧ ∃ r, MdP h tb L s 0 (-1) (nO S.2.1) S.2.1.length (nW S.2.1) (S.2.2.1 - 1) r (nI S.1) (nI (S.2.2.2.1 (S.2.2.1 - 1) - 14)) ∧ MGs h S.2.1 ∧ MN h (S.2.2.1 - 1) true S.2.2.2.1 S.2.2.2.2.1 S.2.2.2.2.2.1 S.2.2.2.2.2.2 r) ∨ (S.1 = 4 ∧ ∃ r nk, MdP h tb L s 0 (-1) 0 0 0 S.2.2.1 r 4 nk ∧ MGs h [] ∧ MN h S.2.2.1 false S.2.2.2.1 S.2.2.2.2.1 S.2.2.2.2.2.1 S.2.2.2.2.2.2 r)
def MqR (h : AH) (tb : Nat → Nat) (L s : Nat) (r : Nat × PS) : Prop := (r.1 = 0 ∧ MCs h tb L (run isB tb L (tok tb L s).2) r.2) ∨ (r.1 ≠ 0 ∧ MdE h r.1 s)
theorem MqR_bad {h : AH} {tb : Nat → Nat} {L s q : Nat} {r : Nat × PS} (hg : r.1 = q) (hq : q ≠ 0) (E : MdE h q s) : MqR h tb L s r := by
  subst hg
  exact Or.inr ⟨hq, E⟩
theorem MCs_mk {h : AH} {tb : Nat → Nat} {L s ph nd r : Nat} {G : LV} {kd : Nat → Nat} {cd : Nat → List Nat} {my ne : Int32} (hph : ph ≤ 2) (hP : MdP h tb L s 0 (-1) (nO G) G.length (nW G) nd r (nI ph) (nI (kd nd - 14))) (hG : MGs h G) (hN : MN h nd true kd cd my ne r) : MCs h tb L s (ph, G, nd + 1, kd, cd, my, ne) := Or.inl ⟨hph, r, hP, hG, hN⟩
theorem MCs_mk4 {h : AH} {tb : Nat → Nat} {L s nc r : Nat} {nk : Int32} {kd : Nat → Nat} {cd : Nat → List Nat} {my ne : Int32} (hP : MdP h tb L s 0 (-1) 0 0 0 nc r 4 nk) (hG : MGs h []) (hN : MN h nc false kd cd my ne r) : MCs h tb L s (4, [], nc, kd, cd, my, ne) := Or.inr ⟨rfl, r, nk, hP, hG, hN⟩
theorem MqR_ok {h : AH} {tb : Nat → Nat} {L s : Nat} {r : Nat × PS} {S : PS} (hg : r = (0, S)) (hC : MCs h tb L (run isB tb L (tok tb L s).2) S) : MqR h tb L s r := by
  subst hg
  exact Or.inl ⟨rfl, hC⟩
theorem MdP.st {h : AH} {tb : Nat → Nat} {L s op fs ws nd r : Nat} {st nk : Int32} (hP : MdP h tb L s 0 (-1) op fs ws nd r st nk) {st' : Int32} : ∀ {mfl mfa mup mlo so to mdn mgu mgl}, Hs h 66 (oMd 0 mfl mfa mup mlo (nI L) (nI (tok tb L s).2) (nI s) so to 0 (-1) (nI op) (nI fs) (nI ws) st (nI nd) nk (nI r) mdn mgu mgl) → TkM (tok tb L s).1 so to → MdP (up h 66 (oMd 0 mfl mfa mup mlo (nI L) (nI (tok tb L s).2) (nI s) so to 0 (-1) (nI op) (nI fs) (nI ws) st' (nI nd) nk (nI r) mdn mgu mgl)) tb L s 0 (-1) op fs ws nd r st' nk := fun H ht => ⟨_, _, _, _, _, _, _, _, _, Hs.s H, ht⟩
theorem r_400 {h : AH} {nd r : Nat} {kd : Nat → Nat} {cd : Nat → List Nat} {my ne : Int32} (hN : MN h nd true kd cd my ne r) (ht : tot cd (nd + 1) ≤ 300) (hn : nd ≤ 10) : r ≤ 310 := by
  obtain ⟨nw, nn, na, no, nv, -, -, -, -, -, -, hr, -⟩ := hN
  have := mtt_tot (kd := kd) (cd := cd) nd
  rw [tot_S] at ht
  have hr : r = mtt kd cd nd + (cd nd).length := hr
  omega
theorem vSF {w : List Nat} (h : vS w) : ∀ x, x ∈ w → x = 12 ∨ x = 13 ∨ x = 27 ∨ x = 28 ∨ x = 29 ∨ x = 30 := fun x hx => by have := (vS_in h).1 x hx; omega
theorem vEF {w : List Nat} (h : vE w) : ∀ x, x ∈ w → x = 12 ∨ x = 13 ∨ x = 27 ∨ x = 28 ∨ x = 29 ∨ x = 30 := fun x hx => by have := (vE_in h).1 x hx; omega
theorem nW_I {k : Nat} : ∀ {G : LV}, shI k G → nW G ≤ 2 * nO G + 4
  | [], h => h.elim
  | (f, w) :: r, h => by
    rcases h with ⟨rfl, hw, hr⟩ | ⟨rfl, rfl, hr⟩ | hs
    · have h1 := nW_I hr
      have h2 := (vS_in hw).2
      simp [nW, nO]; omega
    · have h1 := nW_I hr
      simp [nW, nO]; omega
    · have h2 := (vS_in hs.1).2
      rcases hs.2 with ⟨-, rfl, rfl⟩ | ⟨-, -, hE⟩
      · simp [nW]; omega
      · have : ∀ {r : LV}, shE r → nW r ≤ 2 := by
          intro r
          induction r with
          | nil => intro h; exact h.elim
          | cons p r ih =>
            obtain ⟨f, w⟩ := p
            intro h
            rcases h with ⟨rfl, rfl, hw⟩ | ⟨rfl, rfl, hr⟩
            · have := (vE_in hw).2
              simp [nW]; omega
            · have := ih hr
              simp [nW]; omega
        have := this hE
        simp [nW]; omega

theorem s_X11_asks {h : AH} {tb : Nat → Nat} {L s nd r : Nat} {G : LV} {kd : Nat → Nat} {cd : Nat → List Nat} {my ne : Int32} {mt : Nat → Int32} (hP : MdP h tb L s 0 (-1) (nO G) G.length (nW G) nd r 0 (nI (kd nd - 14))) (hGs : MGs h G) (hN : MN h nd true kd cd my ne r) (H_mtape : Hs h 69 (aB 300 mt)) (hmt : ∀ k, k < 300 → mt k = sbI (tb k) ∧ tb k < 256) (hsL : s ≤ L) (hL : L ≤ 300) (hO : nO G ≤ 8) (hgl : G.length < 40) : Sp M_X11_asks (0, 0) h [.ref 66] (rV (fun h' => ((tok tb L s).1 = 11 → MqR h' tb L s (gOperand (tok tb L s).1 0 G (nd + 1) kd cd my ne)) ∧ (¬ (tok tb L s).1 = 11 → MCs h' tb L s (1, (4, []) :: G, nd + 1, kd, cd, my, ne)) ∧ Fr [66, 76, 77, 78, 79, 80, 81, 82, 83, 84] h h')) := by
  refine ⟨Nat.le_of_ble_eq_true rfl, ?_⟩
  show E _ _ _ 0 h [some (.ref 66), none] []
  obtain ⟨so, to, mfl, mfa, mdn, mup, mlo, mgu, mgl, H_md, htk⟩ := id hP
  refine e_aloadn d_X11_asks_0 rfl ?_
  refine e_bipush (v := 9) d_X11_asks_1 (by decide) ?_
  refine e_callVI d_X11_asks_3 l_X11_asks_254 H_md rfl rfl (s_X11_isWord H_md) rfl rfl (Nat.le_of_ble_eq_true rfl) ?_
  refine e_if_eq d_X11_asks_6 (fun c6 => ?_) (fun c6 => ?_)
  · have c6 : ¬ (tok tb L s).1 = 11 := fun z => bI_0.mp c6 ((tk_wd htk (w := 9) (by decide)).mpr z)
    refine e_aloadn d_X11_asks_18 rfl ?_
    refine e_iconst (v := 4) d_X11_asks_19 (by decide) ?_
    refine e_callRVV d_X11_asks_20 l_X11_asks_234 H_md rfl rfl (s_X11_opensFrame2 (f := 4) hP hGs hgl rfl (by decide)) rfl rfl (Nat.le_of_ble_eq_true rfl) (fun h_20 q_20 s_20 => ?_)
    obtain ⟨hP2, hGs2, fr_20⟩ := q_20
    obtain ⟨so2, to2, mfl2, mfa2, mdn2, mup2, mlo2, mgu2, mgl2, H_md2, htk2⟩ := id hP2
    refine e_aloadn d_X11_asks_23 rfl ?_
    refine e_iconst (v := 1) d_X11_asks_24 (by decide) ?_
    refine e_puti d_X11_asks_25 f_X11_260 H_md2 (Nat.le_of_ble_eq_true rfl) ?_
    exact e_vret d_X11_asks_28 rfl (⟨rfl, fun z => absurd z c6, fun _ => MCs_mk (by decide) (by rw [show nO ((4, []) :: G) = nO G from by simp [nO], show nW ((4, []) :: G) = nW G from by simp [nW]]; exact ⟨_, _, _, _, _, _, _, _, _, H_md2.s, htk2⟩) (hGs2.fr ((Fr.refl [66] _).up (by decide)) (by simp)) (hN.fr (fr_20.up (k := 66) (by decide)) (by simp)), (fr_20.up (k := 66) (by decide)).mono (by decide)⟩)
  · have c6 : (tok tb L s).1 = 11 := (tk_wd htk (w := 9) (by decide)).mp (bI_1.mp (bI_z.resolve_left c6))
    refine e_aloadn d_X11_asks_9 rfl ?_
    refine e_iconst (v := 3) d_X11_asks_10 (by decide) ?_
    by_cases h8 : nO G = 8
    · have hg : (gOperand (tok tb L s).1 0 G (nd + 1) kd cd my ne).1 = 3 := by
        rw [c6]; unfold gOperand; rw [if_neg (by decide), if_neg (by decide), if_neg (by decide), if_neg (by decide), if_pos ⟨rfl, rfl⟩, if_pos (by omega)]
      refine e_callRVI d_X11_asks_11 l_X11_asks_257 H_md rfl rfl (s_X11_opensSign_q (f := 3) (op := 0) (by rw [h8] at hP; exact hP)) rfl rfl (Nat.le_of_ble_eq_true rfl) (fun x_11 h_11 q_11 s_11 => ?_)
      refine e_istoren d_X11_asks_14 (by decide) rfl ?_
      refine e_gt d_X11_asks_15 ?_
      exact e_vret d_X11_asks_28 rfl (⟨rfl, fun _ => MqR_bad hg (by decide) q_11.1, fun z => absurd c6 z, q_11.2.mono (by decide)⟩)
    · refine e_callRVI d_X11_asks_11 l_X11_asks_257 H_md rfl rfl (s_X11_opensSign_0 (f := 3) hP hGs (by omega) hgl (Or.inl rfl) H_mtape hmt (tok_nx hsL (by omega)).2.2 hL) rfl rfl (Nat.le_of_ble_eq_true rfl) (fun x_11 h_11 q_11 s_11 => ?_)
      obtain ⟨hP2, hGs2, fr_11⟩ := q_11
      refine e_istoren d_X11_asks_14 (by decide) rfl ?_
      refine e_gt d_X11_asks_15 ?_
      exact e_vret d_X11_asks_28 rfl (⟨rfl, fun _ => MqR_ok (by rw [c6]; unfold gOperand; rw [if_neg (by decide), if_neg (by decide), if_neg (by decide), if_neg (by decide), if_pos ⟨rfl, rfl⟩, if_neg (by omega)]) (MCs_mk (by decide) (by rw [show nO ((3, []) :: G) = nO G + 1 from by simp [nO]; omega]; exact hP2) hGs2 (hN.fr fr_11 (by simp))), fun z => absurd c6 z, fr_11.mono (by decide)⟩)

theorem tk_v {t : Nat} {so to : Int32} (h : TkM t so to) (ht : 100 ≤ t) : ∃ v, to = nI v ∧ v ≤ 999999 ∧ t = 100 + min v 10000 := by
  rcases h with ⟨e, q⟩ | ⟨e, q, v, g⟩ | ⟨v, hv, e, q, -⟩ | ⟨g1, g2, g3, q, -⟩ | ⟨e, q⟩
  · omega
  · exact ⟨v, g⟩
  · have := mcc_lt hv; omega
  · omega
  · omega
theorem tk_w {t : Nat} {so to : Int32} (h : TkM t so to) (ht : t < 21) : ∃ w, w < 21 ∧ to = nI w ∧ t = mcc w := by
  rcases h with ⟨e, q⟩ | ⟨e, q, -⟩ | ⟨v, hv, e, q, g⟩ | ⟨g1, g2, g3, q, -⟩ | ⟨e, q⟩
  · omega
  · omega
  · exact ⟨v, hv, g, e⟩
  · omega
  · omega
theorem mcc_9 : ∀ w, w ≤ 9 → ¬ mcc w < 11 := by decide +kernel
theorem mcc_10 : ∀ w, w < 21 → 9 < w → mcc w = w - 10 := by decide +kernel
theorem s_X11_begins {h : AH} {tb : Nat → Nat} {L s nd r : Nat} {G : LV} {kd : Nat → Nat} {cd : Nat → List Nat} {my ne : Int32} {mt : Nat → Int32} (hP : MdP h tb L s 0 (-1) (nO G) G.length (nW G) nd r 1 (nI (kd nd - 14))) (hGs : MGs h G) (hN : MN h nd true kd cd my ne r) (H_mtape : Hs h 69 (aB 300 mt)) (hmt : ∀ k, k < 300 → mt k = sbI (tb k) ∧ tb k < 256) (hsL : s ≤ L) (hL : L ≤ 300) (hO : nO G ≤ 8) (hgl : G.length < 40) (hI : shI (kd nd) G) (hr4 : r + 1 + neg G ≤ 400) (hk20 : 16 ≤ kd nd ∧ kd nd ≤ 20) : Sp M_X11_begins (0, 0) h [.ref 66] (rV (fun h' => MqR h' tb L s (gOperand (tok tb L s).1 1 G (nd + 1) kd cd my ne) ∧ Fr [66, 76, 77, 78, 79, 80, 81, 82, 83, 84] h h')) := by
  refine ⟨Nat.le_of_ble_eq_true rfl, ?_⟩
  show E _ _ _ 0 h [some (.ref 66), none] []
  obtain ⟨so, to, mfl, mfa, mdn, mup, mlo, mgu, mgl, H_md, htk⟩ := id hP
  refine e_aloadn d_X11_begins_0 rfl ?_
  refine e_get d_X11_begins_1 f_X11_200 H_md rfl ?_
  refine e_iconst (v := 2) d_X11_begins_4 (by decide) ?_
  refine e_icmp_ne d_X11_begins_5 (fun c5 => ?_) (fun c5 => ?_)
  · have c5 : ¬ 100 ≤ (tok tb L s).1 := fun z => c5 ((tk_num htk).mpr z)
    refine e_aloadn d_X11_begins_46 rfl ?_
    refine e_get d_X11_begins_47 f_X11_200 H_md rfl ?_
    refine e_iconst (v := 1) d_X11_begins_50 (by decide) ?_
    refine e_icmp_ne d_X11_begins_51 (fun c51 => ?_) (fun c51 => ?_)
    · have c51 : ¬ (tok tb L s).1 < 21 := fun z => c51 ((tk_word htk).mpr z)
      have hnt : ¬ (tok tb L s).1 < 11 := by omega
      refine e_aloadn d_X11_begins_107 rfl ?_
      refine e_bipush (v := 40) d_X11_begins_108 (by decide) ?_
      refine e_callVI d_X11_begins_110 l_X11_begins_272 H_md rfl rfl (s_X11_isSign H_md) rfl rfl (Nat.le_of_ble_eq_true rfl) ?_
      refine e_if_eq d_X11_begins_113 (fun c113 => ?_) (fun c113 => ?_)
      · have c113 : ¬ (tok tb L s).1 = 32 := fun z => bI_0.mp c113 ((tk_sg htk (c := 32) (by decide) (by decide) (by decide)).mpr z)
        refine e_aloadn d_X11_begins_126 rfl ?_
        refine e_bipush (v := 45) d_X11_begins_127 (by decide) ?_
        refine e_callVI d_X11_begins_129 l_X11_begins_272 H_md rfl rfl (s_X11_isSign H_md) rfl rfl (Nat.le_of_ble_eq_true rfl) ?_
        refine e_if_eq d_X11_begins_132 (fun c132 => ?_) (fun c132 => ?_)
        · have c132 : ¬ (tok tb L s).1 = 28 := fun z => bI_0.mp c132 ((tk_sg htk (c := 28) (by decide) (by decide) (by decide)).mpr z)
          refine e_aloadn d_X11_begins_145 rfl ?_
          refine e_iconst (v := 1) d_X11_begins_146 (by decide) ?_
          have hg : (gOperand (tok tb L s).1 1 G (nd + 1) kd cd my ne).1 = 1 := by
            unfold gOperand
            rw [if_neg (by omega), if_neg hnt, if_neg c113, if_neg c132, if_neg (by omega)]
          refine e_callRVV d_X11_begins_147 l_X11_begins_231 H_md rfl rfl (s_X11_errs2 (q := 1) hP) rfl rfl (Nat.le_of_ble_eq_true rfl) (fun h_147 q_147 s_147 => ?_)
          exact e_vret d_X11_begins_150 rfl (⟨rfl, MqR_bad hg (by decide) q_147.1, q_147.2.mono (by decide)⟩)
        · have c132 : (tok tb L s).1 = 28 := (tk_sg htk (c := 28) (by decide) (by decide) (by decide)).mp (bI_1.mp (bI_z.resolve_left c132))
          refine e_aloadn d_X11_begins_135 rfl ?_
          refine e_bipush (v := 7) d_X11_begins_136 (by decide) ?_
          by_cases h8 : nO G = 8
          · have hg : (gOperand (tok tb L s).1 1 G (nd + 1) kd cd my ne).1 = 3 := by
              unfold gOperand
              rw [c132]
              first
              | (rw [if_neg (by decide), if_neg (by decide), if_pos rfl, if_pos (by omega)]; done)
              | (rw [if_neg (by decide), if_neg (by decide), if_neg (by decide), if_pos rfl, if_pos (by omega)]; done)
            refine e_callRVI d_X11_begins_138 l_X11_begins_257 H_md rfl rfl (s_X11_opensSign_q (f := 7) (op := 0) (by rw [h8] at hP; exact hP)) rfl rfl (Nat.le_of_ble_eq_true rfl) (fun x_138 h_138 q_138 s_138 => ?_)
            refine e_istoren d_X11_begins_141 (by decide) rfl ?_
            refine e_gt d_X11_begins_142 ?_
            exact e_vret d_X11_begins_150 rfl (⟨rfl, MqR_bad hg (by decide) q_138.1, q_138.2.mono (by decide)⟩)
          · refine e_callRVI d_X11_begins_138 l_X11_begins_257 H_md rfl rfl (s_X11_opensSign_0 (f := 7) hP hGs (by omega) hgl (by omega) H_mtape hmt (tok_nx hsL (by omega)).2.2 hL) rfl rfl (Nat.le_of_ble_eq_true rfl) (fun x_138 h_138 q_138 s_138 => ?_)
            obtain ⟨hP2, hGs2, fr_138⟩ := q_138
            refine e_istoren d_X11_begins_141 (by decide) rfl ?_
            refine e_gt d_X11_begins_142 ?_
            exact e_vret d_X11_begins_150 rfl (⟨rfl, MqR_ok (S := (1, (7, []) :: G, nd + 1, kd, cd, my, ne)) (by rw [c132]; unfold gOperand; first | (rw [if_neg (by decide), if_neg (by decide), if_pos rfl, if_neg (by omega)]; rfl) | (rw [if_neg (by decide), if_neg (by decide), if_neg (by decide), if_pos rfl, if_neg (by omega)]; rfl)) (MCs_mk (by decide) (by rw [show nO ((7, []) :: G) = nO G + 1 from by simp [nO]; omega]; exact hP2) hGs2 (hN.fr fr_138 (by simp))), fr_138.mono (by decide)⟩)
      · have c113 : (tok tb L s).1 = 32 := (tk_sg htk (c := 32) (by decide) (by decide) (by decide)).mp (bI_1.mp (bI_z.resolve_left c113))
        refine e_aloadn d_X11_begins_116 rfl ?_
        refine e_bipush (v := 6) d_X11_begins_117 (by decide) ?_
        by_cases h8 : nO G = 8
        · have hg : (gOperand (tok tb L s).1 1 G (nd + 1) kd cd my ne).1 = 3 := by
            unfold gOperand
            rw [c113]
            first
            | (rw [if_neg (by decide), if_neg (by decide), if_pos rfl, if_pos (by omega)]; done)
            | (rw [if_neg (by decide), if_neg (by decide), if_neg (by decide), if_pos rfl, if_pos (by omega)]; done)
          refine e_callRVI d_X11_begins_119 l_X11_begins_257 H_md rfl rfl (s_X11_opensSign_q (f := 6) (op := 0) (by rw [h8] at hP; exact hP)) rfl rfl (Nat.le_of_ble_eq_true rfl) (fun x_119 h_119 q_119 s_119 => ?_)
          refine e_istoren d_X11_begins_122 (by decide) rfl ?_
          refine e_gt d_X11_begins_123 ?_
          exact e_vret d_X11_begins_150 rfl (⟨rfl, MqR_bad hg (by decide) q_119.1, q_119.2.mono (by decide)⟩)
        · refine e_callRVI d_X11_begins_119 l_X11_begins_257 H_md rfl rfl (s_X11_opensSign_0 (f := 6) hP hGs (by omega) hgl (by omega) H_mtape hmt (tok_nx hsL (by omega)).2.2 hL) rfl rfl (Nat.le_of_ble_eq_true rfl) (fun x_119 h_119 q_119 s_119 => ?_)
          obtain ⟨hP2, hGs2, fr_119⟩ := q_119
          refine e_istoren d_X11_begins_122 (by decide) rfl ?_
          refine e_gt d_X11_begins_123 ?_
          exact e_vret d_X11_begins_150 rfl (⟨rfl, MqR_ok (S := (1, (6, []) :: G, nd + 1, kd, cd, my, ne)) (by rw [c113]; unfold gOperand; first | (rw [if_neg (by decide), if_neg (by decide), if_pos rfl, if_neg (by omega)]; rfl) | (rw [if_neg (by decide), if_neg (by decide), if_neg (by decide), if_pos rfl, if_neg (by omega)]; rfl)) (MCs_mk (by decide) (by rw [show nO ((6, []) :: G) = nO G + 1 from by simp [nO]; omega]; exact hP2) hGs2 (hN.fr fr_119 (by simp))), fr_119.mono (by decide)⟩)
    · have c51 : (tok tb L s).1 < 21 := (tk_word htk).mp (by first | exact c51 | exact Decidable.of_not_not c51)
      obtain ⟨w, hw1, hw2, hw3⟩ := tk_w htk c51
      subst hw2
      refine e_aloadn d_X11_begins_54 rfl ?_
      refine e_get d_X11_begins_55 f_X11_212 H_md rfl ?_
      refine e_bipush (v := 9) d_X11_begins_58 (by decide) ?_
      refine e_icmp_le d_X11_begins_60 (fun c60 => ?_) (fun c60 => ?_)
      · have c60 := i_le (a := w) (b := 9) (by omega) (by decide) c60
        have hnt : ¬ (tok tb L s).1 < 11 := by rw [hw3]; exact mcc_9 w c60
        refine e_aloadn d_X11_begins_107 rfl ?_
        refine e_bipush (v := 40) d_X11_begins_108 (by decide) ?_
        refine e_callVI d_X11_begins_110 l_X11_begins_272 H_md rfl rfl (s_X11_isSign H_md) rfl rfl (Nat.le_of_ble_eq_true rfl) ?_
        refine e_if_eq d_X11_begins_113 (fun c113 => ?_) (fun c113 => ?_)
        · have c113 : ¬ (tok tb L s).1 = 32 := fun z => bI_0.mp c113 ((tk_sg htk (c := 32) (by decide) (by decide) (by decide)).mpr z)
          refine e_aloadn d_X11_begins_126 rfl ?_
          refine e_bipush (v := 45) d_X11_begins_127 (by decide) ?_
          refine e_callVI d_X11_begins_129 l_X11_begins_272 H_md rfl rfl (s_X11_isSign H_md) rfl rfl (Nat.le_of_ble_eq_true rfl) ?_
          refine e_if_eq d_X11_begins_132 (fun c132 => ?_) (fun c132 => ?_)
          · have c132 : ¬ (tok tb L s).1 = 28 := fun z => bI_0.mp c132 ((tk_sg htk (c := 28) (by decide) (by decide) (by decide)).mpr z)
            refine e_aloadn d_X11_begins_145 rfl ?_
            refine e_iconst (v := 1) d_X11_begins_146 (by decide) ?_
            have hg : (gOperand (tok tb L s).1 1 G (nd + 1) kd cd my ne).1 = 1 := by
              unfold gOperand
              rw [if_neg (by omega), if_neg hnt, if_neg c113, if_neg c132, if_neg (by omega)]
            refine e_callRVV d_X11_begins_147 l_X11_begins_231 H_md rfl rfl (s_X11_errs2 (q := 1) hP) rfl rfl (Nat.le_of_ble_eq_true rfl) (fun h_147 q_147 s_147 => ?_)
            exact e_vret d_X11_begins_150 rfl (⟨rfl, MqR_bad hg (by decide) q_147.1, q_147.2.mono (by decide)⟩)
          · have c132 : (tok tb L s).1 = 28 := (tk_sg htk (c := 28) (by decide) (by decide) (by decide)).mp (bI_1.mp (bI_z.resolve_left c132))
            refine e_aloadn d_X11_begins_135 rfl ?_
            refine e_bipush (v := 7) d_X11_begins_136 (by decide) ?_
            by_cases h8 : nO G = 8
            · have hg : (gOperand (tok tb L s).1 1 G (nd + 1) kd cd my ne).1 = 3 := by
                unfold gOperand
                rw [c132]
                first
                | (rw [if_neg (by decide), if_neg (by decide), if_pos rfl, if_pos (by omega)]; done)
                | (rw [if_neg (by decide), if_neg (by decide), if_neg (by decide), if_pos rfl, if_pos (by omega)]; done)
              refine e_callRVI d_X11_begins_138 l_X11_begins_257 H_md rfl rfl (s_X11_opensSign_q (f := 7) (op := 0) (by rw [h8] at hP; exact hP)) rfl rfl (Nat.le_of_ble_eq_true rfl) (fun x_138 h_138 q_138 s_138 => ?_)
              refine e_istoren d_X11_begins_141 (by decide) rfl ?_
              refine e_gt d_X11_begins_142 ?_
              exact e_vret d_X11_begins_150 rfl (⟨rfl, MqR_bad hg (by decide) q_138.1, q_138.2.mono (by decide)⟩)
            · refine e_callRVI d_X11_begins_138 l_X11_begins_257 H_md rfl rfl (s_X11_opensSign_0 (f := 7) hP hGs (by omega) hgl (by omega) H_mtape hmt (tok_nx hsL (by omega)).2.2 hL) rfl rfl (Nat.le_of_ble_eq_true rfl) (fun x_138 h_138 q_138 s_138 => ?_)
              obtain ⟨hP2, hGs2, fr_138⟩ := q_138
              refine e_istoren d_X11_begins_141 (by decide) rfl ?_
              refine e_gt d_X11_begins_142 ?_
              exact e_vret d_X11_begins_150 rfl (⟨rfl, MqR_ok (S := (1, (7, []) :: G, nd + 1, kd, cd, my, ne)) (by rw [c132]; unfold gOperand; first | (rw [if_neg (by decide), if_neg (by decide), if_pos rfl, if_neg (by omega)]; rfl) | (rw [if_neg (by decide), if_neg (by decide), if_neg (by decide), if_pos rfl, if_neg (by omega)]; rfl)) (MCs_mk (by decide) (by rw [show nO ((7, []) :: G) = nO G + 1 from by simp [nO]; omega]; exact hP2) hGs2 (hN.fr fr_138 (by simp))), fr_138.mono (by decide)⟩)
        · have c113 : (tok tb L s).1 = 32 := (tk_sg htk (c := 32) (by decide) (by decide) (by decide)).mp (bI_1.mp (bI_z.resolve_left c113))
          refine e_aloadn d_X11_begins_116 rfl ?_
          refine e_bipush (v := 6) d_X11_begins_117 (by decide) ?_
          by_cases h8 : nO G = 8
          · have hg : (gOperand (tok tb L s).1 1 G (nd + 1) kd cd my ne).1 = 3 := by
              unfold gOperand
              rw [c113]
              first
              | (rw [if_neg (by decide), if_neg (by decide), if_pos rfl, if_pos (by omega)]; done)
              | (rw [if_neg (by decide), if_neg (by decide), if_neg (by decide), if_pos rfl, if_pos (by omega)]; done)
            refine e_callRVI d_X11_begins_119 l_X11_begins_257 H_md rfl rfl (s_X11_opensSign_q (f := 6) (op := 0) (by rw [h8] at hP; exact hP)) rfl rfl (Nat.le_of_ble_eq_true rfl) (fun x_119 h_119 q_119 s_119 => ?_)
            refine e_istoren d_X11_begins_122 (by decide) rfl ?_
            refine e_gt d_X11_begins_123 ?_
            exact e_vret d_X11_begins_150 rfl (⟨rfl, MqR_bad hg (by decide) q_119.1, q_119.2.mono (by decide)⟩)
          · refine e_callRVI d_X11_begins_119 l_X11_begins_257 H_md rfl rfl (s_X11_opensSign_0 (f := 6) hP hGs (by omega) hgl (by omega) H_mtape hmt (tok_nx hsL (by omega)).2.2 hL) rfl rfl (Nat.le_of_ble_eq_true rfl) (fun x_119 h_119 q_119 s_119 => ?_)
            obtain ⟨hP2, hGs2, fr_119⟩ := q_119
            refine e_istoren d_X11_begins_122 (by decide) rfl ?_
            refine e_gt d_X11_begins_123 ?_
            exact e_vret d_X11_begins_150 rfl (⟨rfl, MqR_ok (S := (1, (6, []) :: G, nd + 1, kd, cd, my, ne)) (by rw [c113]; unfold gOperand; first | (rw [if_neg (by decide), if_neg (by decide), if_pos rfl, if_neg (by omega)]; rfl) | (rw [if_neg (by decide), if_neg (by decide), if_neg (by decide), if_pos rfl, if_neg (by omega)]; rfl)) (MCs_mk (by decide) (by rw [show nO ((6, []) :: G) = nO G + 1 from by simp [nO]; omega]; exact hP2) hGs2 (hN.fr fr_119 (by simp))), fr_119.mono (by decide)⟩)
      · have c60 := i_nle (a := w) (b := 9) (by omega) (by decide) c60
        have htw : (tok tb L s).1 = w - 10 := by rw [hw3]; exact mcc_10 w hw1 c60
        refine e_aloadn d_X11_begins_63 rfl ?_
        refine e_aloadn d_X11_begins_64 rfl ?_
        refine e_get d_X11_begins_65 f_X11_212 H_md rfl ?_
        refine e_callVI d_X11_begins_68 l_X11_begins_269 H_md rfl rfl (s_X11_mayName (k := kd nd) (w := w) H_md ⟨by omega, hw1⟩ hk20) rfl rfl (Nat.le_of_ble_eq_true rfl) ?_
        rw [← htw]
        refine e_if_ne d_X11_begins_71 (fun c71 => ?_) (fun c71 => ?_)
        · have hok := bI_1.mp (bI_z.resolve_left c71)
          refine e_aloadn d_X11_begins_80 rfl ?_
          refine e_sipush (v := 401) d_X11_begins_81 (by decide) ?_
          refine e_aloadn d_X11_begins_84 rfl ?_
          refine e_get d_X11_begins_85 f_X11_212 H_md rfl ?_
          refine e_bipush (v := 9) d_X11_begins_88 (by decide) ?_
          refine e_isub d_X11_begins_90 ?_
          rw [show nI w - 9 = nI (w - 9) from nI_subN (b := 9) (by omega)]
          refine e_iconst (v := 1) d_X11_begins_91 (by decide) ?_
          refine e_isub d_X11_begins_92 ?_
          rw [show nI (w - 9) - 1 = nI (tok tb L s).1 from by rw [htw, show w - 10 = w - 9 - 1 by omega]; exact nI_subN (b := 1) (by omega)]
          refine e_callRVV d_X11_begins_93 l_X11_begins_247 H_md rfl rfl (s_X11_emits2 (t := (tok tb L s).1) hP hN (by omega) (by rw [encO_nam (by omega)]; rfl) (fun z => by omega) (fun _ => rfl)) rfl rfl (Nat.le_of_ble_eq_true rfl) (fun h_93 q_93 s_93 => ?_)
          obtain ⟨hP93, hN93, fr_93⟩ := q_93
          obtain ⟨so93, to93, mfl93, mfa93, mdn93, mup93, mlo93, mgu93, mgl93, H_md93, htk93⟩ := id hP93
          refine e_aloadn d_X11_begins_96 rfl ?_
          refine e_callRVV d_X11_begins_97 l_X11_begins_237 H_md93 rfl rfl (s_X11_next2 hP93 (fr_93.hs H_mtape (by decide)) hmt (tok_nx hsL (by omega)).2.2 hL) rfl rfl (Nat.le_of_ble_eq_true rfl) (fun h_97 q_97 s_97 => ?_)
          obtain ⟨hP97, fr_97⟩ := q_97
          obtain ⟨so97, to97, mfl97, mfa97, mdn97, mup97, mlo97, mgu97, mgl97, H_md97, htk97⟩ := id hP97
          refine e_aloadn d_X11_begins_100 rfl ?_
          refine e_callRVV d_X11_begins_101 l_X11_begins_266 H_md97 rfl rfl (s_X11_oneIsOver (kk := kd nd) hP97 ((hGs.fr fr_93 (by simp)).fr fr_97 (by simp)) (hN93.fr fr_97 (by simp)) hI (by omega) hgl) rfl rfl (Nat.le_of_ble_eq_true rfl) (fun h_101 q_101 s_101 => ?_)
          obtain ⟨hP101, hGs101, hN101, fr_101⟩ := q_101
          refine e_gt d_X11_begins_104 ?_
          exact e_vret d_X11_begins_150 rfl (⟨rfl, MqR_ok (S := gOne (tok tb L s).1 (lft 1 G) (nd + 1) kd cd my ne) (by unfold gOperand; rw [if_neg (by omega), if_pos (by omega), show nd + 1 - 1 = nd from rfl, if_pos hok]) (show MCs _ _ _ _ (2, unn G, nd + 1, kd, cdA cd (nd + 1) ([(tok tb L s).1] ++ List.replicate (neg G) 31), my, ne) from by rw [← cdA_app]; exact MCs_mk (by decide) hP101 hGs101 hN101), ((fr_93.mono (by decide)).trans (fr_97.mono (by decide))).trans (fr_101.mono (by decide))⟩)
        · have hok := bI_0.mp (by first | exact c71 | exact Decidable.of_not_not c71)
          refine e_aloadn d_X11_begins_74 rfl ?_
          refine e_iconst (v := 5) d_X11_begins_75 (by decide) ?_
          have hg : (gOperand (tok tb L s).1 1 G (nd + 1) kd cd my ne).1 = 5 := by
            unfold gOperand
            rw [if_neg (by omega), if_pos (by omega), show nd + 1 - 1 = nd from rfl, if_neg hok]
          refine e_callRVV d_X11_begins_76 l_X11_begins_231 H_md rfl rfl (s_X11_errs2 (q := 5) hP) rfl rfl (Nat.le_of_ble_eq_true rfl) (fun h_76 q_76 s_76 => ?_)
          exact e_vret d_X11_begins_79 rfl (⟨rfl, MqR_bad hg (by decide) q_76.1, q_76.2.mono (by decide)⟩)
  · have c5 : 100 ≤ (tok tb L s).1 := (tk_num htk).mp (by first | exact c5 | exact Decidable.of_not_not c5)
    obtain ⟨v, hv1, hv2, hv3⟩ := tk_v htk c5
    subst hv1
    refine e_aloadn d_X11_begins_8 rfl ?_
    refine e_get d_X11_begins_9 f_X11_212 H_md rfl ?_
    refine e_sipush (v := 9999) d_X11_begins_12 (by decide) ?_
    refine e_icmp_le d_X11_begins_15 (fun c15 => ?_) (fun c15 => ?_)
    · have c15 := i_le (a := v) (b := 9999) (by omega) (by decide) c15
      refine e_aloadn d_X11_begins_24 rfl ?_
      refine e_sipush (v := 400) d_X11_begins_25 (by decide) ?_
      refine e_aloadn d_X11_begins_28 rfl ?_
      refine e_get d_X11_begins_29 f_X11_212 H_md rfl ?_
      refine e_callRVV d_X11_begins_32 l_X11_begins_247 H_md rfl rfl (s_X11_emits2 (t := (tok tb L s).1) hP hN (by omega) (by rw [encO_num c5]; rfl) (fun _ => by rw [show (tok tb L s).1 - 100 = v by omega]) (fun z => by omega)) rfl rfl (Nat.le_of_ble_eq_true rfl) (fun h_32 q_32 s_32 => ?_)
      obtain ⟨hP32, hN32, fr_32⟩ := q_32
      obtain ⟨so32, to32, mfl32, mfa32, mdn32, mup32, mlo32, mgu32, mgl32, H_md32, htk32⟩ := id hP32
      refine e_aloadn d_X11_begins_35 rfl ?_
      refine e_callRVV d_X11_begins_36 l_X11_begins_237 H_md32 rfl rfl (s_X11_next2 hP32 (fr_32.hs H_mtape (by decide)) hmt (tok_nx hsL (by omega)).2.2 hL) rfl rfl (Nat.le_of_ble_eq_true rfl) (fun h_36 q_36 s_36 => ?_)
      obtain ⟨hP36, fr_36⟩ := q_36
      obtain ⟨so36, to36, mfl36, mfa36, mdn36, mup36, mlo36, mgu36, mgl36, H_md36, htk36⟩ := id hP36
      refine e_aloadn d_X11_begins_39 rfl ?_
      refine e_callRVV d_X11_begins_40 l_X11_begins_266 H_md36 rfl rfl (s_X11_oneIsOver (kk := kd nd) hP36 ((hGs.fr fr_32 (by simp)).fr fr_36 (by simp)) (hN32.fr fr_36 (by simp)) hI (by omega) hgl) rfl rfl (Nat.le_of_ble_eq_true rfl) (fun h_40 q_40 s_40 => ?_)
      obtain ⟨hP40, hGs40, hN40, fr_40⟩ := q_40
      refine e_gt d_X11_begins_43 ?_
      exact e_vret d_X11_begins_150 rfl (⟨rfl, MqR_ok (S := gOne (tok tb L s).1 (lft 1 G) (nd + 1) kd cd my ne) (by unfold gOperand; rw [if_pos c5, if_neg (by omega)]) (show MCs _ _ _ _ (2, unn G, nd + 1, kd, cdA cd (nd + 1) ([(tok tb L s).1] ++ List.replicate (neg G) 31), my, ne) from by rw [← cdA_app]; exact MCs_mk (by decide) hP40 hGs40 hN40), ((fr_32.mono (by decide)).trans (fr_36.mono (by decide))).trans (fr_40.mono (by decide))⟩)
    · have c15 := i_nle (a := v) (b := 9999) (by omega) (by decide) c15
      refine e_aloadn d_X11_begins_18 rfl ?_
      refine e_iconst (v := 2) d_X11_begins_19 (by decide) ?_
      have hg : (gOperand (tok tb L s).1 1 G (nd + 1) kd cd my ne).1 = 2 := by
        unfold gOperand
        rw [if_pos c5, if_pos (by omega)]
      refine e_callRVV d_X11_begins_20 l_X11_begins_231 H_md rfl rfl (s_X11_errs2 (q := 2) hP) rfl rfl (Nat.le_of_ble_eq_true rfl) (fun h_20 q_20 s_20 => ?_)
      exact e_vret d_X11_begins_23 rfl (⟨rfl, MqR_bad hg (by decide) q_20.1, q_20.2.mono (by decide)⟩)
