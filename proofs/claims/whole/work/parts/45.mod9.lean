/-! THE MODEL: ways, live -/
theorem sat_32 {a : Nat} (ha : a < 2 ^ 31) : (if nI 1000000 < nI a then nI 1000000 else nI a) = nI (min 1000000 a) := by
  have q : nI 1000000 < nI a ↔ 1000000 < a := nI_ltI (a := 1000000) (by decide) ha
  by_cases h : 1000000 < a
  · rw [if_pos (q.mpr h), Nat.min_eq_left (by omega)]
  · rw [if_neg (fun z => h (q.mp z)), Nat.min_eq_right (by omega)]
theorem s_X11_ways {h : AH} {n nl fr to : Nat} {w : Int32} {a rt0 ro0 : Nat → Int32} {lf lt : Nat → Nat} {mtp mfl mfa mln mat mtk mso mto mwr mwp mop mfs mws mst mnc mnk mnr mdn : Int32} {mup mlo mgu mgl : Int64} (H_md : Hs h 66 (oMd mtp mfl mfa mup mlo mln mat mtk mso mto mwr mwp mop mfs mws mst mnc mnk mnr mdn mgu mgl)) (H_a : Hs h 67 (aI 380 a)) (H_mrt : Hs h 91 (aI 12 rt0)) (H_mro : Hs h 92 (aI 12 ro0)) (ha1 : a 1 = nI n) (hn : n ≤ 12) (ha3 : a 3 = nI nl) (hnl : nl ≤ 20) (hfr : fr < n) (hto : to < n) (hw1 : 0 ≤ w ∧ w ≤ 1) (hlk : ∀ i, i < nl → a (320 + 2 * i) = nI (lf i) ∧ lf i < 12 ∧ a (320 + 2 * i + 1) = nI (lt i) ∧ lt i < 12) : Sp M_X11_ways (0, 0) h [.ref 66, .int (nI fr), .int (nI to), .int w] (rI (fun x h' => x = (if w = 0 then oI (wkF lf lt nl fr to 12) else nI (min (wkS lf lt nl fr to 12) 1000000)) ∧ Fr [91, 92] h h' ∧ (∃ g : Nat → Int32, Hs h' 91 (aI 12 g)) ∧ ∃ g : Nat → Int32, Hs h' 92 (aI 12 g))) := by
  refine ⟨Nat.le_of_ble_eq_true rfl, ?_⟩
  show E _ _ _ 0 h [some (.ref 66), some (.int (nI fr)), some (.int (nI to)), some (.int w), none, none, none, none, none] []
  have G_md := H_md
  have G_a := H_a
  refine e_aloadn d_X11_ways_0 rfl ?_
  refine e_iloadn d_X11_ways_1 rfl ?_
  refine e_callVI d_X11_ways_2 l_X11_ways_109 H_md rfl rfl (s_X11_isThing H_md H_a) rfl rfl (Nat.le_of_ble_eq_true rfl) ?_
  refine e_if_eq d_X11_ways_5 (fun z => by first | exact absurd (fun z => bI_0.mp z ⟨(nI_leI (a := 0) (by decide) (by omega)).mpr (by omega), by rw [ha1, nI_le1 (by omega)]; exact (nI_leI (by omega) (by omega)).mpr (by omega)⟩) z | exact absurd z (fun z => bI_0.mp z ⟨(nI_leI (a := 0) (by decide) (by omega)).mpr (by omega), by rw [ha1, nI_le1 (by omega)]; exact (nI_leI (by omega) (by omega)).mpr (by omega)⟩)) (fun _ => ?_)
  refine e_aloadn d_X11_ways_8 rfl ?_
  refine e_iloadn d_X11_ways_9 rfl ?_
  refine e_callVI d_X11_ways_10 l_X11_ways_109 H_md rfl rfl (s_X11_isThing H_md H_a) rfl rfl (Nat.le_of_ble_eq_true rfl) ?_
  refine e_if_eq d_X11_ways_13 (fun z => by first | exact absurd (fun z => bI_0.mp z ⟨(nI_leI (a := 0) (by decide) (by omega)).mpr (by omega), by rw [ha1, nI_le1 (by omega)]; exact (nI_leI (by omega) (by omega)).mpr (by omega)⟩) z | exact absurd z (fun z => bI_0.mp z ⟨(nI_leI (a := 0) (by decide) (by omega)).mpr (by omega), by rw [ha1, nI_le1 (by omega)]; exact (nI_leI (by omega) (by omega)).mpr (by omega)⟩)) (fun _ => ?_)
  refine e_iloadn d_X11_ways_16 rfl ?_
  refine e_iconst (v := 0) d_X11_ways_17 (by decide) ?_
  refine e_iconst (v := 1) d_X11_ways_18 (by decide) ?_
  refine e_callSI d_X11_ways_19 l_X11_ways_101 (s_X11_in) rfl rfl (Nat.le_of_ble_eq_true rfl) ?_
  refine e_if_ne d_X11_ways_22 (fun _ => ?_) (fun z => by first | exact absurd (fun z => bI_0.mp z hw1) z | exact absurd z (fun z => bI_0.mp z hw1))
  refine e_iconst (v := 0) d_X11_ways_27 (by decide) ?_
  refine e_istore d_X11_ways_28 (by decide) rfl ?_
  have hA_30 : ∀ i, i ≤ 12 → ∀ (k : AH) (F : Unit) (g : Unit) (o : Unit) (y : Int32), (Fr [91, 92] h k) → (∃ g : Nat → Int32, Hs k 91 (aI 12 g) ∧ ∀ t, t < i → g t = nI (if t = fr then 1 else 0)) → (∃ g : Nat → Int32, Hs k 92 (aI 12 g)) → (y = nI i) → E M_X11_ways (0, 0) (rI (fun x h' => x = (if w = 0 then oI (wkF lf lt nl fr to 12) else nI (min (wkS lf lt nl fr to 12) 1000000)) ∧ Fr [91, 92] h h' ∧ (∃ g : Nat → Int32, Hs h' 91 (aI 12 g)) ∧ ∃ g : Nat → Int32, Hs h' 92 (aI 12 g))) 30 (k) [some (.ref 66), some (.int (nI fr)), some (.int (nI to)), some (.int w), some (.int y), none, none, none, none] [] := by
    refine loop_ind (n := 12) ?_
    intro i hi_i ih_30 k F g o y h_F h_g h_o h_y
    subst h_y
    have H_md := h_F.hs G_md (by decide)
    have H_a := h_F.hs G_a (by decide)
    obtain ⟨rt, H_mrt, hrt⟩ := id h_g
    obtain ⟨ro, H_mro⟩ := id h_o
    refine e_iload d_X11_ways_30 rfl ?_
    refine e_bipush (v := 12) d_X11_ways_32 (by decide) ?_
    refine e_icmp_ge d_X11_ways_34 (fun c => ?_) (fun c => ?_)
    · have c := i_le (a := 12) (by decide) (by omega) c
      obtain rfl : i = 12 := by omega
      have hrt0 : ∀ t, t < 12 → rt t = nI (min 1000000 (wk lf lt nl fr 0 t)) := fun t ht => by rw [hrt t ht]; simp only [wk]; split <;> rfl
      refine e_iconst (v := -1) d_X11_ways_61 (by decide) ?_
      refine e_istore d_X11_ways_62 (by decide) rfl ?_
      refine e_iconst (v := 0) d_X11_ways_64 (by decide) ?_
      refine e_istore d_X11_ways_65 (by decide) rfl ?_
      refine e_iconst (v := 0) d_X11_ways_67 (by decide) ?_
      refine e_istore d_X11_ways_68 (by decide) rfl ?_
      have hA_70 : ∀ q, q ≤ 12 → ∀ (k : AH) (F : Unit) (g : Unit) (o : Unit) (f : Int32) (m : Int32) (y : Int32), (Fr [91, 92] h k) → (∃ g : Nat → Int32, Hs k 91 (aI 12 g) ∧ ∀ t, t < 12 → g t = nI (min 1000000 (wk lf lt nl fr q t))) → (∃ g : Nat → Int32, Hs k 92 (aI 12 g)) → (f = oI (wkF lf lt nl fr to q)) → (m = nI (min (wkS lf lt nl fr to q) 1000000)) → (y = nI q) → E M_X11_ways (0, 0) (rI (fun x h' => x = (if w = 0 then oI (wkF lf lt nl fr to 12) else nI (min (wkS lf lt nl fr to 12) 1000000)) ∧ Fr [91, 92] h h' ∧ (∃ g : Nat → Int32, Hs h' 91 (aI 12 g)) ∧ ∃ g : Nat → Int32, Hs h' 92 (aI 12 g))) 70 (k) [some (.ref 66), some (.int (nI fr)), some (.int (nI to)), some (.int w), some (.int f), some (.int m), some (.int y), none, none] [] := by
        refine loop_ind (n := 12) ?_
        intro q hi_q ih_70 k F g o f m y h_F h_g h_o h_f h_m h_y
        subst h_y
        subst h_f
        subst h_m
        have H_md := h_F.hs G_md (by decide)
        have H_a := h_F.hs G_a (by decide)
        obtain ⟨rt, H_mrt, hrt⟩ := id h_g
        obtain ⟨ro, H_mro⟩ := id h_o
        refine e_iload d_X11_ways_70 rfl ?_
        refine e_bipush (v := 12) d_X11_ways_72 (by decide) ?_
        refine e_icmp_ge d_X11_ways_74 (fun c => ?_) (fun c => ?_)
        · have c := i_le (a := 12) (by decide) (by omega) c
          obtain rfl : q = 12 := by omega
          refine e_iloadn d_X11_ways_254 rfl ?_
          refine e_if_ne d_X11_ways_255 (fun c255 => ?_) (fun c255 => ?_)
          · refine e_iload d_X11_ways_263 rfl ?_
            exact e_iret d_X11_ways_265 rfl (rfl) (⟨_, rfl, by first | (rw [if_pos c255]; done) | (rw [if_neg c255]; done), h_F, ⟨rt, H_mrt⟩, ⟨ro, H_mro⟩⟩)
          · refine e_iload d_X11_ways_258 rfl ?_
            refine e_gt d_X11_ways_260 ?_
            exact e_iret d_X11_ways_265 rfl (rfl) (⟨_, rfl, by first | (rw [if_pos c255]; done) | (rw [if_neg c255]; done), h_F, ⟨rt, H_mrt⟩, ⟨ro, H_mro⟩⟩)
        · have c := i_nle (a := 12) (by decide) (by omega) c
          by_cases hf : wkF lf lt nl fr to q = none
          · refine e_iload d_X11_ways_77 rfl ?_
            refine e_iconst (v := -1) d_X11_ways_79 (by decide) ?_
            have hfe : oI (wkF lf lt nl fr to q) = -1 := by rw [hf]; rfl
            refine e_icmp_ne d_X11_ways_80 (fun z => by first | exact absurd (fun z => z hfe) z | exact absurd z (fun z => z hfe)) (fun _ => ?_)
            refine e_aloadn d_X11_ways_83 rfl ?_
            refine e_get d_X11_ways_84 f_X11_91 H_md rfl ?_
            refine e_iloadn d_X11_ways_87 rfl ?_
            refine e_ialdN (k := to) d_X11_ways_88 H_mrt rfl (by omega) (by omega) ?_
            rw [hrt to (by omega)]
            refine e_if_le d_X11_ways_89 (fun c89 => ?_) (fun c89 => ?_)
            · have hz : wk lf lt nl fr q to = 0 := by have := i_np (by omega) c89; omega
              have hFF : oI (wkF lf lt nl fr to q) = oI (wkF lf lt nl fr to (q + 1)) := by rw [wkF, hf]; simp only []; rw [if_neg (by omega)]
              skip
              refine e_iload d_X11_ways_97 rfl ?_
              refine e_istore d_X11_ways_99 (by decide) rfl ?_
              refine e_ldcw d_X11_ways_101 v_X11_386 ?_
              refine e_iload d_X11_ways_104 rfl ?_
              refine e_aloadn d_X11_ways_106 rfl ?_
              refine e_get d_X11_ways_107 f_X11_91 H_md rfl ?_
              refine e_iloadn d_X11_ways_110 rfl ?_
              refine e_ialdN (k := to) d_X11_ways_111 H_mrt rfl (by omega) (by omega) ?_
              rw [hrt to (by omega)]
              refine e_iadd d_X11_ways_112 ?_
              refine e_callSI d_X11_ways_113 l_X11_ways_377 (s_X11_lesser) rfl rfl (Nat.le_of_ble_eq_true rfl) ?_
              rw [nI_add, show (1000000 : Int32) = nI 1000000 from rfl, sat_32 (by omega)]
              have hSS : nI (min 1000000 (min (wkS lf lt nl fr to q) 1000000 + min 1000000 (wk lf lt nl fr q to))) = nI (min (wkS lf lt nl fr to q + wk lf lt nl fr q to) 1000000) := by congr 1; omega
              refine e_istore d_X11_ways_116 (by decide) rfl ?_
              refine e_iconst (v := 0) d_X11_ways_118 (by decide) ?_
              refine e_istore d_X11_ways_119 (by decide) rfl ?_
              have hA_121 : ∀ i, i ≤ 12 → ∀ (k1 : AH) (F1 : Unit) (g1 : Unit) (o1 : Unit) (y : Int32), (Fr [91, 92] h k1) → (Hs k1 91 (aI 12 rt)) → (∃ g : Nat → Int32, Hs k1 92 (aI 12 g) ∧ ∀ t, t < i → g t = 0) → (y = nI i) → E M_X11_ways (0, 0) (rI (fun x h' => x = (if w = 0 then oI (wkF lf lt nl fr to 12) else nI (min (wkS lf lt nl fr to 12) 1000000)) ∧ Fr [91, 92] h h' ∧ (∃ g : Nat → Int32, Hs h' 91 (aI 12 g)) ∧ ∃ g : Nat → Int32, Hs h' 92 (aI 12 g))) 121 (k1) [some (.ref 66), some (.int (nI fr)), some (.int (nI to)), some (.int w), some (.int (oI (wkF lf lt nl fr to q))), some (.int (nI (min 1000000 (min (wkS lf lt nl fr to q) 1000000 + min 1000000 (wk lf lt nl fr q to))))), some (.int (nI q)), some (.int y), none] [] := by
                refine loop_ind (n := 12) ?_
                intro i hi_i ih_121 k1 F1 g1 o1 y h_F1 h_g1 h_o1 h_y
                subst h_y
                have H_md := h_F1.hs G_md (by decide)
                have H_a := h_F1.hs G_a (by decide)
                have H_mrt := h_g1
                obtain ⟨ro, H_mro, hro⟩ := id h_o1
                refine e_iload d_X11_ways_121 rfl ?_
                refine e_bipush (v := 12) d_X11_ways_123 (by decide) ?_
                refine e_icmp_ge d_X11_ways_125 (fun c => ?_) (fun c => ?_)
                · have c := i_le (a := 12) (by decide) (by omega) c
                  obtain rfl : i = 12 := by omega
                  refine e_iconst (v := 0) d_X11_ways_142 (by decide) ?_
                  refine e_istore d_X11_ways_143 (by decide) rfl ?_
                  have hA_145 : ∀ i, i ≤ nl → ∀ (k2 : AH) (F2 : Unit) (g2 : Unit) (o2 : Unit) (y : Int32), (Fr [91, 92] h k2) → (Hs k2 91 (aI 12 rt)) → (∃ g : Nat → Int32, Hs k2 92 (aI 12 g) ∧ ∀ t, t < 12 → g t = nI (min 1000000 (sm (fun i => if lt i = t then wk lf lt nl fr q (lf i) else 0) i))) → (y = nI i) → E M_X11_ways (0, 0) (rI (fun x h' => x = (if w = 0 then oI (wkF lf lt nl fr to 12) else nI (min (wkS lf lt nl fr to 12) 1000000)) ∧ Fr [91, 92] h h' ∧ (∃ g : Nat → Int32, Hs h' 91 (aI 12 g)) ∧ ∃ g : Nat → Int32, Hs h' 92 (aI 12 g))) 145 (k2) [some (.ref 66), some (.int (nI fr)), some (.int (nI to)), some (.int w), some (.int (oI (wkF lf lt nl fr to q))), some (.int (nI (min 1000000 (min (wkS lf lt nl fr to q) 1000000 + min 1000000 (wk lf lt nl fr q to))))), some (.int (nI q)), some (.int y), none] [] := by
                    refine loop_ind (n := nl) ?_
                    intro i hi_i ih_145 k2 F2 g2 o2 y h_F2 h_g2 h_o2 h_y
                    subst h_y
                    have H_md := h_F2.hs G_md (by decide)
                    have H_a := h_F2.hs G_a (by decide)
                    have H_mrt := h_g2
                    obtain ⟨ro2, H_mro, hro2⟩ := id h_o2
                    refine e_iload d_X11_ways_145 rfl ?_
                    refine e_aloadn d_X11_ways_147 rfl ?_
                    refine e_get d_X11_ways_148 f_X11_7 H_md rfl ?_
                    refine e_iconst (v := 3) d_X11_ways_151 (by decide) ?_
                    refine e_ialdN (k := 3) d_X11_ways_152 H_a rfl (by omega) (by omega) ?_
                    rw [ha3]
                    refine e_icmp_ge d_X11_ways_153 (fun c => ?_) (fun c => ?_)
                    · have c := i_le (by omega) (by omega) c
                      obtain rfl : nl = i := by omega
                      refine e_iconst (v := 0) d_X11_ways_218 (by decide) ?_
                      refine e_istore d_X11_ways_219 (by decide) rfl ?_
                      have hA_221 : ∀ i, i ≤ 12 → ∀ (k3 : AH) (F3 : Unit) (g3 : Unit) (o3 : Unit) (y : Int32), (Fr [91, 92] h k3) → (∃ g : Nat → Int32, Hs k3 91 (aI 12 g) ∧ ∀ t, t < i → g t = nI (min 1000000 (wk lf lt nl fr (q + 1) t))) → (Hs k3 92 (aI 12 ro2)) → (y = nI i) → E M_X11_ways (0, 0) (rI (fun x h' => x = (if w = 0 then oI (wkF lf lt nl fr to 12) else nI (min (wkS lf lt nl fr to 12) 1000000)) ∧ Fr [91, 92] h h' ∧ (∃ g : Nat → Int32, Hs h' 91 (aI 12 g)) ∧ ∃ g : Nat → Int32, Hs h' 92 (aI 12 g))) 221 (k3) [some (.ref 66), some (.int (nI fr)), some (.int (nI to)), some (.int w), some (.int (oI (wkF lf lt nl fr to q))), some (.int (nI (min 1000000 (min (wkS lf lt nl fr to q) 1000000 + min 1000000 (wk lf lt nl fr q to))))), some (.int (nI q)), some (.int y), none] [] := by
                        refine loop_ind (n := 12) ?_
                        intro i hi_i ih_221 k3 F3 g3 o3 y h_F3 h_g3 h_o3 h_y
                        subst h_y
                        have H_md := h_F3.hs G_md (by decide)
                        have H_a := h_F3.hs G_a (by decide)
                        obtain ⟨rt3, H_mrt, hrt3⟩ := id h_g3
                        have H_mro := h_o3
                        refine e_iload d_X11_ways_221 rfl ?_
                        refine e_bipush (v := 12) d_X11_ways_223 (by decide) ?_
                        refine e_icmp_ge d_X11_ways_225 (fun c => ?_) (fun c => ?_)
                        · have c := i_le (a := 12) (by decide) (by omega) c
                          obtain rfl : i = 12 := by omega
                          replace h_o3 : ∃ g : Nat → Int32, Hs k3 92 (aI 12 g) := ⟨_, h_o3⟩
                          refine e_iincw (w := 1) d_X11_ways_248 rfl (by decide) (by decide) rfl ?_
                          refine e_gt d_X11_ways_251 ?_
                          refine e_drop1 7 ?_
                          refine ih_70 (q + 1) (by omega) (by omega) _ () () () _ _ _ ?_ ?_ ?_ ?_ ?_ ?_
                          · exact h_F3
                          · exact h_g3
                          · exact h_o3
                          · exact hFF
                          · rw [wkS_succ]; exact hSS
                          · exact nI_1 q
                        · have c := i_nle (a := 12) (by decide) (by omega) c
                          refine e_aloadn d_X11_ways_228 rfl ?_
                          refine e_get d_X11_ways_229 f_X11_91 H_md rfl ?_
                          refine e_iload d_X11_ways_232 rfl ?_
                          refine e_aloadn d_X11_ways_234 rfl ?_
                          refine e_get d_X11_ways_235 f_X11_94 H_md rfl ?_
                          refine e_iload d_X11_ways_238 rfl ?_
                          refine e_ialdN (k := i) d_X11_ways_240 H_mro rfl (by omega) (by omega) ?_
                          refine e_iastN (k := i) d_X11_ways_241 H_mrt rfl (by omega) (by omega) ?_
                          refine e_iincw (w := 1) d_X11_ways_242 rfl (by decide) (by decide) rfl ?_
                          refine e_gt d_X11_ways_245 ?_
                          refine ih_221 (i + 1) (by omega) (by omega) _ () () () _ ?_ ?_ ?_ ?_
                          · exact h_F3.up (by decide)
                          · refine ⟨_, Hs.s H_mrt, fun t ht => ?_⟩
                            by_cases e : t = i
                            · rw [e, va_up_self, hro2 i c]; rfl
                            · rw [va_up_ne _ _ e]; exact hrt3 t (by omega)
                          · exact h_o3.n (by decide)
                          · exact nI_1 i
                      exact hA_221 0 (by omega) _ () () () _ (h_F2) (⟨_, h_g2, fun t ht => absurd ht (by omega)⟩) (H_mro) (rfl)
                    · have c := i_nle (by omega) (by omega) c
                      refine e_aloadn d_X11_ways_156 rfl ?_
                      refine e_get d_X11_ways_157 f_X11_7 H_md rfl ?_
                      refine e_sipush (v := 320) d_X11_ways_160 (by decide) ?_
                      refine e_iconst (v := 2) d_X11_ways_163 (by decide) ?_
                      refine e_iload d_X11_ways_164 rfl ?_
                      refine e_imul d_X11_ways_166 ?_
                      refine e_iadd d_X11_ways_167 ?_
                      refine e_iconst (v := 1) d_X11_ways_168 (by decide) ?_
                      refine e_iadd d_X11_ways_169 ?_
                      obtain ⟨l1, l2, l3, l4⟩ := hlk i c
                      refine e_ialdN (k := 320 + 2 * i + 1) d_X11_ways_170 H_a (by simp only [fa_lit, nI_add, pk_mul]) (by omega) (by omega) ?_
                      rw [l3]
                      refine e_istore d_X11_ways_171 (by decide) rfl ?_
                      refine e_aloadn d_X11_ways_173 rfl ?_
                      refine e_get d_X11_ways_174 f_X11_94 H_md rfl ?_
                      refine e_iload d_X11_ways_177 rfl ?_
                      refine e_ldcw d_X11_ways_179 v_X11_386 ?_
                      refine e_aloadn d_X11_ways_182 rfl ?_
                      refine e_get d_X11_ways_183 f_X11_94 H_md rfl ?_
                      refine e_iload d_X11_ways_186 rfl ?_
                      refine e_ialdN (k := lt i) d_X11_ways_188 H_mro rfl (by omega) (by omega) ?_
                      rw [hro2 _ l4]
                      refine e_aloadn d_X11_ways_189 rfl ?_
                      refine e_get d_X11_ways_190 f_X11_91 H_md rfl ?_
                      refine e_aloadn d_X11_ways_193 rfl ?_
                      refine e_get d_X11_ways_194 f_X11_7 H_md rfl ?_
                      refine e_sipush (v := 320) d_X11_ways_197 (by decide) ?_
                      refine e_iconst (v := 2) d_X11_ways_200 (by decide) ?_
                      refine e_iload d_X11_ways_201 rfl ?_
                      refine e_imul d_X11_ways_203 ?_
                      refine e_iadd d_X11_ways_204 ?_
                      refine e_ialdN (k := 320 + 2 * i) d_X11_ways_205 H_a (by simp only [fa_lit, nI_add, pk_mul]) (by omega) (by omega) ?_
                      rw [l1]
                      refine e_ialdN (k := lf i) d_X11_ways_206 H_mrt rfl (by omega) (by omega) ?_
                      rw [hrt _ l2]
                      refine e_iadd d_X11_ways_207 ?_
                      refine e_callSI d_X11_ways_208 l_X11_ways_377 (s_X11_lesser) rfl rfl (Nat.le_of_ble_eq_true rfl) ?_
                      rw [nI_add, show (1000000 : Int32) = nI 1000000 from rfl, sat_32 (by omega)]
                      refine e_iastN (k := lt i) d_X11_ways_211 H_mro rfl (by omega) (by omega) ?_
                      refine e_iincw (w := 1) d_X11_ways_212 rfl (by decide) (by decide) rfl ?_
                      refine e_gt d_X11_ways_215 ?_
                      refine e_drop1 8 ?_
                      refine ih_145 (i + 1) (by omega) (by omega) _ () () () _ ?_ ?_ ?_ ?_
                      · exact h_F2.up (by decide)
                      · exact h_g2.n (by decide)
                      · refine ⟨_, Hs.s H_mro, fun t ht => ?_⟩
                        by_cases e : t = lt i
                        · rw [e, va_up_self, sm, if_pos rfl]
                          congr 1
                          omega
                        · rw [va_up_ne _ _ e, hro2 t ht, sm, if_neg (fun z => e z.symm)]; rfl
                      · exact nI_1 i
                  exact hA_145 0 (by omega) _ () () () _ (h_F1) (h_g1) (⟨_, H_mro, fun t ht => by rw [hro t ht]; rfl⟩) (rfl)
                · have c := i_nle (a := 12) (by decide) (by omega) c
                  refine e_aloadn d_X11_ways_128 rfl ?_
                  refine e_get d_X11_ways_129 f_X11_94 H_md rfl ?_
                  refine e_iload d_X11_ways_132 rfl ?_
                  refine e_iconst (v := 0) d_X11_ways_134 (by decide) ?_
                  refine e_iastN (k := i) d_X11_ways_135 H_mro rfl (by omega) (by omega) ?_
                  refine e_iincw (w := 1) d_X11_ways_136 rfl (by decide) (by decide) rfl ?_
                  refine e_gt d_X11_ways_139 ?_
                  refine ih_121 (i + 1) (by omega) (by omega) _ () () () _ ?_ ?_ ?_ ?_
                  · exact h_F1.up (by decide)
                  · exact h_g1.n (by decide)
                  · refine ⟨_, Hs.s H_mro, fun t ht => ?_⟩
                    by_cases e : t = i
                    · rw [e, va_up_self]
                    · rw [va_up_ne _ _ e]; exact hro t (by omega)
                  · exact nI_1 i
              exact hA_121 0 (by omega) _ () () () _ (h_F) (H_mrt) (⟨_, H_mro, fun t ht => absurd ht (by omega)⟩) (rfl)
            · have hz : 0 < wk lf lt nl fr q to := by have := i_pos (by omega) c89; omega
              have hFF : nI q = oI (wkF lf lt nl fr to (q + 1)) := by rw [wkF, hf]; simp only []; rw [if_pos hz]; rfl
              skip
              refine e_iload d_X11_ways_92 rfl ?_
              refine e_gt d_X11_ways_94 ?_
              refine e_istore d_X11_ways_99 (by decide) rfl ?_
              refine e_ldcw d_X11_ways_101 v_X11_386 ?_
              refine e_iload d_X11_ways_104 rfl ?_
              refine e_aloadn d_X11_ways_106 rfl ?_
              refine e_get d_X11_ways_107 f_X11_91 H_md rfl ?_
              refine e_iloadn d_X11_ways_110 rfl ?_
              refine e_ialdN (k := to) d_X11_ways_111 H_mrt rfl (by omega) (by omega) ?_
              rw [hrt to (by omega)]
              refine e_iadd d_X11_ways_112 ?_
              refine e_callSI d_X11_ways_113 l_X11_ways_377 (s_X11_lesser) rfl rfl (Nat.le_of_ble_eq_true rfl) ?_
              rw [nI_add, show (1000000 : Int32) = nI 1000000 from rfl, sat_32 (by omega)]
              have hSS : nI (min 1000000 (min (wkS lf lt nl fr to q) 1000000 + min 1000000 (wk lf lt nl fr q to))) = nI (min (wkS lf lt nl fr to q + wk lf lt nl fr q to) 1000000) := by congr 1; omega
              refine e_istore d_X11_ways_116 (by decide) rfl ?_
              refine e_iconst (v := 0) d_X11_ways_118 (by decide) ?_
              refine e_istore d_X11_ways_119 (by decide) rfl ?_
              have hA_121 : ∀ i, i ≤ 12 → ∀ (k1 : AH) (F1 : Unit) (g1 : Unit) (o1 : Unit) (y : Int32), (Fr [91, 92] h k1) → (Hs k1 91 (aI 12 rt)) → (∃ g : Nat → Int32, Hs k1 92 (aI 12 g) ∧ ∀ t, t < i → g t = 0) → (y = nI i) → E M_X11_ways (0, 0) (rI (fun x h' => x = (if w = 0 then oI (wkF lf lt nl fr to 12) else nI (min (wkS lf lt nl fr to 12) 1000000)) ∧ Fr [91, 92] h h' ∧ (∃ g : Nat → Int32, Hs h' 91 (aI 12 g)) ∧ ∃ g : Nat → Int32, Hs h' 92 (aI 12 g))) 121 (k1) [some (.ref 66), some (.int (nI fr)), some (.int (nI to)), some (.int w), some (.int (nI q)), some (.int (nI (min 1000000 (min (wkS lf lt nl fr to q) 1000000 + min 1000000 (wk lf lt nl fr q to))))), some (.int (nI q)), some (.int y), none] [] := by
                refine loop_ind (n := 12) ?_
                intro i hi_i ih_121 k1 F1 g1 o1 y h_F1 h_g1 h_o1 h_y
                subst h_y
                have H_md := h_F1.hs G_md (by decide)
                have H_a := h_F1.hs G_a (by decide)
                have H_mrt := h_g1
                obtain ⟨ro, H_mro, hro⟩ := id h_o1
                refine e_iload d_X11_ways_121 rfl ?_
                refine e_bipush (v := 12) d_X11_ways_123 (by decide) ?_
                refine e_icmp_ge d_X11_ways_125 (fun c => ?_) (fun c => ?_)
                · have c := i_le (a := 12) (by decide) (by omega) c
                  obtain rfl : i = 12 := by omega
                  refine e_iconst (v := 0) d_X11_ways_142 (by decide) ?_
                  refine e_istore d_X11_ways_143 (by decide) rfl ?_
                  have hA_145 : ∀ i, i ≤ nl → ∀ (k2 : AH) (F2 : Unit) (g2 : Unit) (o2 : Unit) (y : Int32), (Fr [91, 92] h k2) → (Hs k2 91 (aI 12 rt)) → (∃ g : Nat → Int32, Hs k2 92 (aI 12 g) ∧ ∀ t, t < 12 → g t = nI (min 1000000 (sm (fun i => if lt i = t then wk lf lt nl fr q (lf i) else 0) i))) → (y = nI i) → E M_X11_ways (0, 0) (rI (fun x h' => x = (if w = 0 then oI (wkF lf lt nl fr to 12) else nI (min (wkS lf lt nl fr to 12) 1000000)) ∧ Fr [91, 92] h h' ∧ (∃ g : Nat → Int32, Hs h' 91 (aI 12 g)) ∧ ∃ g : Nat → Int32, Hs h' 92 (aI 12 g))) 145 (k2) [some (.ref 66), some (.int (nI fr)), some (.int (nI to)), some (.int w), some (.int (nI q)), some (.int (nI (min 1000000 (min (wkS lf lt nl fr to q) 1000000 + min 1000000 (wk lf lt nl fr q to))))), some (.int (nI q)), some (.int y), none] [] := by
                    refine loop_ind (n := nl) ?_
                    intro i hi_i ih_145 k2 F2 g2 o2 y h_F2 h_g2 h_o2 h_y
                    subst h_y
                    have H_md := h_F2.hs G_md (by decide)
                    have H_a := h_F2.hs G_a (by decide)
                    have H_mrt := h_g2
                    obtain ⟨ro2, H_mro, hro2⟩ := id h_o2
                    refine e_iload d_X11_ways_145 rfl ?_
                    refine e_aloadn d_X11_ways_147 rfl ?_
                    refine e_get d_X11_ways_148 f_X11_7 H_md rfl ?_
                    refine e_iconst (v := 3) d_X11_ways_151 (by decide) ?_
                    refine e_ialdN (k := 3) d_X11_ways_152 H_a rfl (by omega) (by omega) ?_
                    rw [ha3]
                    refine e_icmp_ge d_X11_ways_153 (fun c => ?_) (fun c => ?_)
                    · have c := i_le (by omega) (by omega) c
                      obtain rfl : nl = i := by omega
                      refine e_iconst (v := 0) d_X11_ways_218 (by decide) ?_
                      refine e_istore d_X11_ways_219 (by decide) rfl ?_
                      have hA_221 : ∀ i, i ≤ 12 → ∀ (k3 : AH) (F3 : Unit) (g3 : Unit) (o3 : Unit) (y : Int32), (Fr [91, 92] h k3) → (∃ g : Nat → Int32, Hs k3 91 (aI 12 g) ∧ ∀ t, t < i → g t = nI (min 1000000 (wk lf lt nl fr (q + 1) t))) → (Hs k3 92 (aI 12 ro2)) → (y = nI i) → E M_X11_ways (0, 0) (rI (fun x h' => x = (if w = 0 then oI (wkF lf lt nl fr to 12) else nI (min (wkS lf lt nl fr to 12) 1000000)) ∧ Fr [91, 92] h h' ∧ (∃ g : Nat → Int32, Hs h' 91 (aI 12 g)) ∧ ∃ g : Nat → Int32, Hs h' 92 (aI 12 g))) 221 (k3) [some (.ref 66), some (.int (nI fr)), some (.int (nI to)), some (.int w), some (.int (nI q)), some (.int (nI (min 1000000 (min (wkS lf lt nl fr to q) 1000000 + min 1000000 (wk lf lt nl fr q to))))), some (.int (nI q)), some (.int y), none] [] := by
                        refine loop_ind (n := 12) ?_
                        intro i hi_i ih_221 k3 F3 g3 o3 y h_F3 h_g3 h_o3 h_y
                        subst h_y
                        have H_md := h_F3.hs G_md (by decide)
                        have H_a := h_F3.hs G_a (by decide)
                        obtain ⟨rt3, H_mrt, hrt3⟩ := id h_g3
                        have H_mro := h_o3
                        refine e_iload d_X11_ways_221 rfl ?_
                        refine e_bipush (v := 12) d_X11_ways_223 (by decide) ?_
                        refine e_icmp_ge d_X11_ways_225 (fun c => ?_) (fun c => ?_)
                        · have c := i_le (a := 12) (by decide) (by omega) c
                          obtain rfl : i = 12 := by omega
                          replace h_o3 : ∃ g : Nat → Int32, Hs k3 92 (aI 12 g) := ⟨_, h_o3⟩
                          refine e_iincw (w := 1) d_X11_ways_248 rfl (by decide) (by decide) rfl ?_
                          refine e_gt d_X11_ways_251 ?_
                          refine e_drop1 7 ?_
                          refine ih_70 (q + 1) (by omega) (by omega) _ () () () _ _ _ ?_ ?_ ?_ ?_ ?_ ?_
                          · exact h_F3
                          · exact h_g3
                          · exact h_o3
                          · exact hFF
                          · rw [wkS_succ]; exact hSS
                          · exact nI_1 q
                        · have c := i_nle (a := 12) (by decide) (by omega) c
                          refine e_aloadn d_X11_ways_228 rfl ?_
                          refine e_get d_X11_ways_229 f_X11_91 H_md rfl ?_
                          refine e_iload d_X11_ways_232 rfl ?_
                          refine e_aloadn d_X11_ways_234 rfl ?_
                          refine e_get d_X11_ways_235 f_X11_94 H_md rfl ?_
                          refine e_iload d_X11_ways_238 rfl ?_
                          refine e_ialdN (k := i) d_X11_ways_240 H_mro rfl (by omega) (by omega) ?_
                          refine e_iastN (k := i) d_X11_ways_241 H_mrt rfl (by omega) (by omega) ?_
                          refine e_iincw (w := 1) d_X11_ways_242 rfl (by decide) (by decide) rfl ?_
                          refine e_gt d_X11_ways_245 ?_
                          refine ih_221 (i + 1) (by omega) (by omega) _ () () () _ ?_ ?_ ?_ ?_
                          · exact h_F3.up (by decide)
                          · refine ⟨_, Hs.s H_mrt, fun t ht => ?_⟩
                            by_cases e : t = i
                            · rw [e, va_up_self, hro2 i c]; rfl
                            · rw [va_up_ne _ _ e]; exact hrt3 t (by omega)
                          · exact h_o3.n (by decide)
                          · exact nI_1 i
                      exact hA_221 0 (by omega) _ () () () _ (h_F2) (⟨_, h_g2, fun t ht => absurd ht (by omega)⟩) (H_mro) (rfl)
                    · have c := i_nle (by omega) (by omega) c
                      refine e_aloadn d_X11_ways_156 rfl ?_
                      refine e_get d_X11_ways_157 f_X11_7 H_md rfl ?_
                      refine e_sipush (v := 320) d_X11_ways_160 (by decide) ?_
                      refine e_iconst (v := 2) d_X11_ways_163 (by decide) ?_
                      refine e_iload d_X11_ways_164 rfl ?_
                      refine e_imul d_X11_ways_166 ?_
                      refine e_iadd d_X11_ways_167 ?_
                      refine e_iconst (v := 1) d_X11_ways_168 (by decide) ?_
                      refine e_iadd d_X11_ways_169 ?_
                      obtain ⟨l1, l2, l3, l4⟩ := hlk i c
                      refine e_ialdN (k := 320 + 2 * i + 1) d_X11_ways_170 H_a (by simp only [fa_lit, nI_add, pk_mul]) (by omega) (by omega) ?_
                      rw [l3]
                      refine e_istore d_X11_ways_171 (by decide) rfl ?_
                      refine e_aloadn d_X11_ways_173 rfl ?_
                      refine e_get d_X11_ways_174 f_X11_94 H_md rfl ?_
                      refine e_iload d_X11_ways_177 rfl ?_
                      refine e_ldcw d_X11_ways_179 v_X11_386 ?_
                      refine e_aloadn d_X11_ways_182 rfl ?_
                      refine e_get d_X11_ways_183 f_X11_94 H_md rfl ?_
                      refine e_iload d_X11_ways_186 rfl ?_
                      refine e_ialdN (k := lt i) d_X11_ways_188 H_mro rfl (by omega) (by omega) ?_
                      rw [hro2 _ l4]
                      refine e_aloadn d_X11_ways_189 rfl ?_
                      refine e_get d_X11_ways_190 f_X11_91 H_md rfl ?_
                      refine e_aloadn d_X11_ways_193 rfl ?_
                      refine e_get d_X11_ways_194 f_X11_7 H_md rfl ?_
                      refine e_sipush (v := 320) d_X11_ways_197 (by decide) ?_
                      refine e_iconst (v := 2) d_X11_ways_200 (by decide) ?_
                      refine e_iload d_X11_ways_201 rfl ?_
                      refine e_imul d_X11_ways_203 ?_
                      refine e_iadd d_X11_ways_204 ?_
                      refine e_ialdN (k := 320 + 2 * i) d_X11_ways_205 H_a (by simp only [fa_lit, nI_add, pk_mul]) (by omega) (by omega) ?_
                      rw [l1]
                      refine e_ialdN (k := lf i) d_X11_ways_206 H_mrt rfl (by omega) (by omega) ?_
                      rw [hrt _ l2]
                      refine e_iadd d_X11_ways_207 ?_
                      refine e_callSI d_X11_ways_208 l_X11_ways_377 (s_X11_lesser) rfl rfl (Nat.le_of_ble_eq_true rfl) ?_
                      rw [nI_add, show (1000000 : Int32) = nI 1000000 from rfl, sat_32 (by omega)]
                      refine e_iastN (k := lt i) d_X11_ways_211 H_mro rfl (by omega) (by omega) ?_
                      refine e_iincw (w := 1) d_X11_ways_212 rfl (by decide) (by decide) rfl ?_
                      refine e_gt d_X11_ways_215 ?_
                      refine e_drop1 8 ?_
                      refine ih_145 (i + 1) (by omega) (by omega) _ () () () _ ?_ ?_ ?_ ?_
                      · exact h_F2.up (by decide)
                      · exact h_g2.n (by decide)
                      · refine ⟨_, Hs.s H_mro, fun t ht => ?_⟩
                        by_cases e : t = lt i
                        · rw [e, va_up_self, sm, if_pos rfl]
                          congr 1
                          omega
                        · rw [va_up_ne _ _ e, hro2 t ht, sm, if_neg (fun z => e z.symm)]; rfl
                      · exact nI_1 i
                  exact hA_145 0 (by omega) _ () () () _ (h_F1) (h_g1) (⟨_, H_mro, fun t ht => by rw [hro t ht]; rfl⟩) (rfl)
                · have c := i_nle (a := 12) (by decide) (by omega) c
                  refine e_aloadn d_X11_ways_128 rfl ?_
                  refine e_get d_X11_ways_129 f_X11_94 H_md rfl ?_
                  refine e_iload d_X11_ways_132 rfl ?_
                  refine e_iconst (v := 0) d_X11_ways_134 (by decide) ?_
                  refine e_iastN (k := i) d_X11_ways_135 H_mro rfl (by omega) (by omega) ?_
                  refine e_iincw (w := 1) d_X11_ways_136 rfl (by decide) (by decide) rfl ?_
                  refine e_gt d_X11_ways_139 ?_
                  refine ih_121 (i + 1) (by omega) (by omega) _ () () () _ ?_ ?_ ?_ ?_
                  · exact h_F1.up (by decide)
                  · exact h_g1.n (by decide)
                  · refine ⟨_, Hs.s H_mro, fun t ht => ?_⟩
                    by_cases e : t = i
                    · rw [e, va_up_self]
                    · rw [va_up_ne _ _ e]; exact hro t (by omega)
                  · exact nI_1 i
              exact hA_121 0 (by omega) _ () () () _ (h_F) (H_mrt) (⟨_, H_mro, fun t ht => absurd ht (by omega)⟩) (rfl)
          · refine e_iload d_X11_ways_77 rfl ?_
            refine e_iconst (v := -1) d_X11_ways_79 (by decide) ?_
            obtain ⟨r9, hr9⟩ : ∃ r, wkF lf lt nl fr to q = some r := by
              cases e9 : wkF lf lt nl fr to q with
              | none => exact absurd e9 hf
              | some r => exact ⟨r, rfl⟩
            have hFF : oI (wkF lf lt nl fr to q) = oI (wkF lf lt nl fr to (q + 1)) := by rw [wkF, hr9]
            refine e_icmp_ne d_X11_ways_80 (fun _ => ?_) (fun z => by first | exact absurd (by rw [hr9]; exact nI_neg1 (by have := wkF_lt hr9; omega)) z | exact absurd z (by rw [hr9]; exact nI_neg1 (by have := wkF_lt hr9; omega)))
            skip
            refine e_iload d_X11_ways_97 rfl ?_
            refine e_istore d_X11_ways_99 (by decide) rfl ?_
            refine e_ldcw d_X11_ways_101 v_X11_386 ?_
            refine e_iload d_X11_ways_104 rfl ?_
            refine e_aloadn d_X11_ways_106 rfl ?_
            refine e_get d_X11_ways_107 f_X11_91 H_md rfl ?_
            refine e_iloadn d_X11_ways_110 rfl ?_
            refine e_ialdN (k := to) d_X11_ways_111 H_mrt rfl (by omega) (by omega) ?_
            rw [hrt to (by omega)]
            refine e_iadd d_X11_ways_112 ?_
            refine e_callSI d_X11_ways_113 l_X11_ways_377 (s_X11_lesser) rfl rfl (Nat.le_of_ble_eq_true rfl) ?_
            rw [nI_add, show (1000000 : Int32) = nI 1000000 from rfl, sat_32 (by omega)]
            have hSS : nI (min 1000000 (min (wkS lf lt nl fr to q) 1000000 + min 1000000 (wk lf lt nl fr q to))) = nI (min (wkS lf lt nl fr to q + wk lf lt nl fr q to) 1000000) := by congr 1; omega
            refine e_istore d_X11_ways_116 (by decide) rfl ?_
            refine e_iconst (v := 0) d_X11_ways_118 (by decide) ?_
            refine e_istore d_X11_ways_119 (by decide) rfl ?_
            have hA_121 : ∀ i, i ≤ 12 → ∀ (k1 : AH) (F1 : Unit) (g1 : Unit) (o1 : Unit) (y : Int32), (Fr [91, 92] h k1) → (Hs k1 91 (aI 12 rt)) → (∃ g : Nat → Int32, Hs k1 92 (aI 12 g) ∧ ∀ t, t < i → g t = 0) → (y = nI i) → E M_X11_ways (0, 0) (rI (fun x h' => x = (if w = 0 then oI (wkF lf lt nl fr to 12) else nI (min (wkS lf lt nl fr to 12) 1000000)) ∧ Fr [91, 92] h h' ∧ (∃ g : Nat → Int32, Hs h' 91 (aI 12 g)) ∧ ∃ g : Nat → Int32, Hs h' 92 (aI 12 g))) 121 (k1) [some (.ref 66), some (.int (nI fr)), some (.int (nI to)), some (.int w), some (.int (oI (wkF lf lt nl fr to q))), some (.int (nI (min 1000000 (min (wkS lf lt nl fr to q) 1000000 + min 1000000 (wk lf lt nl fr q to))))), some (.int (nI q)), some (.int y), none] [] := by
              refine loop_ind (n := 12) ?_
              intro i hi_i ih_121 k1 F1 g1 o1 y h_F1 h_g1 h_o1 h_y
              subst h_y
              have H_md := h_F1.hs G_md (by decide)
              have H_a := h_F1.hs G_a (by decide)
              have H_mrt := h_g1
              obtain ⟨ro, H_mro, hro⟩ := id h_o1
              refine e_iload d_X11_ways_121 rfl ?_
              refine e_bipush (v := 12) d_X11_ways_123 (by decide) ?_
              refine e_icmp_ge d_X11_ways_125 (fun c => ?_) (fun c => ?_)
              · have c := i_le (a := 12) (by decide) (by omega) c
                obtain rfl : i = 12 := by omega
                refine e_iconst (v := 0) d_X11_ways_142 (by decide) ?_
                refine e_istore d_X11_ways_143 (by decide) rfl ?_
                have hA_145 : ∀ i, i ≤ nl → ∀ (k2 : AH) (F2 : Unit) (g2 : Unit) (o2 : Unit) (y : Int32), (Fr [91, 92] h k2) → (Hs k2 91 (aI 12 rt)) → (∃ g : Nat → Int32, Hs k2 92 (aI 12 g) ∧ ∀ t, t < 12 → g t = nI (min 1000000 (sm (fun i => if lt i = t then wk lf lt nl fr q (lf i) else 0) i))) → (y = nI i) → E M_X11_ways (0, 0) (rI (fun x h' => x = (if w = 0 then oI (wkF lf lt nl fr to 12) else nI (min (wkS lf lt nl fr to 12) 1000000)) ∧ Fr [91, 92] h h' ∧ (∃ g : Nat → Int32, Hs h' 91 (aI 12 g)) ∧ ∃ g : Nat → Int32, Hs h' 92 (aI 12 g))) 145 (k2) [some (.ref 66), some (.int (nI fr)), some (.int (nI to)), some (.int w), some (.int (oI (wkF lf lt nl fr to q))), some (.int (nI (min 1000000 (min (wkS lf lt nl fr to q) 1000000 + min 1000000 (wk lf lt nl fr q to))))), some (.int (nI q)), some (.int y), none] [] := by
                  refine loop_ind (n := nl) ?_
                  intro i hi_i ih_145 k2 F2 g2 o2 y h_F2 h_g2 h_o2 h_y
                  subst h_y
                  have H_md := h_F2.hs G_md (by decide)
                  have H_a := h_F2.hs G_a (by decide)
                  have H_mrt := h_g2
                  obtain ⟨ro2, H_mro, hro2⟩ := id h_o2
                  refine e_iload d_X11_ways_145 rfl ?_
                  refine e_aloadn d_X11_ways_147 rfl ?_
                  refine e_get d_X11_ways_148 f_X11_7 H_md rfl ?_
                  refine e_iconst (v := 3) d_X11_ways_151 (by decide) ?_
                  refine e_ialdN (k := 3) d_X11_ways_152 H_a rfl (by omega) (by omega) ?_
                  rw [ha3]
                  refine e_icmp_ge d_X11_ways_153 (fun c => ?_) (fun c => ?_)
                  · have c := i_le (by omega) (by omega) c
                    obtain rfl : nl = i := by omega
                    refine e_iconst (v := 0) d_X11_ways_218 (by decide) ?_
                    refine e_istore d_X11_ways_219 (by decide) rfl ?_
                    have hA_221 : ∀ i, i ≤ 12 → ∀ (k3 : AH) (F3 : Unit) (g3 : Unit) (o3 : Unit) (y : Int32), (Fr [91, 92] h k3) → (∃ g : Nat → Int32, Hs k3 91 (aI 12 g) ∧ ∀ t, t < i → g t = nI (min 1000000 (wk lf lt nl fr (q + 1) t))) → (Hs k3 92 (aI 12 ro2)) → (y = nI i) → E M_X11_ways (0, 0) (rI (fun x h' => x = (if w = 0 then oI (wkF lf lt nl fr to 12) else nI (min (wkS lf lt nl fr to 12) 1000000)) ∧ Fr [91, 92] h h' ∧ (∃ g : Nat → Int32, Hs h' 91 (aI 12 g)) ∧ ∃ g : Nat → Int32, Hs h' 92 (aI 12 g))) 221 (k3) [some (.ref 66), some (.int (nI fr)), some (.int (nI to)), some (.int w), some (.int (oI (wkF lf lt nl fr to q))), some (.int (nI (min 1000000 (min (wkS lf lt nl fr to q) 1000000 + min 1000000 (wk lf lt nl fr q to))))), some (.int (nI q)), some (.int y), none] [] := by
                      refine loop_ind (n := 12) ?_
                      intro i hi_i ih_221 k3 F3 g3 o3 y h_F3 h_g3 h_o3 h_y
                      subst h_y
                      have H_md := h_F3.hs G_md (by decide)
                      have H_a := h_F3.hs G_a (by decide)
                      obtain ⟨rt3, H_mrt, hrt3⟩ := id h_g3
                      have H_mro := h_o3
                      refine e_iload d_X11_ways_221 rfl ?_
                      refine e_bipush (v := 12) d_X11_ways_223 (by decide) ?_
                      refine e_icmp_ge d_X11_ways_225 (fun c => ?_) (fun c => ?_)
                      · have c := i_le (a := 12) (by decide) (by omega) c
                        obtain rfl : i = 12 := by omega
                        replace h_o3 : ∃ g : Nat → Int32, Hs k3 92 (aI 12 g) := ⟨_, h_o3⟩
                        refine e_iincw (w := 1) d_X11_ways_248 rfl (by decide) (by decide) rfl ?_
                        refine e_gt d_X11_ways_251 ?_
                        refine e_drop1 7 ?_
                        refine ih_70 (q + 1) (by omega) (by omega) _ () () () _ _ _ ?_ ?_ ?_ ?_ ?_ ?_
                        · exact h_F3
                        · exact h_g3
                        · exact h_o3
                        · exact hFF
                        · rw [wkS_succ]; exact hSS
                        · exact nI_1 q
                      · have c := i_nle (a := 12) (by decide) (by omega) c
                        refine e_aloadn d_X11_ways_228 rfl ?_
                        refine e_get d_X11_ways_229 f_X11_91 H_md rfl ?_
                        refine e_iload d_X11_ways_232 rfl ?_
                        refine e_aloadn d_X11_ways_234 rfl ?_
                        refine e_get d_X11_ways_235 f_X11_94 H_md rfl ?_
                        refine e_iload d_X11_ways_238 rfl ?_
                        refine e_ialdN (k := i) d_X11_ways_240 H_mro rfl (by omega) (by omega) ?_
                        refine e_iastN (k := i) d_X11_ways_241 H_mrt rfl (by omega) (by omega) ?_
                        refine e_iincw (w := 1) d_X11_ways_242 rfl (by decide) (by decide) rfl ?_
                        refine e_gt d_X11_ways_245 ?_
                        refine ih_221 (i + 1) (by omega) (by omega) _ () () () _ ?_ ?_ ?_ ?_
                        · exact h_F3.up (by decide)
                        · refine ⟨_, Hs.s H_mrt, fun t ht => ?_⟩
                          by_cases e : t = i
                          · rw [e, va_up_self, hro2 i c]; rfl
                          · rw [va_up_ne _ _ e]; exact hrt3 t (by omega)
                        · exact h_o3.n (by decide)
                        · exact nI_1 i
                    exact hA_221 0 (by omega) _ () () () _ (h_F2) (⟨_, h_g2, fun t ht => absurd ht (by omega)⟩) (H_mro) (rfl)
                  · have c := i_nle (by omega) (by omega) c
                    refine e_aloadn d_X11_ways_156 rfl ?_
                    refine e_get d_X11_ways_157 f_X11_7 H_md rfl ?_
                    refine e_sipush (v := 320) d_X11_ways_160 (by decide) ?_
                    refine e_iconst (v := 2) d_X11_ways_163 (by decide) ?_
                    refine e_iload d_X11_ways_164 rfl ?_
                    refine e_imul d_X11_ways_166 ?_
                    refine e_iadd d_X11_ways_167 ?_
                    refine e_iconst (v := 1) d_X11_ways_168 (by decide) ?_
                    refine e_iadd d_X11_ways_169 ?_
                    obtain ⟨l1, l2, l3, l4⟩ := hlk i c
                    refine e_ialdN (k := 320 + 2 * i + 1) d_X11_ways_170 H_a (by simp only [fa_lit, nI_add, pk_mul]) (by omega) (by omega) ?_
                    rw [l3]
                    refine e_istore d_X11_ways_171 (by decide) rfl ?_
                    refine e_aloadn d_X11_ways_173 rfl ?_
                    refine e_get d_X11_ways_174 f_X11_94 H_md rfl ?_
                    refine e_iload d_X11_ways_177 rfl ?_
                    refine e_ldcw d_X11_ways_179 v_X11_386 ?_
                    refine e_aloadn d_X11_ways_182 rfl ?_
                    refine e_get d_X11_ways_183 f_X11_94 H_md rfl ?_
                    refine e_iload d_X11_ways_186 rfl ?_
                    refine e_ialdN (k := lt i) d_X11_ways_188 H_mro rfl (by omega) (by omega) ?_
                    rw [hro2 _ l4]
                    refine e_aloadn d_X11_ways_189 rfl ?_
                    refine e_get d_X11_ways_190 f_X11_91 H_md rfl ?_
                    refine e_aloadn d_X11_ways_193 rfl ?_
                    refine e_get d_X11_ways_194 f_X11_7 H_md rfl ?_
                    refine e_sipush (v := 320) d_X11_ways_197 (by decide) ?_
                    refine e_iconst (v := 2) d_X11_ways_200 (by decide) ?_
                    refine e_iload d_X11_ways_201 rfl ?_
                    refine e_imul d_X11_ways_203 ?_
                    refine e_iadd d_X11_ways_204 ?_
                    refine e_ialdN (k := 320 + 2 * i) d_X11_ways_205 H_a (by simp only [fa_lit, nI_add, pk_mul]) (by omega) (by omega) ?_
                    rw [l1]
                    refine e_ialdN (k := lf i) d_X11_ways_206 H_mrt rfl (by omega) (by omega) ?_
                    rw [hrt _ l2]
                    refine e_iadd d_X11_ways_207 ?_
                    refine e_callSI d_X11_ways_208 l_X11_ways_377 (s_X11_lesser) rfl rfl (Nat.le_of_ble_eq_true rfl) ?_
                    rw [nI_add, show (1000000 : Int32) = nI 1000000 from rfl, sat_32 (by omega)]
                    refine e_iastN (k := lt i) d_X11_ways_211 H_mro rfl (by omega) (by omega) ?_
                    refine e_iincw (w := 1) d_X11_ways_212 rfl (by decide) (by decide) rfl ?_
                    refine e_gt d_X11_ways_215 ?_
                    refine e_drop1 8 ?_
                    refine ih_145 (i + 1) (by omega) (by omega) _ () () () _ ?_ ?_ ?_ ?_
                    · exact h_F2.up (by decide)
                    · exact h_g2.n (by decide)
                    · refine ⟨_, Hs.s H_mro, fun t ht => ?_⟩
                      by_cases e : t = lt i
                      · rw [e, va_up_self, sm, if_pos rfl]
                        congr 1
                        omega
                      · rw [va_up_ne _ _ e, hro2 t ht, sm, if_neg (fun z => e z.symm)]; rfl
                    · exact nI_1 i
                exact hA_145 0 (by omega) _ () () () _ (h_F1) (h_g1) (⟨_, H_mro, fun t ht => by rw [hro t ht]; rfl⟩) (rfl)
              · have c := i_nle (a := 12) (by decide) (by omega) c
                refine e_aloadn d_X11_ways_128 rfl ?_
                refine e_get d_X11_ways_129 f_X11_94 H_md rfl ?_
                refine e_iload d_X11_ways_132 rfl ?_
                refine e_iconst (v := 0) d_X11_ways_134 (by decide) ?_
                refine e_iastN (k := i) d_X11_ways_135 H_mro rfl (by omega) (by omega) ?_
                refine e_iincw (w := 1) d_X11_ways_136 rfl (by decide) (by decide) rfl ?_
                refine e_gt d_X11_ways_139 ?_
                refine ih_121 (i + 1) (by omega) (by omega) _ () () () _ ?_ ?_ ?_ ?_
                · exact h_F1.up (by decide)
                · exact h_g1.n (by decide)
                · refine ⟨_, Hs.s H_mro, fun t ht => ?_⟩
                  by_cases e : t = i
                  · rw [e, va_up_self]
                  · rw [va_up_ne _ _ e]; exact hro t (by omega)
                · exact nI_1 i
            exact hA_121 0 (by omega) _ () () () _ (h_F) (H_mrt) (⟨_, H_mro, fun t ht => absurd ht (by omega)⟩) (rfl)
      exact hA_70 0 (by omega) _ () () () _ _ _ (h_F) (⟨_, H_mrt, hrt0⟩) (h_o) (rfl) (rfl) (rfl)
    · have c := i_nle (a := 12) (by decide) (by omega) c
      refine e_aloadn d_X11_ways_37 rfl ?_
      refine e_get d_X11_ways_38 f_X11_91 H_md rfl ?_
      refine e_iload d_X11_ways_41 rfl ?_
      refine e_iload d_X11_ways_43 rfl ?_
      refine e_iloadn d_X11_ways_45 rfl ?_
      refine e_icmp_ne d_X11_ways_46 (fun c46 => ?_) (fun c46 => ?_)
      · refine e_iconst (v := 0) d_X11_ways_53 (by decide) ?_
        refine e_iastN (k := i) d_X11_ways_54 H_mrt rfl (by omega) (by omega) ?_
        refine e_iincw (w := 1) d_X11_ways_55 rfl (by decide) (by decide) rfl ?_
        refine e_gt d_X11_ways_58 ?_
        refine ih_30 (i + 1) (by omega) (by omega) _ () () () _ ?_ ?_ ?_ ?_
        · exact h_F.up (by decide)
        · refine ⟨_, Hs.s H_mrt, fun t ht => ?_⟩
          by_cases e : t = i
          · rw [e, va_up_self]
            first
            | (rw [if_neg (fun z => c46 (by rw [z]))]; rfl)
            | (rw [if_pos ((nI_eq (by omega) (by omega)).mp c46)]; rfl)
          · rw [va_up_ne _ _ e]; exact hrt t (by omega)
        · exact ⟨_, H_mro.n (by decide)⟩
        · exact nI_1 i
      · refine e_iconst (v := 1) d_X11_ways_49 (by decide) ?_
        refine e_gt d_X11_ways_50 ?_
        refine e_iastN (k := i) d_X11_ways_54 H_mrt rfl (by omega) (by omega) ?_
        refine e_iincw (w := 1) d_X11_ways_55 rfl (by decide) (by decide) rfl ?_
        refine e_gt d_X11_ways_58 ?_
        refine ih_30 (i + 1) (by omega) (by omega) _ () () () _ ?_ ?_ ?_ ?_
        · exact h_F.up (by decide)
        · refine ⟨_, Hs.s H_mrt, fun t ht => ?_⟩
          by_cases e : t = i
          · rw [e, va_up_self]
            first
            | (rw [if_neg (fun z => c46 (by rw [z]))]; rfl)
            | (rw [if_pos ((nI_eq (by omega) (by omega)).mp c46)]; rfl)
          · rw [va_up_ne _ _ e]; exact hrt t (by omega)
        · exact ⟨_, H_mro.n (by decide)⟩
        · exact nI_1 i
  exact hA_30 0 (by omega) _ () () () _ (Fr.refl _ _) (⟨_, H_mrt, fun t ht => absurd ht (by omega)⟩) (⟨_, H_mro⟩) (rfl)

/-- ANSWERS told anew by a life, as the model has them -/
def mlA (a v : Nat → Int32) (T k : Nat) : Nat → Int32 := fun j => if 150 + 14 * T ≤ j ∧ j < 150 + 14 * T + k then v (j - (150 + 14 * T)) else a j
theorem mlA_succ {a v : Nat → Int32} {T k : Nat} : va_up (mlA a v T k) (150 + 14 * T + k) (v k) = mlA a v T (k + 1) := by
  funext j
  simp only [va_up, mlA]
  by_cases e : j = 150 + 14 * T + k
  · subst e
    rw [if_pos rfl, if_pos (by omega)]; congr 1; omega
  · rw [if_neg e]
    by_cases h : 150 + 14 * T ≤ j ∧ j < 150 + 14 * T + k
    · rw [if_pos h, if_pos (by omega)]
    · rw [if_neg h, if_neg (by omega)]
theorem mlA_0 {a v : Nat → Int32} {T : Nat} : mlA a v T 0 = a := funext fun j => by simp only [mlA]; rw [if_neg (by omega)]
theorem mlA_lo {a v : Nat → Int32} {T k j : Nat} (h : j < 150) : mlA a v T k j = a j := by simp only [mlA]; rw [if_neg (by omega)]
theorem anyN_fa {P : Nat → Bool} : ∀ {n : Nat}, anyN P n = false → ∀ j, j < n → P j = false
  | 0, _, j, hj => by omega
  | n + 1, h, j, hj => by
    rw [anyN, Bool.or_eq_false_iff] at h
    by_cases e : j = n
    · rw [e]; exact h.2
    · exact anyN_fa h.1 j (by omega)
theorem fst_uq {nc v : Nat} {kd : Nat → Nat} (hv : v < nc) (hk : kd v = 16) (hu : ∀ j, j < nc → kd j = 16 → j = v) : (List.range nc).find? (fun i => decide (kd i = 16)) = some v :=
  rng_some hv (by simp [hk]) (fun j hj => by
    have : ¬ kd j = 16 := fun z => by have := hu j (by omega) z; omega
    simp [this])
theorem s_X11_live {h : AH} {N n S0 : Nat} {ca : Nat → Nat → Nat} {a : Nat → Int32} {mtp mfl mfa mln mat mtk mso mto mwr mwp mop mfs mws mst mnc mnk mnr mdn : Int32} {mup mlo mgu mgl : Int64} {tp nc tcn T seed ag : Nat} {kd : Nat → Nat} {cd : Nat → List Nat} {many near : Int32} {nms0 : Nat → Int32} {pi0 : Nat → Int64} (H_md : Hs h 66 (oMd mtp mfl mfa mup mlo mln mat mtk mso mto mwr mwp mop mfs mws mst mnc mnk mnr mdn mgu mgl)) (H_a : Hs h 67 (aI 380 a)) (ha0 : a 0 = nI N) (hN : N ≤ 14) (hca : ∀ c k, c < N → k < 4 → ca c k ≤ 99) (hca4 : ∀ c k, c < N → k < 4 → a (10 + 5 * c + k) = nI (ca c k)) (ha1 : a 1 = nI n) (hn : n ≤ 12) (hS0 : S0 < 2 ^ N) (ha2 : a 2 = nI tcn) (htp : tp < tcn) (htc : tcn ≤ 6) (hT0 : TxM h tp nc kd cd many near) (hok : okT nc kd cd) (huq : ∀ i, i < nc → ∀ j, j < nc → kd i = 16 → kd j = 16 → i = j) (H_mnm : Hs h 85 (aI 11 nms0)) (H_mpi : Hs h 86 (aJ 200 pi0)) (hTn : T < n) (hhad : ∀ c, c < N → a (80 + c) = nI (S0 / 2 ^ c % 2)) (hage : a (100 + 4 * T + 1) = nI ag) (hag : ag ≤ 99) (hseed : seed ≤ 9999) : Sp M_X11_live (0, 0) h [.ref 66, .int (nI tp), .int (nI T), .int (nI seed)] (rI (fun x h' => x = nI (lvC ca S0 ag seed nc kd cd N) ∧ Hs h' 67 (aI 380 (mlA a (lvV ca S0 ag seed nc kd cd) T N)) ∧ (∃ nms : Nat → Int32, Hs h' 85 (aI 11 nms)) ∧ (∃ pi : Nat → Int64, Hs h' 86 (aJ 200 pi)) ∧ Fr [67, 85, 86] h h')) := by
  refine ⟨Nat.le_of_ble_eq_true rfl, ?_⟩
  show E _ _ _ 0 h [some (.ref 66), some (.int (nI tp)), some (.int (nI T)), some (.int (nI seed)), none, none, none, none, none, none, none] []
  have hT := hT0
  obtain ⟨htp6, hnc, mcl, mcw, mcn, mca, mor, mva, H_mcl, H_mcw, H_mcn, H_mca, H_mor, H_mva, hcl, hkd, hmany, hnear⟩ := id hT0
  have G_md := H_md
  have G_mcl := H_mcl
  have G_mcw := H_mcw
  have G_mca := H_mca
  have G_mor := H_mor
  have G_mva := H_mva
  refine e_aloadn d_X11_live_0 rfl ?_
  refine e_iloadn d_X11_live_1 rfl ?_
  refine e_callVI d_X11_live_2 l_X11_live_356 H_md rfl rfl (s_X11_isText H_md H_a) rfl rfl (Nat.le_of_ble_eq_true rfl) ?_
  refine e_if_eq d_X11_live_5 (fun z => by first | exact absurd (fun z => bI_0.mp z ⟨(nI_leI (a := 0) (by decide) (by omega)).mpr (by omega), by rw [ha2, nI_le1 (by omega)]; exact (nI_leI (by omega) (by omega)).mpr (by omega)⟩) z | exact absurd z (fun z => bI_0.mp z ⟨(nI_leI (a := 0) (by decide) (by omega)).mpr (by omega), by rw [ha2, nI_le1 (by omega)]; exact (nI_leI (by omega) (by omega)).mpr (by omega)⟩)) (fun _ => ?_)
  refine e_aloadn d_X11_live_8 rfl ?_
  refine e_iloadn d_X11_live_9 rfl ?_
  refine e_callVI d_X11_live_10 l_X11_live_109 H_md rfl rfl (s_X11_isThing H_md H_a) rfl rfl (Nat.le_of_ble_eq_true rfl) ?_
  refine e_if_eq d_X11_live_13 (fun z => by first | exact absurd (fun z => bI_0.mp z ⟨(nI_leI (a := 0) (by decide) (by omega)).mpr (by omega), by rw [ha1, nI_le1 (by omega)]; exact (nI_leI (by omega) (by omega)).mpr (by omega)⟩) z | exact absurd z (fun z => bI_0.mp z ⟨(nI_leI (a := 0) (by decide) (by omega)).mpr (by omega), by rw [ha1, nI_le1 (by omega)]; exact (nI_leI (by omega) (by omega)).mpr (by omega)⟩)) (fun _ => ?_)
  refine e_iloadn d_X11_live_16 rfl ?_
  refine e_iconst (v := 0) d_X11_live_17 (by decide) ?_
  refine e_sipush (v := 9999) d_X11_live_18 (by decide) ?_
  refine e_callSI d_X11_live_21 l_X11_live_101 (s_X11_in) rfl rfl (Nat.le_of_ble_eq_true rfl) ?_
  refine e_if_ne d_X11_live_24 (fun _ => ?_) (fun z => by first | exact absurd (fun z => bI_0.mp z ⟨(nI_leI (a := 0) (by decide) (by omega)).mpr (by omega), (nI_leI (b := 9999) (by omega) (by decide)).mpr (by omega)⟩) z | exact absurd z (fun z => bI_0.mp z ⟨(nI_leI (a := 0) (by decide) (by omega)).mpr (by omega), (nI_leI (b := 9999) (by omega) (by decide)).mpr (by omega)⟩))
  refine e_iconst (v := 0) d_X11_live_29 (by decide) ?_
  refine e_istore d_X11_live_30 (by decide) rfl ?_
  refine e_iconst (v := -1) d_X11_live_32 (by decide) ?_
  refine e_istore d_X11_live_33 (by decide) rfl ?_
  refine e_iconst (v := 0) d_X11_live_35 (by decide) ?_
  refine e_istore d_X11_live_36 (by decide) rfl ?_
  have hA_38 : ∀ i, i ≤ nc → ∀ (f : Int32) (s : Int32) (y : Int32), (f = bI (anyN (fun i => decide (kd i = 20)) i = true)) → (((anyN (fun i => decide (kd i = 16)) i = false ∧ s = -1) ∨ ∃ v, v < i ∧ kd v = 16 ∧ s = mca (10 * tp + v))) → (y = nI i) → E M_X11_live (0, 0) (rI (fun x h' => x = nI (lvC ca S0 ag seed nc kd cd N) ∧ Hs h' 67 (aI 380 (mlA a (lvV ca S0 ag seed nc kd cd) T N)) ∧ (∃ nms : Nat → Int32, Hs h' 85 (aI 11 nms)) ∧ (∃ pi : Nat → Int64, Hs h' 86 (aJ 200 pi)) ∧ Fr [67, 85, 86] h h')) 38 (h) [some (.ref 66), some (.int (nI tp)), some (.int (nI T)), some (.int (nI seed)), some (.int f), some (.int s), some (.int y), none, none, none, none] [] := by
    refine loop_ind (n := nc) ?_
    intro i hi_i ih_38 f s y h_f h_s h_y
    subst h_y
    subst h_f
    refine e_iload d_X11_live_38 rfl ?_
    refine e_aloadn d_X11_live_40 rfl ?_
    refine e_get d_X11_live_41 f_X11_27 H_md rfl ?_
    refine e_iloadn d_X11_live_44 rfl ?_
    refine e_ialdN (k := tp) d_X11_live_45 H_mcl rfl (by omega) (by omega) ?_
    rw [hcl]
    refine e_icmp_ge d_X11_live_46 (fun c => ?_) (fun c => ?_)
    · have c := i_le (by omega) (by omega) c
      obtain rfl : nc = i := by omega
      refine e_iloadn d_X11_live_119 rfl ?_
      refine e_bipush (v := 7) d_X11_live_120 (by decide) ?_
      refine e_imul d_X11_live_122 ?_
      refine e_bipush (v := 11) d_X11_live_123 (by decide) ?_
      refine e_iadd d_X11_live_125 ?_
      rw [show nI seed * 7 + 11 = nI (xq seed 0) from by simp only [fa_lit, nI_add, pk_mul]; rfl]
      obtain ⟨s9, hs9⟩ : ∃ s9, s9 = s := ⟨_, rfl⟩
      refine e_istore d_X11_live_126 (by decide) rfl ?_
      refine e_iconst (v := 0) d_X11_live_128 (by decide) ?_
      refine e_istore d_X11_live_129 (by decide) rfl ?_
      refine e_iconst (v := 0) d_X11_live_131 (by decide) ?_
      refine e_istore d_X11_live_132 (by decide) rfl ?_
      have hA_134 : ∀ i, i ≤ N → ∀ (k : AH) (F : Unit) (J : Unit) (p : Unit) (A : Unit) (x : Int32) (g : Int32) (y : Int32), (Fr [67, 85, 86] h k) → (∃ nms : Nat → Int32, Hs k 85 (aI 11 nms)) → (∃ pi : Nat → Int64, Hs k 86 (aJ 200 pi)) → (Hs k 67 (aI 380 (mlA a (lvV ca S0 ag seed nc kd cd) T i))) → (x = nI (xq seed i)) → (g = nI (lvC ca S0 ag seed nc kd cd i)) → (y = nI i) → E M_X11_live (0, 0) (rI (fun x h' => x = nI (lvC ca S0 ag seed nc kd cd N) ∧ Hs h' 67 (aI 380 (mlA a (lvV ca S0 ag seed nc kd cd) T N)) ∧ (∃ nms : Nat → Int32, Hs h' 85 (aI 11 nms)) ∧ (∃ pi : Nat → Int64, Hs h' 86 (aJ 200 pi)) ∧ Fr [67, 85, 86] h h')) 134 (k) [some (.ref 66), some (.int (nI tp)), some (.int (nI T)), some (.int (nI seed)), some (.int (bI (anyN (fun i => decide (kd i = 20)) nc = true))), some (.int s), some (.int x), some (.int g), some (.int y), none, none] [] := by
        refine loop_ind (n := N) ?_
        intro i hi_i ih_134 k F J p A x g y h_F h_J h_p h_A h_x h_g h_y
        subst h_y
        subst h_x
        have H_md := h_F.hs G_md (by decide)
        have H_mcl := h_F.hs G_mcl (by decide)
        have H_mcw := h_F.hs G_mcw (by decide)
        have H_mca := h_F.hs G_mca (by decide)
        have H_mor := h_F.hs G_mor (by decide)
        have H_mva := h_F.hs G_mva (by decide)
        have hT := hT0.fr h_F (by decide)
        have H_a := h_A
        obtain ⟨nms, H_mnm⟩ := id h_J
        obtain ⟨pi, H_mpi⟩ := id h_p
        have hxq := xq_lt hseed i
        refine e_iload d_X11_live_134 rfl ?_
        refine e_aloadn d_X11_live_136 rfl ?_
        refine e_get d_X11_live_137 f_X11_7 H_md rfl ?_
        refine e_iconst (v := 0) d_X11_live_140 (by decide) ?_
        refine e_ialdN (k := 0) d_X11_live_141 H_a rfl (by omega) (by omega) ?_
        rw [mlA_lo (by omega), ha0]
        refine e_icmp_ge d_X11_live_142 (fun c => ?_) (fun c => ?_)
        · have c := i_le (by omega) (by omega) c
          obtain rfl : N = i := by omega
          refine e_iload d_X11_live_290 rfl ?_
          exact e_iret d_X11_live_292 rfl (rfl) (⟨_, rfl, h_g, h_A, h_J, h_p, h_F⟩)
        · have c := i_nle (by omega) (by omega) c
          refine e_aloadn d_X11_live_145 rfl ?_
          refine e_iconst (v := 0) d_X11_live_146 (by decide) ?_
          refine e_iload d_X11_live_147 rfl ?_
          refine e_callRVV d_X11_live_149 l_X11_live_333 H_md rfl rfl (s_X11_names (o := 0) (C := i) H_md H_a (by rw [mlA_lo (by omega)]; exact ha0) hN hca (fun c9 k9 h1 h2 => by rw [mlA_lo (by omega)]; exact hca4 c9 k9 h1 h2) H_mnm c (by decide)) rfl rfl (Nat.le_of_ble_eq_true rfl) (fun h_149 q_149 s_149 => ?_)
          obtain ⟨nms2, H_mnm, hn_149, -, fr_149⟩ := q_149
          have H_md := fr_149.hs H_md (by first | decide | (simp; omega))
          have H_a := fr_149.hs H_a (by first | decide | (simp; omega))
          have H_mcl := fr_149.hs H_mcl (by first | decide | (simp; omega))
          have H_mcw := fr_149.hs H_mcw (by first | decide | (simp; omega))
          have H_mca := fr_149.hs H_mca (by first | decide | (simp; omega))
          have H_mor := fr_149.hs H_mor (by first | decide | (simp; omega))
          have H_mva := fr_149.hs H_mva (by first | decide | (simp; omega))
          have H_mpi := fr_149.hs H_mpi (by first | decide | (simp; omega))
          refine e_aloadn d_X11_live_152 rfl ?_
          refine e_get d_X11_live_153 f_X11_72 H_md rfl ?_
          refine e_bipush (v := 8) d_X11_live_156 (by decide) ?_
          refine e_aloadn d_X11_live_158 rfl ?_
          refine e_get d_X11_live_159 f_X11_7 H_md rfl ?_
          refine e_bipush (v := 80) d_X11_live_162 (by decide) ?_
          refine e_iload d_X11_live_164 rfl ?_
          refine e_iadd d_X11_live_166 ?_
          refine e_ialdN (k := 80 + i) d_X11_live_167 H_a (by simp only [fa_lit, nI_add, pk_mul]) (by omega) (by omega) ?_
          rw [mlA_lo (by omega), hhad i c]
          refine e_iastN (k := 8) d_X11_live_168 H_mnm rfl (by omega) (by omega) ?_
          refine e_aloadn d_X11_live_169 rfl ?_
          refine e_get d_X11_live_170 f_X11_72 (H_md.n (by decide)) rfl ?_
          refine e_bipush (v := 9) d_X11_live_173 (by decide) ?_
          refine e_aloadn d_X11_live_175 rfl ?_
          refine e_iloadn d_X11_live_176 rfl ?_
          refine e_iconst (v := 1) d_X11_live_177 (by decide) ?_
          refine e_callVI d_X11_live_178 l_X11_live_123 (H_md.n (by decide)) rfl rfl (s_X11_of (c := T) (d := 1) (H_md.n (by decide)) (H_a.n (by decide)) rfl rfl (by omega)) rfl rfl (Nat.le_of_ble_eq_true rfl) ?_
          rw [mlA_lo (by omega), hage]
          refine e_iastN (k := 9) d_X11_live_181 H_mnm.s rfl (by omega) (by omega) ?_
          refine e_aloadn d_X11_live_182 rfl ?_
          refine e_get d_X11_live_183 f_X11_72 ((H_md.n (by decide)).n (by decide)) rfl ?_
          refine e_bipush (v := 10) d_X11_live_186 (by decide) ?_
          refine e_iload d_X11_live_188 rfl ?_
          refine e_bipush (v := 100) d_X11_live_190 (by decide) ?_
          refine e_irem d_X11_live_192 (by decide) ?_
          rw [show (100 : Int32) = nI 100 from rfl, irem_N2 (by omega) (by decide)]
          refine e_iastN (k := 10) d_X11_live_193 H_mnm.s.s rfl (by omega) (by omega) ?_
          rw [up_up, up_up]
          have H_mnm3 := H_mnm
          generalize hgn : va_up (va_up (va_up nms2 8 (nI (S0 / 2 ^ i % 2))) 9 (nI ag)) 10 (nI (xq seed i % 100)) = nms3
          obtain ⟨hn1, hn8, hn9, hn10⟩ := lf_names hn_149 hgn
          have fr_193 : Fr [85] h_149 (up h_149 85 (aI 11 nms3)) := (Fr.refl _ _).up (by decide)
          have H_mnm9 : Hs (up h_149 85 (aI 11 nms3)) 85 (aI 11 nms3) := H_mnm.s
          generalize hk9 : up h_149 85 (aI 11 nms3) = h_193 at fr_193 H_mnm9
          have H_mnm := H_mnm9
          have H_md := fr_193.hs H_md (by decide)
          have H_a := fr_193.hs H_a (by decide)
          have H_mpi := fr_193.hs H_mpi (by decide)
          have H_mcl := fr_193.hs H_mcl (by decide)
          have H_mcw := fr_193.hs H_mcw (by decide)
          have H_mca := fr_193.hs H_mca (by decide)
          have H_mor := fr_193.hs H_mor (by decide)
          have H_mva := fr_193.hs H_mva (by decide)
          have hT_193 := (hT.fr fr_149 (by decide)).fr fr_193 (by decide)
          refine e_iconst (v := -1) d_X11_live_194 (by decide) ?_
          refine e_istore d_X11_live_195 (by decide) rfl ?_
          refine e_iload d_X11_live_197 rfl ?_
          refine e_if_eq d_X11_live_199 (fun c199 => ?_) (fun c199 => ?_)
          · have hfl : lvF ca S0 ag seed nc kd cd i = true := by rw [lvF, show hasK nc kd 20 = false from Bool.eq_false_iff.mpr (bI_0.mp c199)]; rfl
            have hT_206 := hT_193
            have fr_206 : Fr [86] h_193 h_193 := Fr.refl _ _
            refine e_iload d_X11_live_212 rfl ?_
            refine e_iconst (v := -1) d_X11_live_214 (by decide) ?_
            by_cases hs0 : anyN (fun i => decide (kd i = 16)) nc = false
            · have hsn : s = -1 := h_s.elim (fun q => q.2) (fun q => by obtain ⟨v, hv1, hv2, -⟩ := q; rw [anyN_t hv1 (by simp [hv2])] at hs0; cases hs0)
              have hval : valN (nmL ca S0 ag seed i) nc kd cd = 0 := by rw [valN, fstK, rng_none (anyN_fa hs0)]
              have fr_225 := fr_206
              refine e_icmp_ne d_X11_live_215 (fun z => by first | exact absurd (fun z => z hsn) z | exact absurd z (fun z => z hsn)) (fun _ => ?_)
              refine e_iconst (v := 0) d_X11_live_218 (by decide) ?_
              refine e_gt d_X11_live_219 ?_
              refine e_istore d_X11_live_229 (by decide) rfl ?_
              refine e_iload d_X11_live_231 rfl ?_
              refine e_if_ge d_X11_live_233 (fun _ => ?_) (fun z => by first | exact absurd ((by decide : (0 : Int32) ≤ 0)) z | exact absurd z ((by decide : (0 : Int32) ≤ 0)))
              refine e_bipush (v := 99) d_X11_live_240 (by decide) ?_
              refine e_iload d_X11_live_242 rfl ?_
              refine e_callSI d_X11_live_244 l_X11_live_377 (s_X11_lesser) rfl rfl (Nat.le_of_ble_eq_true rfl) ?_
              have hv : (if (99 : Int32) < 0 then (99 : Int32) else 0) = (lvV ca S0 ag seed nc kd cd) i := by rw [lvV, if_pos hfl, hval]; rfl
              refine e_istore d_X11_live_247 (by decide) rfl ?_
              refine e_iincw (w := 1) d_X11_live_249 rfl (by decide) (by decide) rfl ?_
              refine e_aloadn d_X11_live_252 rfl ?_
              refine e_get d_X11_live_253 f_X11_7 H_md rfl ?_
              refine e_sipush (v := 150) d_X11_live_256 (by decide) ?_
              refine e_bipush (v := 14) d_X11_live_259 (by decide) ?_
              refine e_iloadn d_X11_live_261 rfl ?_
              refine e_imul d_X11_live_262 ?_
              refine e_iadd d_X11_live_263 ?_
              refine e_iload d_X11_live_264 rfl ?_
              refine e_iadd d_X11_live_266 ?_
              refine e_iload d_X11_live_267 rfl ?_
              refine e_iastN (k := 150 + 14 * T + i) d_X11_live_269 H_a (by simp only [fa_lit, nI_add, pk_mul]) (by omega) (by omega) ?_
              refine e_iload d_X11_live_270 rfl ?_
              refine e_sipush (v := 171) d_X11_live_272 (by decide) ?_
              refine e_imul d_X11_live_275 ?_
              refine e_iconst (v := 5) d_X11_live_276 (by decide) ?_
              refine e_iadd d_X11_live_277 ?_
              refine e_sipush (v := 30323) d_X11_live_278 (by decide) ?_
              refine e_irem d_X11_live_281 (by decide) ?_
              refine e_istore d_X11_live_282 (by decide) rfl ?_
              refine e_iincw (w := 1) d_X11_live_284 rfl (by decide) (by decide) rfl ?_
              refine e_gt d_X11_live_287 ?_
              refine e_drop1 9 ?_
              refine e_drop1 10 ?_
              refine ih_134 (i + 1) (by omega) (by omega) _ () () () () _ _ _ ?_ ?_ ?_ ?_ ?_ ?_ ?_
              · exact h_F.trans ((((fr_149.mono (T := [67, 85, 86]) (by decide)).trans (fr_193.mono (by decide))).trans (fr_225.mono (by decide))).up (by decide))
              · exact ⟨_, H_mnm.n (by decide)⟩
              · exact ⟨_, H_mpi.n (by decide)⟩
              · rw [← mlA_succ, ← hv]; exact Hs.s H_a
              · rw [show nI (xq seed i) * 171 + 5 = nI (xq seed i * 171 + 5) from by simp only [fa_lit, nI_add, pk_mul], show (30323 : Int32) = nI 30323 from rfl, irem_N2 (by omega) (by decide)]; rfl
              · rw [h_g, lvC, lvC, sm]
                first
                | (rw [if_pos hfl, nI_1]; done)
                | (rw [if_neg (by rw [hfl]; decide)]; rfl)
              · exact nI_1 i
            · obtain ⟨v9, hv9, hk9, hs8⟩ : ∃ v, v < nc ∧ kd v = 16 ∧ s = mca (10 * tp + v) := h_s.elim (fun q => absurd q.1 hs0) (fun q => q)
              obtain ⟨k1, k2, k3, k4, k5, k6⟩ := hkd v9 hv9
              obtain ⟨st9, hst9, hcm9⟩ := k6 (by omega)
              rw [hst9] at hs8
              subst hs8
              have hcl9 := hcm9.1
              refine e_icmp_ne d_X11_live_215 (fun _ => ?_) (fun z => by first | exact absurd (nI_neg1 (by omega)) z | exact absurd z (nI_neg1 (by omega)))
              refine e_aloadn d_X11_live_222 rfl ?_
              refine e_iload d_X11_live_223 rfl ?_
              refine e_callRVJ d_X11_live_225 l_X11_live_329 H_md rfl rfl (s_X11_tells (nm := nmL ca S0 ag seed i) (τ := false) H_md H_mor H_mva H_mnm H_mpi hcm9 (fun t ht ht2 => nmL_ok hca (by omega) hag hseed hn1 hn8 hn9 hn10 ((hok v9 hv9).2.2.1 (by omega) t ht ht2) ht2) (by have := (hok v9 hv9).2.2.2 (by omega); rwa [show decide (kd v9 ≠ 16) = false from decide_eq_false (fun z => z hk9)] at this)) rfl rfl (Nat.le_of_ble_eq_true rfl) (fun x_225 h_225 q_225 s_225 => ?_)
              obtain ⟨rfl, ⟨pi_225, H_mpi⟩, fr_225⟩ := q_225
              have H_md := fr_225.hs H_md (by first | decide | (simp; omega))
              have H_a := fr_225.hs H_a (by first | decide | (simp; omega))
              have H_mcl := fr_225.hs H_mcl (by first | decide | (simp; omega))
              have H_mcw := fr_225.hs H_mcw (by first | decide | (simp; omega))
              have H_mca := fr_225.hs H_mca (by first | decide | (simp; omega))
              have H_mor := fr_225.hs H_mor (by first | decide | (simp; omega))
              have H_mva := fr_225.hs H_mva (by first | decide | (simp; omega))
              have H_mnm := fr_225.hs H_mnm (by first | decide | (simp; omega))
              have fr_225 := fr_206.trans fr_225
              have hval : valN (nmL ca S0 ag seed i) nc kd cd = evV (nmL ca S0 ag seed i) (cd v9) := by rw [valN, fstK, fst_uq hv9 hk9 (fun j hj hjk => huq j hj v9 hv9 hjk hk9)]
              have hvi := (evV_in (nm := (nmL ca S0 ag seed i)) (τ := false) (fun t ht ht2 => (nmL_ok hca (by omega) hag hseed hn1 hn8 hn9 hn10 ((hok v9 hv9).2.2.1 (by omega) t ht ht2) ht2).2) (by have := (hok v9 hv9).2.2.2 (by omega); rwa [show decide (kd v9 ≠ 16) = false from decide_eq_false (fun z => z hk9)] at this)).2
              refine e_l2i d_X11_live_228 ?_
              rw [Int64.toInt32_ofInt]
              refine e_istore d_X11_live_229 (by decide) rfl ?_
              refine e_iload d_X11_live_231 rfl ?_
              refine e_if_ge d_X11_live_233 (fun c233 => ?_) (fun c233 => ?_)
              · have hnn : ¬ evV (nmL ca S0 ag seed i) (cd v9) < 0 := fun z => absurd ((i32_lt3 (b := 0) (by omega) (by omega)).mpr z) (by first | exact Int32.not_lt.mpr c233 | exact c233)
                refine e_bipush (v := 99) d_X11_live_240 (by decide) ?_
                refine e_iload d_X11_live_242 rfl ?_
                refine e_callSI d_X11_live_244 l_X11_live_377 (s_X11_lesser) rfl rfl (Nat.le_of_ble_eq_true rfl) ?_
                rw [show (99 : Int32) = Int32.ofInt 99 from rfl, ls32 (by omega) (by omega)]
                have hv : Int32.ofInt (mnI 99 (evV (nmL ca S0 ag seed i) (cd v9))) = (lvV ca S0 ag seed nc kd cd) i := by rw [lvV, if_pos hfl, hval]; congr 1; unfold mxI mnI; repeat' split <;> omega
                refine e_istore d_X11_live_247 (by decide) rfl ?_
                refine e_iincw (w := 1) d_X11_live_249 rfl (by decide) (by decide) rfl ?_
                refine e_aloadn d_X11_live_252 rfl ?_
                refine e_get d_X11_live_253 f_X11_7 H_md rfl ?_
                refine e_sipush (v := 150) d_X11_live_256 (by decide) ?_
                refine e_bipush (v := 14) d_X11_live_259 (by decide) ?_
                refine e_iloadn d_X11_live_261 rfl ?_
                refine e_imul d_X11_live_262 ?_
                refine e_iadd d_X11_live_263 ?_
                refine e_iload d_X11_live_264 rfl ?_
                refine e_iadd d_X11_live_266 ?_
                refine e_iload d_X11_live_267 rfl ?_
                refine e_iastN (k := 150 + 14 * T + i) d_X11_live_269 H_a (by simp only [fa_lit, nI_add, pk_mul]) (by omega) (by omega) ?_
                refine e_iload d_X11_live_270 rfl ?_
                refine e_sipush (v := 171) d_X11_live_272 (by decide) ?_
                refine e_imul d_X11_live_275 ?_
                refine e_iconst (v := 5) d_X11_live_276 (by decide) ?_
                refine e_iadd d_X11_live_277 ?_
                refine e_sipush (v := 30323) d_X11_live_278 (by decide) ?_
                refine e_irem d_X11_live_281 (by decide) ?_
                refine e_istore d_X11_live_282 (by decide) rfl ?_
                refine e_iincw (w := 1) d_X11_live_284 rfl (by decide) (by decide) rfl ?_
                refine e_gt d_X11_live_287 ?_
                refine e_drop1 9 ?_
                refine e_drop1 10 ?_
                refine ih_134 (i + 1) (by omega) (by omega) _ () () () () _ _ _ ?_ ?_ ?_ ?_ ?_ ?_ ?_
                · exact h_F.trans ((((fr_149.mono (T := [67, 85, 86]) (by decide)).trans (fr_193.mono (by decide))).trans (fr_225.mono (by decide))).up (by decide))
                · exact ⟨_, H_mnm.n (by decide)⟩
                · exact ⟨_, H_mpi.n (by decide)⟩
                · rw [← mlA_succ, ← hv]; exact Hs.s H_a
                · rw [show nI (xq seed i) * 171 + 5 = nI (xq seed i * 171 + 5) from by simp only [fa_lit, nI_add, pk_mul], show (30323 : Int32) = nI 30323 from rfl, irem_N2 (by omega) (by decide)]; rfl
                · rw [h_g, lvC, lvC, sm]
                  first
                  | (rw [if_pos hfl, nI_1]; done)
                  | (rw [if_neg (by rw [hfl]; decide)]; rfl)
                · exact nI_1 i
              · have hnn : evV (nmL ca S0 ag seed i) (cd v9) < 0 := (i32_lt3 (b := 0) (by omega) (by omega)).mp (by first | exact Int32.not_le.mp c233 | exact c233)
                have hm0 : mxI 0 (mnI (evV (nmL ca S0 ag seed i) (cd v9)) 99) = 0 := by
                  unfold mxI mnI
                  repeat' split
                  all_goals omega
                have hv : (0 : Int32) = (lvV ca S0 ag seed nc kd cd) i := by rw [lvV, if_pos hfl, hval, hm0]; rfl
                refine e_iconst (v := 0) d_X11_live_236 (by decide) ?_
                refine e_gt d_X11_live_237 ?_
                refine e_istore d_X11_live_247 (by decide) rfl ?_
                refine e_iincw (w := 1) d_X11_live_249 rfl (by decide) (by decide) rfl ?_
                refine e_aloadn d_X11_live_252 rfl ?_
                refine e_get d_X11_live_253 f_X11_7 H_md rfl ?_
                refine e_sipush (v := 150) d_X11_live_256 (by decide) ?_
                refine e_bipush (v := 14) d_X11_live_259 (by decide) ?_
                refine e_iloadn d_X11_live_261 rfl ?_
                refine e_imul d_X11_live_262 ?_
                refine e_iadd d_X11_live_263 ?_
                refine e_iload d_X11_live_264 rfl ?_
                refine e_iadd d_X11_live_266 ?_
                refine e_iload d_X11_live_267 rfl ?_
                refine e_iastN (k := 150 + 14 * T + i) d_X11_live_269 H_a (by simp only [fa_lit, nI_add, pk_mul]) (by omega) (by omega) ?_
                refine e_iload d_X11_live_270 rfl ?_
                refine e_sipush (v := 171) d_X11_live_272 (by decide) ?_
                refine e_imul d_X11_live_275 ?_
                refine e_iconst (v := 5) d_X11_live_276 (by decide) ?_
                refine e_iadd d_X11_live_277 ?_
                refine e_sipush (v := 30323) d_X11_live_278 (by decide) ?_
                refine e_irem d_X11_live_281 (by decide) ?_
                refine e_istore d_X11_live_282 (by decide) rfl ?_
                refine e_iincw (w := 1) d_X11_live_284 rfl (by decide) (by decide) rfl ?_
                refine e_gt d_X11_live_287 ?_
                refine e_drop1 9 ?_
                refine e_drop1 10 ?_
                refine ih_134 (i + 1) (by omega) (by omega) _ () () () () _ _ _ ?_ ?_ ?_ ?_ ?_ ?_ ?_
                · exact h_F.trans ((((fr_149.mono (T := [67, 85, 86]) (by decide)).trans (fr_193.mono (by decide))).trans (fr_225.mono (by decide))).up (by decide))
                · exact ⟨_, H_mnm.n (by decide)⟩
                · exact ⟨_, H_mpi.n (by decide)⟩
                · rw [← mlA_succ, ← hv]; exact Hs.s H_a
                · rw [show nI (xq seed i) * 171 + 5 = nI (xq seed i * 171 + 5) from by simp only [fa_lit, nI_add, pk_mul], show (30323 : Int32) = nI 30323 from rfl, irem_N2 (by omega) (by decide)]; rfl
                · rw [h_g, lvC, lvC, sm]
                  first
                  | (rw [if_pos hfl, nI_1]; done)
                  | (rw [if_neg (by rw [hfl]; decide)]; rfl)
                · exact nI_1 i
          · have hhas : hasK nc kd 20 = true := bI_1.mp (bI_z.resolve_left c199)
            refine e_aloadn d_X11_live_202 rfl ?_
            refine e_iloadn d_X11_live_203 rfl ?_
            refine e_bipush (v := 6) d_X11_live_204 (by decide) ?_
            refine e_callRVI d_X11_live_206 l_X11_live_336 H_md rfl rfl (s_X11_isSome (kk := 20) (nm := nmL ca S0 ag seed i) H_md hT_193 H_mnm H_mpi (by decide) (fun j hj hk => ⟨fun t ht ht2 => nmL_ok hca (by omega) hag hseed hn1 hn8 hn9 hn10 ((hok j hj).2.2.1 (by omega) t ht ht2) ht2, okC_ty (hok j hj) (by omega)⟩)) rfl rfl (Nat.le_of_ble_eq_true rfl) (fun x_206 h_206 q_206 s_206 => ?_)
            obtain ⟨rfl, ⟨pi_206, H_mpi⟩, fr_206⟩ := q_206
            have H_md := fr_206.hs H_md (by first | decide | (simp; omega))
            have H_a := fr_206.hs H_a (by first | decide | (simp; omega))
            have H_mcl := fr_206.hs H_mcl (by first | decide | (simp; omega))
            have H_mcw := fr_206.hs H_mcw (by first | decide | (simp; omega))
            have H_mca := fr_206.hs H_mca (by first | decide | (simp; omega))
            have H_mor := fr_206.hs H_mor (by first | decide | (simp; omega))
            have H_mva := fr_206.hs H_mva (by first | decide | (simp; omega))
            have H_mnm := fr_206.hs H_mnm (by first | decide | (simp; omega))
            have hT_206 := hT_193.fr fr_206 (by decide)
            refine e_if_eq d_X11_live_209 (fun c209 => ?_) (fun c209 => ?_)
            · have hfl : lvF ca S0 ag seed nc kd cd i = false := by rw [lvF, hhas, Bool.eq_false_iff.mpr (bI_0.mp c209)]; rfl
              have hv : (-1 : Int32) = (lvV ca S0 ag seed nc kd cd) i := by rw [lvV, if_neg (by rw [hfl]; decide)]
              have fr_225 := fr_206
              refine e_aloadn d_X11_live_252 rfl ?_
              refine e_get d_X11_live_253 f_X11_7 H_md rfl ?_
              refine e_sipush (v := 150) d_X11_live_256 (by decide) ?_
              refine e_bipush (v := 14) d_X11_live_259 (by decide) ?_
              refine e_iloadn d_X11_live_261 rfl ?_
              refine e_imul d_X11_live_262 ?_
              refine e_iadd d_X11_live_263 ?_
              refine e_iload d_X11_live_264 rfl ?_
              refine e_iadd d_X11_live_266 ?_
              refine e_iload d_X11_live_267 rfl ?_
              refine e_iastN (k := 150 + 14 * T + i) d_X11_live_269 H_a (by simp only [fa_lit, nI_add, pk_mul]) (by omega) (by omega) ?_
              refine e_iload d_X11_live_270 rfl ?_
              refine e_sipush (v := 171) d_X11_live_272 (by decide) ?_
              refine e_imul d_X11_live_275 ?_
              refine e_iconst (v := 5) d_X11_live_276 (by decide) ?_
              refine e_iadd d_X11_live_277 ?_
              refine e_sipush (v := 30323) d_X11_live_278 (by decide) ?_
              refine e_irem d_X11_live_281 (by decide) ?_
              refine e_istore d_X11_live_282 (by decide) rfl ?_
              refine e_iincw (w := 1) d_X11_live_284 rfl (by decide) (by decide) rfl ?_
              refine e_gt d_X11_live_287 ?_
              refine e_drop1 9 ?_
              refine ih_134 (i + 1) (by omega) (by omega) _ () () () () _ _ _ ?_ ?_ ?_ ?_ ?_ ?_ ?_
              · exact h_F.trans ((((fr_149.mono (T := [67, 85, 86]) (by decide)).trans (fr_193.mono (by decide))).trans (fr_225.mono (by decide))).up (by decide))
              · exact ⟨_, H_mnm.n (by decide)⟩
              · exact ⟨_, H_mpi.n (by decide)⟩
              · rw [← mlA_succ, ← hv]; exact Hs.s H_a
              · rw [show nI (xq seed i) * 171 + 5 = nI (xq seed i * 171 + 5) from by simp only [fa_lit, nI_add, pk_mul], show (30323 : Int32) = nI 30323 from rfl, irem_N2 (by omega) (by decide)]; rfl
              · rw [h_g, lvC, lvC, sm]
                first
                | (rw [if_pos hfl, nI_1]; done)
                | (rw [if_neg (by rw [hfl]; decide)]; rfl)
              · exact nI_1 i
            · have hfl : lvF ca S0 ag seed nc kd cd i = true := by rw [lvF, bI_1.mp (bI_z.resolve_left c209), Bool.or_true]
              refine e_iload d_X11_live_212 rfl ?_
              refine e_iconst (v := -1) d_X11_live_214 (by decide) ?_
              by_cases hs0 : anyN (fun i => decide (kd i = 16)) nc = false
              · have hsn : s = -1 := h_s.elim (fun q => q.2) (fun q => by obtain ⟨v, hv1, hv2, -⟩ := q; rw [anyN_t hv1 (by simp [hv2])] at hs0; cases hs0)
                have hval : valN (nmL ca S0 ag seed i) nc kd cd = 0 := by rw [valN, fstK, rng_none (anyN_fa hs0)]
                have fr_225 := fr_206
                refine e_icmp_ne d_X11_live_215 (fun z => by first | exact absurd (fun z => z hsn) z | exact absurd z (fun z => z hsn)) (fun _ => ?_)
                refine e_iconst (v := 0) d_X11_live_218 (by decide) ?_
                refine e_gt d_X11_live_219 ?_
                refine e_istore d_X11_live_229 (by decide) rfl ?_
                refine e_iload d_X11_live_231 rfl ?_
                refine e_if_ge d_X11_live_233 (fun _ => ?_) (fun z => by first | exact absurd ((by decide : (0 : Int32) ≤ 0)) z | exact absurd z ((by decide : (0 : Int32) ≤ 0)))
                refine e_bipush (v := 99) d_X11_live_240 (by decide) ?_
                refine e_iload d_X11_live_242 rfl ?_
                refine e_callSI d_X11_live_244 l_X11_live_377 (s_X11_lesser) rfl rfl (Nat.le_of_ble_eq_true rfl) ?_
                have hv : (if (99 : Int32) < 0 then (99 : Int32) else 0) = (lvV ca S0 ag seed nc kd cd) i := by rw [lvV, if_pos hfl, hval]; rfl
                refine e_istore d_X11_live_247 (by decide) rfl ?_
                refine e_iincw (w := 1) d_X11_live_249 rfl (by decide) (by decide) rfl ?_
                refine e_aloadn d_X11_live_252 rfl ?_
                refine e_get d_X11_live_253 f_X11_7 H_md rfl ?_
                refine e_sipush (v := 150) d_X11_live_256 (by decide) ?_
                refine e_bipush (v := 14) d_X11_live_259 (by decide) ?_
                refine e_iloadn d_X11_live_261 rfl ?_
                refine e_imul d_X11_live_262 ?_
                refine e_iadd d_X11_live_263 ?_
                refine e_iload d_X11_live_264 rfl ?_
                refine e_iadd d_X11_live_266 ?_
                refine e_iload d_X11_live_267 rfl ?_
                refine e_iastN (k := 150 + 14 * T + i) d_X11_live_269 H_a (by simp only [fa_lit, nI_add, pk_mul]) (by omega) (by omega) ?_
                refine e_iload d_X11_live_270 rfl ?_
                refine e_sipush (v := 171) d_X11_live_272 (by decide) ?_
                refine e_imul d_X11_live_275 ?_
                refine e_iconst (v := 5) d_X11_live_276 (by decide) ?_
                refine e_iadd d_X11_live_277 ?_
                refine e_sipush (v := 30323) d_X11_live_278 (by decide) ?_
                refine e_irem d_X11_live_281 (by decide) ?_
                refine e_istore d_X11_live_282 (by decide) rfl ?_
                refine e_iincw (w := 1) d_X11_live_284 rfl (by decide) (by decide) rfl ?_
                refine e_gt d_X11_live_287 ?_
                refine e_drop1 9 ?_
                refine e_drop1 10 ?_
                refine ih_134 (i + 1) (by omega) (by omega) _ () () () () _ _ _ ?_ ?_ ?_ ?_ ?_ ?_ ?_
                · exact h_F.trans ((((fr_149.mono (T := [67, 85, 86]) (by decide)).trans (fr_193.mono (by decide))).trans (fr_225.mono (by decide))).up (by decide))
                · exact ⟨_, H_mnm.n (by decide)⟩
                · exact ⟨_, H_mpi.n (by decide)⟩
                · rw [← mlA_succ, ← hv]; exact Hs.s H_a
                · rw [show nI (xq seed i) * 171 + 5 = nI (xq seed i * 171 + 5) from by simp only [fa_lit, nI_add, pk_mul], show (30323 : Int32) = nI 30323 from rfl, irem_N2 (by omega) (by decide)]; rfl
                · rw [h_g, lvC, lvC, sm]
                  first
                  | (rw [if_pos hfl, nI_1]; done)
                  | (rw [if_neg (by rw [hfl]; decide)]; rfl)
                · exact nI_1 i
              · obtain ⟨v9, hv9, hk9, hs8⟩ : ∃ v, v < nc ∧ kd v = 16 ∧ s = mca (10 * tp + v) := h_s.elim (fun q => absurd q.1 hs0) (fun q => q)
                obtain ⟨k1, k2, k3, k4, k5, k6⟩ := hkd v9 hv9
                obtain ⟨st9, hst9, hcm9⟩ := k6 (by omega)
                rw [hst9] at hs8
                subst hs8
                have hcl9 := hcm9.1
                refine e_icmp_ne d_X11_live_215 (fun _ => ?_) (fun z => by first | exact absurd (nI_neg1 (by omega)) z | exact absurd z (nI_neg1 (by omega)))
                refine e_aloadn d_X11_live_222 rfl ?_
                refine e_iload d_X11_live_223 rfl ?_
                refine e_callRVJ d_X11_live_225 l_X11_live_329 H_md rfl rfl (s_X11_tells (nm := nmL ca S0 ag seed i) (τ := false) H_md H_mor H_mva H_mnm H_mpi hcm9 (fun t ht ht2 => nmL_ok hca (by omega) hag hseed hn1 hn8 hn9 hn10 ((hok v9 hv9).2.2.1 (by omega) t ht ht2) ht2) (by have := (hok v9 hv9).2.2.2 (by omega); rwa [show decide (kd v9 ≠ 16) = false from decide_eq_false (fun z => z hk9)] at this)) rfl rfl (Nat.le_of_ble_eq_true rfl) (fun x_225 h_225 q_225 s_225 => ?_)
                obtain ⟨rfl, ⟨pi_225, H_mpi⟩, fr_225⟩ := q_225
                have H_md := fr_225.hs H_md (by first | decide | (simp; omega))
                have H_a := fr_225.hs H_a (by first | decide | (simp; omega))
                have H_mcl := fr_225.hs H_mcl (by first | decide | (simp; omega))
                have H_mcw := fr_225.hs H_mcw (by first | decide | (simp; omega))
                have H_mca := fr_225.hs H_mca (by first | decide | (simp; omega))
                have H_mor := fr_225.hs H_mor (by first | decide | (simp; omega))
                have H_mva := fr_225.hs H_mva (by first | decide | (simp; omega))
                have H_mnm := fr_225.hs H_mnm (by first | decide | (simp; omega))
                have fr_225 := fr_206.trans fr_225
                have hval : valN (nmL ca S0 ag seed i) nc kd cd = evV (nmL ca S0 ag seed i) (cd v9) := by rw [valN, fstK, fst_uq hv9 hk9 (fun j hj hjk => huq j hj v9 hv9 hjk hk9)]
                have hvi := (evV_in (nm := (nmL ca S0 ag seed i)) (τ := false) (fun t ht ht2 => (nmL_ok hca (by omega) hag hseed hn1 hn8 hn9 hn10 ((hok v9 hv9).2.2.1 (by omega) t ht ht2) ht2).2) (by have := (hok v9 hv9).2.2.2 (by omega); rwa [show decide (kd v9 ≠ 16) = false from decide_eq_false (fun z => z hk9)] at this)).2
                refine e_l2i d_X11_live_228 ?_
                rw [Int64.toInt32_ofInt]
                refine e_istore d_X11_live_229 (by decide) rfl ?_
                refine e_iload d_X11_live_231 rfl ?_
                refine e_if_ge d_X11_live_233 (fun c233 => ?_) (fun c233 => ?_)
                · have hnn : ¬ evV (nmL ca S0 ag seed i) (cd v9) < 0 := fun z => absurd ((i32_lt3 (b := 0) (by omega) (by omega)).mpr z) (by first | exact Int32.not_lt.mpr c233 | exact c233)
                  refine e_bipush (v := 99) d_X11_live_240 (by decide) ?_
                  refine e_iload d_X11_live_242 rfl ?_
                  refine e_callSI d_X11_live_244 l_X11_live_377 (s_X11_lesser) rfl rfl (Nat.le_of_ble_eq_true rfl) ?_
                  rw [show (99 : Int32) = Int32.ofInt 99 from rfl, ls32 (by omega) (by omega)]
                  have hv : Int32.ofInt (mnI 99 (evV (nmL ca S0 ag seed i) (cd v9))) = (lvV ca S0 ag seed nc kd cd) i := by rw [lvV, if_pos hfl, hval]; congr 1; unfold mxI mnI; repeat' split <;> omega
                  refine e_istore d_X11_live_247 (by decide) rfl ?_
                  refine e_iincw (w := 1) d_X11_live_249 rfl (by decide) (by decide) rfl ?_
                  refine e_aloadn d_X11_live_252 rfl ?_
                  refine e_get d_X11_live_253 f_X11_7 H_md rfl ?_
                  refine e_sipush (v := 150) d_X11_live_256 (by decide) ?_
                  refine e_bipush (v := 14) d_X11_live_259 (by decide) ?_
                  refine e_iloadn d_X11_live_261 rfl ?_
                  refine e_imul d_X11_live_262 ?_
                  refine e_iadd d_X11_live_263 ?_
                  refine e_iload d_X11_live_264 rfl ?_
                  refine e_iadd d_X11_live_266 ?_
                  refine e_iload d_X11_live_267 rfl ?_
                  refine e_iastN (k := 150 + 14 * T + i) d_X11_live_269 H_a (by simp only [fa_lit, nI_add, pk_mul]) (by omega) (by omega) ?_
                  refine e_iload d_X11_live_270 rfl ?_
                  refine e_sipush (v := 171) d_X11_live_272 (by decide) ?_
                  refine e_imul d_X11_live_275 ?_
                  refine e_iconst (v := 5) d_X11_live_276 (by decide) ?_
                  refine e_iadd d_X11_live_277 ?_
                  refine e_sipush (v := 30323) d_X11_live_278 (by decide) ?_
                  refine e_irem d_X11_live_281 (by decide) ?_
                  refine e_istore d_X11_live_282 (by decide) rfl ?_
                  refine e_iincw (w := 1) d_X11_live_284 rfl (by decide) (by decide) rfl ?_
                  refine e_gt d_X11_live_287 ?_
                  refine e_drop1 9 ?_
                  refine e_drop1 10 ?_
                  refine ih_134 (i + 1) (by omega) (by omega) _ () () () () _ _ _ ?_ ?_ ?_ ?_ ?_ ?_ ?_
                  · exact h_F.trans ((((fr_149.mono (T := [67, 85, 86]) (by decide)).trans (fr_193.mono (by decide))).trans (fr_225.mono (by decide))).up (by decide))
                  · exact ⟨_, H_mnm.n (by decide)⟩
                  · exact ⟨_, H_mpi.n (by decide)⟩
                  · rw [← mlA_succ, ← hv]; exact Hs.s H_a
                  · rw [show nI (xq seed i) * 171 + 5 = nI (xq seed i * 171 + 5) from by simp only [fa_lit, nI_add, pk_mul], show (30323 : Int32) = nI 30323 from rfl, irem_N2 (by omega) (by decide)]; rfl
                  · rw [h_g, lvC, lvC, sm]
                    first
                    | (rw [if_pos hfl, nI_1]; done)
                    | (rw [if_neg (by rw [hfl]; decide)]; rfl)
                  · exact nI_1 i
                · have hnn : evV (nmL ca S0 ag seed i) (cd v9) < 0 := (i32_lt3 (b := 0) (by omega) (by omega)).mp (by first | exact Int32.not_le.mp c233 | exact c233)
                  have hm0 : mxI 0 (mnI (evV (nmL ca S0 ag seed i) (cd v9)) 99) = 0 := by
                    unfold mxI mnI
                    repeat' split
                    all_goals omega
                  have hv : (0 : Int32) = (lvV ca S0 ag seed nc kd cd) i := by rw [lvV, if_pos hfl, hval, hm0]; rfl
                  refine e_iconst (v := 0) d_X11_live_236 (by decide) ?_
                  refine e_gt d_X11_live_237 ?_
                  refine e_istore d_X11_live_247 (by decide) rfl ?_
                  refine e_iincw (w := 1) d_X11_live_249 rfl (by decide) (by decide) rfl ?_
                  refine e_aloadn d_X11_live_252 rfl ?_
                  refine e_get d_X11_live_253 f_X11_7 H_md rfl ?_
                  refine e_sipush (v := 150) d_X11_live_256 (by decide) ?_
                  refine e_bipush (v := 14) d_X11_live_259 (by decide) ?_
                  refine e_iloadn d_X11_live_261 rfl ?_
                  refine e_imul d_X11_live_262 ?_
                  refine e_iadd d_X11_live_263 ?_
                  refine e_iload d_X11_live_264 rfl ?_
                  refine e_iadd d_X11_live_266 ?_
                  refine e_iload d_X11_live_267 rfl ?_
                  refine e_iastN (k := 150 + 14 * T + i) d_X11_live_269 H_a (by simp only [fa_lit, nI_add, pk_mul]) (by omega) (by omega) ?_
                  refine e_iload d_X11_live_270 rfl ?_
                  refine e_sipush (v := 171) d_X11_live_272 (by decide) ?_
                  refine e_imul d_X11_live_275 ?_
                  refine e_iconst (v := 5) d_X11_live_276 (by decide) ?_
                  refine e_iadd d_X11_live_277 ?_
                  refine e_sipush (v := 30323) d_X11_live_278 (by decide) ?_
                  refine e_irem d_X11_live_281 (by decide) ?_
                  refine e_istore d_X11_live_282 (by decide) rfl ?_
                  refine e_iincw (w := 1) d_X11_live_284 rfl (by decide) (by decide) rfl ?_
                  refine e_gt d_X11_live_287 ?_
                  refine e_drop1 9 ?_
                  refine e_drop1 10 ?_
                  refine ih_134 (i + 1) (by omega) (by omega) _ () () () () _ _ _ ?_ ?_ ?_ ?_ ?_ ?_ ?_
                  · exact h_F.trans ((((fr_149.mono (T := [67, 85, 86]) (by decide)).trans (fr_193.mono (by decide))).trans (fr_225.mono (by decide))).up (by decide))
                  · exact ⟨_, H_mnm.n (by decide)⟩
                  · exact ⟨_, H_mpi.n (by decide)⟩
                  · rw [← mlA_succ, ← hv]; exact Hs.s H_a
                  · rw [show nI (xq seed i) * 171 + 5 = nI (xq seed i * 171 + 5) from by simp only [fa_lit, nI_add, pk_mul], show (30323 : Int32) = nI 30323 from rfl, irem_N2 (by omega) (by decide)]; rfl
                  · rw [h_g, lvC, lvC, sm]
                    first
                    | (rw [if_pos hfl, nI_1]; done)
                    | (rw [if_neg (by rw [hfl]; decide)]; rfl)
                  · exact nI_1 i
      exact hA_134 0 (by omega) _ () () () () _ _ _ (Fr.refl _ _) (⟨_, H_mnm⟩) (⟨_, H_mpi⟩) (by rw [mlA_0]; exact H_a) (rfl) (rfl) (rfl)
    · have c := i_nle (by omega) (by omega) c
      refine e_iload d_X11_live_49 rfl ?_
      refine e_if_ne d_X11_live_51 (fun c51 => ?_) (fun c51 => ?_)
      · have hb9 : anyN (fun i => decide (kd i = 20)) i = true := bI_1.mp (bI_z.resolve_left c51)
        have hb : anyN (fun i => decide (kd i = 20)) (i + 1) = true := by rw [anyN, hb9]; rfl
        obtain ⟨k1, k2, k3, k4, k5, k6⟩ := hkd i c
        refine e_iconst (v := 1) d_X11_live_71 (by decide) ?_
        refine e_gt d_X11_live_72 ?_
        refine e_istore d_X11_live_76 (by decide) rfl ?_
        refine e_aloadn d_X11_live_78 rfl ?_
        refine e_get d_X11_live_79 f_X11_30 H_md rfl ?_
        refine e_bipush (v := 10) d_X11_live_82 (by decide) ?_
        refine e_iloadn d_X11_live_84 rfl ?_
        refine e_imul d_X11_live_85 ?_
        refine e_iload d_X11_live_86 rfl ?_
        refine e_iadd d_X11_live_88 ?_
        refine e_ialdN (k := 10 * tp + i) d_X11_live_89 H_mcw (by simp only [fa_lit, nI_add, pk_mul]) (by omega) (by omega) ?_
        rw [k3]
        refine e_iconst (v := 2) d_X11_live_90 (by decide) ?_
        refine e_icmp_ne d_X11_live_91 (fun c91 => ?_) (fun c91 => ?_)
        · have hk16 : ¬ kd i = 16 := fun z => c91 (by rw [z]; rfl)
          refine e_iload d_X11_live_109 rfl ?_
          refine e_istore d_X11_live_111 (by decide) rfl ?_
          refine e_iincw (w := 1) d_X11_live_113 rfl (by decide) (by decide) rfl ?_
          refine e_gt d_X11_live_116 ?_
          refine ih_38 (i + 1) (by omega) (by omega) _ _ _ ?_ ?_ ?_
          · first | (rw [bI_t hb]; done) | rw [bI_f (by rw [hb]; decide)]
          · first | exact Or.inr ⟨i, by omega, hk16, rfl⟩ | exact h_s.elim (fun q => Or.inl ⟨by rw [anyN, q.1]; simp [hk16], q.2⟩) (fun q => Or.inr (q.elim fun v z => ⟨v, by omega, z.2⟩))
          · exact nI_1 i
        · have hk16 : kd i = 16 := by
            have := (nI_eq (b := 2) (by omega) (by decide)).mp c91
            omega
          refine e_aloadn d_X11_live_94 rfl ?_
          refine e_get d_X11_live_95 f_X11_36 H_md rfl ?_
          refine e_bipush (v := 10) d_X11_live_98 (by decide) ?_
          refine e_iloadn d_X11_live_100 rfl ?_
          refine e_imul d_X11_live_101 ?_
          refine e_iload d_X11_live_102 rfl ?_
          refine e_iadd d_X11_live_104 ?_
          refine e_ialdN (k := 10 * tp + i) d_X11_live_105 H_mca (by simp only [fa_lit, nI_add, pk_mul]) (by omega) (by omega) ?_
          refine e_gt d_X11_live_106 ?_
          refine e_istore d_X11_live_111 (by decide) rfl ?_
          refine e_iincw (w := 1) d_X11_live_113 rfl (by decide) (by decide) rfl ?_
          refine e_gt d_X11_live_116 ?_
          refine ih_38 (i + 1) (by omega) (by omega) _ _ _ ?_ ?_ ?_
          · first | (rw [bI_t hb]; done) | rw [bI_f (by rw [hb]; decide)]
          · first | exact Or.inr ⟨i, by omega, hk16, rfl⟩ | exact h_s.elim (fun q => Or.inl ⟨by rw [anyN, q.1]; simp [hk16], q.2⟩) (fun q => Or.inr (q.elim fun v z => ⟨v, by omega, z.2⟩))
          · exact nI_1 i
      · have hb9 : anyN (fun i => decide (kd i = 20)) i = false := Bool.eq_false_iff.mpr (bI_0.mp c51)
        obtain ⟨k1, k2, k3, k4, k5, k6⟩ := hkd i c
        refine e_aloadn d_X11_live_54 rfl ?_
        refine e_get d_X11_live_55 f_X11_30 H_md rfl ?_
        refine e_bipush (v := 10) d_X11_live_58 (by decide) ?_
        refine e_iloadn d_X11_live_60 rfl ?_
        refine e_imul d_X11_live_61 ?_
        refine e_iload d_X11_live_62 rfl ?_
        refine e_iadd d_X11_live_64 ?_
        refine e_ialdN (k := 10 * tp + i) d_X11_live_65 H_mcw (by simp only [fa_lit, nI_add, pk_mul]) (by omega) (by omega) ?_
        rw [k3]
        refine e_bipush (v := 6) d_X11_live_66 (by decide) ?_
        refine e_icmp_ne d_X11_live_68 (fun c68 => ?_) (fun c68 => ?_)
        · have hke : ¬ kd i = 20 := fun z => c68 (by rw [z]; rfl)
          have hb : anyN (fun i => decide (kd i = 20)) (i + 1) = false := by rw [anyN, hb9]; simp [hke]
          refine e_iconst (v := 0) d_X11_live_75 (by decide) ?_
          refine e_istore d_X11_live_76 (by decide) rfl ?_
          refine e_aloadn d_X11_live_78 rfl ?_
          refine e_get d_X11_live_79 f_X11_30 H_md rfl ?_
          refine e_bipush (v := 10) d_X11_live_82 (by decide) ?_
          refine e_iloadn d_X11_live_84 rfl ?_
          refine e_imul d_X11_live_85 ?_
          refine e_iload d_X11_live_86 rfl ?_
          refine e_iadd d_X11_live_88 ?_
          refine e_ialdN (k := 10 * tp + i) d_X11_live_89 H_mcw (by simp only [fa_lit, nI_add, pk_mul]) (by omega) (by omega) ?_
          rw [k3]
          refine e_iconst (v := 2) d_X11_live_90 (by decide) ?_
          refine e_icmp_ne d_X11_live_91 (fun c91 => ?_) (fun c91 => ?_)
          · have hk16 : ¬ kd i = 16 := fun z => c91 (by rw [z]; rfl)
            refine e_iload d_X11_live_109 rfl ?_
            refine e_istore d_X11_live_111 (by decide) rfl ?_
            refine e_iincw (w := 1) d_X11_live_113 rfl (by decide) (by decide) rfl ?_
            refine e_gt d_X11_live_116 ?_
            refine ih_38 (i + 1) (by omega) (by omega) _ _ _ ?_ ?_ ?_
            · first | (rw [bI_t hb]; done) | rw [bI_f (by rw [hb]; decide)]
            · first | exact Or.inr ⟨i, by omega, hk16, rfl⟩ | exact h_s.elim (fun q => Or.inl ⟨by rw [anyN, q.1]; simp [hk16], q.2⟩) (fun q => Or.inr (q.elim fun v z => ⟨v, by omega, z.2⟩))
            · exact nI_1 i
          · have hk16 : kd i = 16 := by
              have := (nI_eq (b := 2) (by omega) (by decide)).mp c91
              omega
            refine e_aloadn d_X11_live_94 rfl ?_
            refine e_get d_X11_live_95 f_X11_36 H_md rfl ?_
            refine e_bipush (v := 10) d_X11_live_98 (by decide) ?_
            refine e_iloadn d_X11_live_100 rfl ?_
            refine e_imul d_X11_live_101 ?_
            refine e_iload d_X11_live_102 rfl ?_
            refine e_iadd d_X11_live_104 ?_
            refine e_ialdN (k := 10 * tp + i) d_X11_live_105 H_mca (by simp only [fa_lit, nI_add, pk_mul]) (by omega) (by omega) ?_
            refine e_gt d_X11_live_106 ?_
            refine e_istore d_X11_live_111 (by decide) rfl ?_
            refine e_iincw (w := 1) d_X11_live_113 rfl (by decide) (by decide) rfl ?_
            refine e_gt d_X11_live_116 ?_
            refine ih_38 (i + 1) (by omega) (by omega) _ _ _ ?_ ?_ ?_
            · first | (rw [bI_t hb]; done) | rw [bI_f (by rw [hb]; decide)]
            · first | exact Or.inr ⟨i, by omega, hk16, rfl⟩ | exact h_s.elim (fun q => Or.inl ⟨by rw [anyN, q.1]; simp [hk16], q.2⟩) (fun q => Or.inr (q.elim fun v z => ⟨v, by omega, z.2⟩))
            · exact nI_1 i
        · have hke : kd i = 20 := by
            have := (nI_eq (b := 6) (by omega) (by decide)).mp c68
            omega
          have hb : anyN (fun i => decide (kd i = 20)) (i + 1) = true := by rw [anyN]; simp [hke]
          refine e_iconst (v := 1) d_X11_live_71 (by decide) ?_
          refine e_gt d_X11_live_72 ?_
          refine e_istore d_X11_live_76 (by decide) rfl ?_
          refine e_aloadn d_X11_live_78 rfl ?_
          refine e_get d_X11_live_79 f_X11_30 H_md rfl ?_
          refine e_bipush (v := 10) d_X11_live_82 (by decide) ?_
          refine e_iloadn d_X11_live_84 rfl ?_
          refine e_imul d_X11_live_85 ?_
          refine e_iload d_X11_live_86 rfl ?_
          refine e_iadd d_X11_live_88 ?_
          refine e_ialdN (k := 10 * tp + i) d_X11_live_89 H_mcw (by simp only [fa_lit, nI_add, pk_mul]) (by omega) (by omega) ?_
          rw [k3]
          refine e_iconst (v := 2) d_X11_live_90 (by decide) ?_
          refine e_icmp_ne d_X11_live_91 (fun c91 => ?_) (fun c91 => ?_)
          · have hk16 : ¬ kd i = 16 := fun z => c91 (by rw [z]; rfl)
            refine e_iload d_X11_live_109 rfl ?_
            refine e_istore d_X11_live_111 (by decide) rfl ?_
            refine e_iincw (w := 1) d_X11_live_113 rfl (by decide) (by decide) rfl ?_
            refine e_gt d_X11_live_116 ?_
            refine ih_38 (i + 1) (by omega) (by omega) _ _ _ ?_ ?_ ?_
            · first | (rw [bI_t hb]; done) | rw [bI_f (by rw [hb]; decide)]
            · first | exact Or.inr ⟨i, by omega, hk16, rfl⟩ | exact h_s.elim (fun q => Or.inl ⟨by rw [anyN, q.1]; simp [hk16], q.2⟩) (fun q => Or.inr (q.elim fun v z => ⟨v, by omega, z.2⟩))
            · exact nI_1 i
          · have hk16 : kd i = 16 := by
              have := (nI_eq (b := 2) (by omega) (by decide)).mp c91
              omega
            refine e_aloadn d_X11_live_94 rfl ?_
            refine e_get d_X11_live_95 f_X11_36 H_md rfl ?_
            refine e_bipush (v := 10) d_X11_live_98 (by decide) ?_
            refine e_iloadn d_X11_live_100 rfl ?_
            refine e_imul d_X11_live_101 ?_
            refine e_iload d_X11_live_102 rfl ?_
            refine e_iadd d_X11_live_104 ?_
            refine e_ialdN (k := 10 * tp + i) d_X11_live_105 H_mca (by simp only [fa_lit, nI_add, pk_mul]) (by omega) (by omega) ?_
            refine e_gt d_X11_live_106 ?_
            refine e_istore d_X11_live_111 (by decide) rfl ?_
            refine e_iincw (w := 1) d_X11_live_113 rfl (by decide) (by decide) rfl ?_
            refine e_gt d_X11_live_116 ?_
            refine ih_38 (i + 1) (by omega) (by omega) _ _ _ ?_ ?_ ?_
            · first | (rw [bI_t hb]; done) | rw [bI_f (by rw [hb]; decide)]
            · first | exact Or.inr ⟨i, by omega, hk16, rfl⟩ | exact h_s.elim (fun q => Or.inl ⟨by rw [anyN, q.1]; simp [hk16], q.2⟩) (fun q => Or.inr (q.elim fun v z => ⟨v, by omega, z.2⟩))
            · exact nI_1 i
  exact hA_38 0 (by omega) _ _ _ (rfl) (Or.inl ⟨rfl, rfl⟩) (rfl)
