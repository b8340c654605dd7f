/-! THE MODEL: what is told one by one, written -/
def clrC (f : Nat → Int32) (c : Nat) : Nat → (Nat → Int32)
  | 0 => f
  | k + 1 => va_up (clrC f c k) (150 + 14 * k + c) (-1)
def clrT (f : Nat → Int32) (t : Nat) : Nat → (Nat → Int32)
  | 0 => f
  | k + 1 => va_up (clrT f t k) (150 + 14 * t + k) (-1)
theorem clrC_lt {f : Nat → Int32} {c j : Nat} (h : j < 150) : ∀ k, clrC f c k j = f j
  | 0 => rfl
  | k + 1 => by rw [clrC, va_up_ne _ _ (by omega), clrC_lt h k]
theorem clrT_lt {f : Nat → Int32} {t j : Nat} (h : j < 150) : ∀ k, clrT f t k j = f j
  | 0 => rfl
  | k + 1 => by rw [clrT, va_up_ne _ _ (by omega), clrT_lt h k]
def childA (a : Nat → Int32) (n : Nat) (s w hh k c : Int32) : Nat → Int32 := va_up (va_up (va_up (va_up (va_up (va_up a (10 + 5 * n) s) (10 + 5 * n + 1) w) (10 + 5 * n + 2) hh) (10 + 5 * n + 3) k) (10 + 5 * n + 4) c) (80 + n) c
def thingA (a : Nat → Int32) (n : Nat) (k g l p : Int32) : Nat → Int32 := va_up (va_up (va_up (va_up a (100 + 4 * n) k) (100 + 4 * n + 1) g) (100 + 4 * n + 2) l) (100 + 4 * n + 3) p
theorem childA_0 {a : Nat → Int32} {n : Nat} {s w hh k c : Int32} {j : Nat} (hj : j < 10) : childA a n s w hh k c j = a j := by
  simp only [childA]
  rw [va_up_ne _ _ (by omega), va_up_ne _ _ (by omega), va_up_ne _ _ (by omega), va_up_ne _ _ (by omega), va_up_ne _ _ (by omega), va_up_ne _ _ (by omega)]
theorem thingA_0 {a : Nat → Int32} {n : Nat} {k g l p : Int32} {j : Nat} (hj : j < 100) : thingA a n k g l p j = a j := by
  simp only [thingA]
  rw [va_up_ne _ _ (by omega), va_up_ne _ _ (by omega), va_up_ne _ _ (by omega), va_up_ne _ _ (by omega)]

theorem s_X11_child {h : AH} {mtp mfl mfa mln mat mtk mso mto mwr mwp mop mfs mws mst mnc mnk mnr mdn : Int32} {mup mlo mgu mgl : Int64} {a : Nat → Int32} {s w hh k c : Int32} {n : Nat} (H_md : Hs h 66 (oMd mtp mfl mfa mup mlo mln mat mtk mso mto mwr mwp mop mfs mws mst mnc mnk mnr mdn mgu mgl)) (H_a : Hs h 67 (aI 380 a)) (ha0 : a 0 = nI n) (hn : n ≤ 14) : Sp M_X11_child (0, 0) h [.ref 66, .int s, .int w, .int hh, .int k, .int c] (pO (0 ≤ s ∧ s ≤ 1 ∧ 0 ≤ w ∧ w ≤ 99 ∧ 0 ≤ hh ∧ hh ≤ 9 ∧ n < 14) (nI n) (-1) (up h 67 (aI 380 (va_up (clrC (childA a n s w hh (if k = 0 then (0 : Int32) else 1) (if c = 0 then (0 : Int32) else 1)) n 12) 0 (nI (n + 1))))) h) := by
  refine ⟨Nat.le_of_ble_eq_true rfl, ?_⟩
  show E _ _ _ 0 h [some (.ref 66), some (.int s), some (.int w), some (.int hh), some (.int k), some (.int c), none, none, none] []
  have hA : (0 ≤ s ∧ s ≤ 1 ∧ 0 ≤ w ∧ w ≤ 99 ∧ 0 ≤ hh ∧ hh ≤ 9 ∧ n < 14) → ∀ i, i ≤ 12 → ∀ (x : Int32), x = nI i → E M_X11_child (0, 0) (pO (0 ≤ s ∧ s ≤ 1 ∧ 0 ≤ w ∧ w ≤ 99 ∧ 0 ≤ hh ∧ hh ≤ 9 ∧ n < 14) (nI n) (-1) (up h 67 (aI 380 (va_up (clrC (childA a n s w hh (if k = 0 then (0 : Int32) else 1) (if c = 0 then (0 : Int32) else 1)) n 12) 0 (nI (n + 1))))) h) 147 (up h 67 (aI 380 (clrC (childA a n s w hh (if k = 0 then (0 : Int32) else 1) (if c = 0 then (0 : Int32) else 1)) n i))) [some (.ref 66), some (.int s), some (.int w), some (.int hh), some (.int k), some (.int c), some (.int (a 0)), some (.int (10 + 5 * a 0)), some (.int x)] [] := by
    intro hp
    refine loop_ind (n := 12) ?_
    intro i hi ih x h_x
    refine e_iload d_X11_child_147 rfl ?_
    refine e_bipush (v := 12) d_X11_child_149 (by decide) ?_
    refine e_icmp_ge d_X11_child_151 (fun c_e => ?_) (fun c_e => ?_)
    · have c_e := i_le (a := 12) (by decide) (by omega) (h_x ▸ c_e)
      obtain rfl : i = 12 := by omega
      refine e_aloadn d_X11_child_178 rfl ?_
      refine e_get d_X11_child_179 f_X11_7 (H_md.n (by decide)) rfl ?_
      refine e_iconst (v := 0) d_X11_child_182 (by decide) ?_
      refine e_dup2 d_X11_child_183 rfl rfl ?_
      refine e_ialdN (k := 0) d_X11_child_184 H_a.s rfl (by decide) (by decide) ?_
      refine e_iconst (v := 1) d_X11_child_185 (by decide) ?_
      refine e_iadd d_X11_child_186 ?_
      refine e_iastN (k := 0) d_X11_child_187 H_a.s rfl (by decide) (by decide) ?_
      refine e_iload d_X11_child_188 rfl ?_
      exact e_iret d_X11_child_190 rfl (rfl) (Or.inl ⟨hp, by rw [ha0], by rw [up_up, clrC_lt (by decide), childA_0 (by decide), ha0, nI_1]⟩)
    · have c_e := i_nle (a := 12) (by decide) (by omega) (h_x ▸ c_e)
      refine e_aloadn d_X11_child_154 rfl ?_
      refine e_get d_X11_child_155 f_X11_7 (H_md.n (by decide)) rfl ?_
      refine e_sipush (v := 150) d_X11_child_158 (by decide) ?_
      refine e_bipush (v := 14) d_X11_child_161 (by decide) ?_
      refine e_iload d_X11_child_163 rfl ?_
      refine e_imul d_X11_child_165 ?_
      refine e_iadd d_X11_child_166 ?_
      refine e_iload d_X11_child_167 rfl ?_
      refine e_iadd d_X11_child_169 ?_
      refine e_iconst (v := -1) d_X11_child_170 (by decide) ?_
      refine e_iastN (k := 150 + 14 * i + n) d_X11_child_171 H_a.s (by rw [h_x, ha0]; simp only [fa_lit, nI_add, pk_mul]) (by omega) (by omega) ?_
      refine e_iincw (w := 1) d_X11_child_172 rfl (by decide) (by decide) rfl ?_
      refine e_gt d_X11_child_175 ?_
      rw [up_up]
      refine ih (i + 1) (by omega) (by omega) _ ?_
      · rw [h_x]; exact nI_1 i
  refine e_iloadn d_X11_child_0 rfl ?_
  refine e_iconst (v := 0) d_X11_child_1 (by decide) ?_
  refine e_iconst (v := 1) d_X11_child_2 (by decide) ?_
  refine e_callSI d_X11_child_3 l_X11_child_101 (s_X11_in  ) rfl rfl (Nat.le_of_ble_eq_true rfl) ?_
  refine e_if_eq d_X11_child_6 (fun c_6 => ?_) (fun c_6 => ?_)
  · refine e_iconst (v := -1) d_X11_child_40 (by decide) ?_
    exact e_iret d_X11_child_41 rfl (rfl) (Or.inr ⟨by clear hA; first | (intro hp; rw [ha0] at c_37; have c9 := (nI_eq (a := n) (b := 14) (by omega) (by decide)).mp c_37; omega) | grind [bI_0], rfl, rfl⟩)
  · refine e_iloadn d_X11_child_9 rfl ?_
    refine e_iconst (v := 0) d_X11_child_10 (by decide) ?_
    refine e_bipush (v := 99) d_X11_child_11 (by decide) ?_
    refine e_callSI d_X11_child_13 l_X11_child_101 (s_X11_in  ) rfl rfl (Nat.le_of_ble_eq_true rfl) ?_
    refine e_if_eq d_X11_child_16 (fun c_16 => ?_) (fun c_16 => ?_)
    · refine e_iconst (v := -1) d_X11_child_40 (by decide) ?_
      exact e_iret d_X11_child_41 rfl (rfl) (Or.inr ⟨by clear hA; first | (intro hp; rw [ha0] at c_37; have c9 := (nI_eq (a := n) (b := 14) (by omega) (by decide)).mp c_37; omega) | grind [bI_0], rfl, rfl⟩)
    · refine e_iloadn d_X11_child_19 rfl ?_
      refine e_iconst (v := 0) d_X11_child_20 (by decide) ?_
      refine e_bipush (v := 9) d_X11_child_21 (by decide) ?_
      refine e_callSI d_X11_child_23 l_X11_child_101 (s_X11_in  ) rfl rfl (Nat.le_of_ble_eq_true rfl) ?_
      refine e_if_eq d_X11_child_26 (fun c_26 => ?_) (fun c_26 => ?_)
      · refine e_iconst (v := -1) d_X11_child_40 (by decide) ?_
        exact e_iret d_X11_child_41 rfl (rfl) (Or.inr ⟨by clear hA; first | (intro hp; rw [ha0] at c_37; have c9 := (nI_eq (a := n) (b := 14) (by omega) (by decide)).mp c_37; omega) | grind [bI_0], rfl, rfl⟩)
      · refine e_aloadn d_X11_child_29 rfl ?_
        refine e_get d_X11_child_30 f_X11_7 H_md rfl ?_
        refine e_iconst (v := 0) d_X11_child_33 (by decide) ?_
        refine e_ialdN (k := 0) d_X11_child_34 H_a rfl (by decide) (by decide) ?_
        refine e_bipush (v := 14) d_X11_child_35 (by decide) ?_
        refine e_icmp_ne d_X11_child_37 (fun c_37 => ?_) (fun c_37 => ?_)
        · refine e_aloadn d_X11_child_42 rfl ?_
          refine e_get d_X11_child_43 f_X11_7 H_md rfl ?_
          refine e_iconst (v := 0) d_X11_child_46 (by decide) ?_
          refine e_ialdN (k := 0) d_X11_child_47 H_a rfl (by decide) (by decide) ?_
          refine e_istore d_X11_child_48 (by decide) rfl ?_
          refine e_bipush (v := 10) d_X11_child_50 (by decide) ?_
          refine e_iconst (v := 5) d_X11_child_52 (by decide) ?_
          refine e_iload d_X11_child_53 rfl ?_
          refine e_imul d_X11_child_55 ?_
          refine e_iadd d_X11_child_56 ?_
          refine e_istore d_X11_child_57 (by decide) rfl ?_
          refine e_aloadn d_X11_child_59 rfl ?_
          refine e_get d_X11_child_60 f_X11_7 H_md rfl ?_
          refine e_iload d_X11_child_63 rfl ?_
          refine e_iloadn d_X11_child_65 rfl ?_
          refine e_iastN (k := 10 + 5 * n) d_X11_child_66 H_a (by rw [ha0]; simp only [fa_lit, nI_add, pk_mul]) (by omega) (by omega) ?_
          refine e_aloadn d_X11_child_67 rfl ?_
          refine e_get d_X11_child_68 f_X11_7 (H_md.n (by decide)) rfl ?_
          refine e_iload d_X11_child_71 rfl ?_
          refine e_iconst (v := 1) d_X11_child_73 (by decide) ?_
          refine e_iadd d_X11_child_74 ?_
          refine e_iloadn d_X11_child_75 rfl ?_
          refine e_iastN (k := 10 + 5 * n + 1) d_X11_child_76 H_a.s (by rw [ha0]; simp only [fa_lit, nI_add, pk_mul]) (by omega) (by omega) ?_
          refine e_aloadn d_X11_child_77 rfl ?_
          refine e_get d_X11_child_78 f_X11_7 ((H_md.n (by decide)).n (by decide)) rfl ?_
          refine e_iload d_X11_child_81 rfl ?_
          refine e_iconst (v := 2) d_X11_child_83 (by decide) ?_
          refine e_iadd d_X11_child_84 ?_
          refine e_iloadn d_X11_child_85 rfl ?_
          refine e_iastN (k := 10 + 5 * n + 2) d_X11_child_86 H_a.s.s (by rw [ha0]; simp only [fa_lit, nI_add, pk_mul]) (by omega) (by omega) ?_
          refine e_aloadn d_X11_child_87 rfl ?_
          refine e_get d_X11_child_88 f_X11_7 (((H_md.n (by decide)).n (by decide)).n (by decide)) rfl ?_
          refine e_iload d_X11_child_91 rfl ?_
          refine e_iconst (v := 3) d_X11_child_93 (by decide) ?_
          refine e_iadd d_X11_child_94 ?_
          refine e_iload d_X11_child_95 rfl ?_
          refine e_dia 105 (0) (1) (fun kt kf => e_if_eq d_X11_child_97 kt kf) (fun c_97 K_97 => ?_) (fun c_97 K_97 => ?_) (fun z_97 hz_97 => ?_)
          · refine e_iconst (v := 0) d_X11_child_104 (by decide) ?_
            exact K_97
          · refine e_iconst (v := 1) d_X11_child_100 (by decide) ?_
            refine e_gt d_X11_child_101 ?_
            exact K_97
          · obtain rfl : z_97 = (if k = 0 then (0 : Int32) else 1) := by grind
            refine e_iastN (k := 10 + 5 * n + 3) d_X11_child_105 H_a.s.s.s (by rw [ha0]; simp only [fa_lit, nI_add, pk_mul]) (by omega) (by omega) ?_
            refine e_aloadn d_X11_child_106 rfl ?_
            refine e_get d_X11_child_107 f_X11_7 ((((H_md.n (by decide)).n (by decide)).n (by decide)).n (by decide)) rfl ?_
            refine e_iload d_X11_child_110 rfl ?_
            refine e_iconst (v := 4) d_X11_child_112 (by decide) ?_
            refine e_iadd d_X11_child_113 ?_
            refine e_iload d_X11_child_114 rfl ?_
            refine e_dia 124 (0) (1) (fun kt kf => e_if_eq d_X11_child_116 kt kf) (fun c_116 K_116 => ?_) (fun c_116 K_116 => ?_) (fun z_116 hz_116 => ?_)
            · refine e_iconst (v := 0) d_X11_child_123 (by decide) ?_
              exact K_116
            · refine e_iconst (v := 1) d_X11_child_119 (by decide) ?_
              refine e_gt d_X11_child_120 ?_
              exact K_116
            · obtain rfl : z_116 = (if c = 0 then (0 : Int32) else 1) := by grind
              refine e_iastN (k := 10 + 5 * n + 4) d_X11_child_124 H_a.s.s.s.s (by rw [ha0]; simp only [fa_lit, nI_add, pk_mul]) (by omega) (by omega) ?_
              refine e_aloadn d_X11_child_125 rfl ?_
              refine e_get d_X11_child_126 f_X11_7 (((((H_md.n (by decide)).n (by decide)).n (by decide)).n (by decide)).n (by decide)) rfl ?_
              refine e_bipush (v := 80) d_X11_child_129 (by decide) ?_
              refine e_iload d_X11_child_131 rfl ?_
              refine e_iadd d_X11_child_133 ?_
              refine e_aloadn d_X11_child_134 rfl ?_
              refine e_get d_X11_child_135 f_X11_7 (((((H_md.n (by decide)).n (by decide)).n (by decide)).n (by decide)).n (by decide)) rfl ?_
              refine e_iload d_X11_child_138 rfl ?_
              refine e_iconst (v := 4) d_X11_child_140 (by decide) ?_
              refine e_iadd d_X11_child_141 ?_
              refine e_ialdN (k := 10 + 5 * n + 4) d_X11_child_142 H_a.s.s.s.s.s (by rw [ha0]; simp only [fa_lit, nI_add, pk_mul]) (by omega) (by omega) ?_
              refine e_iastN (k := 80 + n) d_X11_child_143 H_a.s.s.s.s.s (by rw [ha0]; simp only [fa_lit, nI_add, pk_mul]) (by omega) (by omega) ?_
              refine e_iconst (v := 0) d_X11_child_144 (by decide) ?_
              refine e_istore d_X11_child_145 (by decide) rfl ?_
              simp only [up_up, va_up_self]
              exact hA (by rw [ha0] at c_37; have c9 : n ≠ 14 := fun z => c_37 (by rw [z]; rfl); grind [bI_0]) 0 (by omega) _ (rfl)
        · refine e_iconst (v := -1) d_X11_child_40 (by decide) ?_
          exact e_iret d_X11_child_41 rfl (rfl) (Or.inr ⟨by clear hA; first | (intro hp; rw [ha0] at c_37; have c9 := (nI_eq (a := n) (b := 14) (by omega) (by decide)).mp c_37; omega) | grind [bI_0], rfl, rfl⟩)

theorem s_X11_thing {h : AH} {mtp mfl mfa mln mat mtk mso mto mwr mwp mop mfs mws mst mnc mnk mnr mdn : Int32} {mup mlo mgu mgl : Int64} {a : Nat → Int32} {k g l p : Int32} {n : Nat} (H_md : Hs h 66 (oMd mtp mfl mfa mup mlo mln mat mtk mso mto mwr mwp mop mfs mws mst mnc mnk mnr mdn mgu mgl)) (H_a : Hs h 67 (aI 380 a)) (ha1 : a 1 = nI n) (hn : n ≤ 12) : Sp M_X11_thing (0, 0) h [.ref 66, .int k, .int g, .int l, .int p] (pO (0 ≤ k ∧ k ≤ 3 ∧ 0 ≤ g ∧ g ≤ 99 ∧ 0 ≤ p ∧ p ≤ 999 ∧ n < 12) (nI n) (-1) (up h 67 (aI 380 (va_up (clrT (thingA a n k g (if l = 0 then (0 : Int32) else 1) p) n 14) 1 (nI (n + 1))))) h) := by
  refine ⟨Nat.le_of_ble_eq_true rfl, ?_⟩
  show E _ _ _ 0 h [some (.ref 66), some (.int k), some (.int g), some (.int l), some (.int p), none, none, none] []
  have hA : (0 ≤ k ∧ k ≤ 3 ∧ 0 ≤ g ∧ g ≤ 99 ∧ 0 ≤ p ∧ p ≤ 999 ∧ n < 12) → ∀ i, i ≤ 14 → ∀ (x : Int32), x = nI i → E M_X11_thing (0, 0) (pO (0 ≤ k ∧ k ≤ 3 ∧ 0 ≤ g ∧ g ≤ 99 ∧ 0 ≤ p ∧ p ≤ 999 ∧ n < 12) (nI n) (-1) (up h 67 (aI 380 (va_up (clrT (thingA a n k g (if l = 0 then (0 : Int32) else 1) p) n 14) 1 (nI (n + 1))))) h) 111 (up h 67 (aI 380 (clrT (thingA a n k g (if l = 0 then (0 : Int32) else 1) p) n i))) [some (.ref 66), some (.int k), some (.int g), some (.int l), some (.int p), some (.int (a 1)), some (.int (100 + 4 * a 1)), some (.int x)] [] := by
    intro hp
    refine loop_ind (n := 14) ?_
    intro i hi ih x h_x
    refine e_iload d_X11_thing_111 rfl ?_
    refine e_bipush (v := 14) d_X11_thing_113 (by decide) ?_
    refine e_icmp_ge d_X11_thing_115 (fun c_e => ?_) (fun c_e => ?_)
    · have c_e := i_le (a := 14) (by decide) (by omega) (h_x ▸ c_e)
      obtain rfl : i = 14 := by omega
      refine e_aloadn d_X11_thing_142 rfl ?_
      refine e_get d_X11_thing_143 f_X11_7 (H_md.n (by decide)) rfl ?_
      refine e_iconst (v := 1) d_X11_thing_146 (by decide) ?_
      refine e_dup2 d_X11_thing_147 rfl rfl ?_
      refine e_ialdN (k := 1) d_X11_thing_148 H_a.s rfl (by decide) (by decide) ?_
      refine e_iconst (v := 1) d_X11_thing_149 (by decide) ?_
      refine e_iadd d_X11_thing_150 ?_
      refine e_iastN (k := 1) d_X11_thing_151 H_a.s rfl (by decide) (by decide) ?_
      refine e_iload d_X11_thing_152 rfl ?_
      exact e_iret d_X11_thing_154 rfl (rfl) (Or.inl ⟨hp, by rw [ha1], by rw [up_up, clrT_lt (by decide), thingA_0 (by decide), ha1, nI_1]⟩)
    · have c_e := i_nle (a := 14) (by decide) (by omega) (h_x ▸ c_e)
      refine e_aloadn d_X11_thing_118 rfl ?_
      refine e_get d_X11_thing_119 f_X11_7 (H_md.n (by decide)) rfl ?_
      refine e_sipush (v := 150) d_X11_thing_122 (by decide) ?_
      refine e_bipush (v := 14) d_X11_thing_125 (by decide) ?_
      refine e_iload d_X11_thing_127 rfl ?_
      refine e_imul d_X11_thing_129 ?_
      refine e_iadd d_X11_thing_130 ?_
      refine e_iload d_X11_thing_131 rfl ?_
      refine e_iadd d_X11_thing_133 ?_
      refine e_iconst (v := -1) d_X11_thing_134 (by decide) ?_
      refine e_iastN (k := 150 + 14 * n + i) d_X11_thing_135 H_a.s (by rw [h_x, ha1]; simp only [fa_lit, nI_add, pk_mul]) (by omega) (by omega) ?_
      refine e_iincw (w := 1) d_X11_thing_136 rfl (by decide) (by decide) rfl ?_
      refine e_gt d_X11_thing_139 ?_
      rw [up_up]
      refine ih (i + 1) (by omega) (by omega) _ ?_
      · rw [h_x]; exact nI_1 i
  refine e_iloadn d_X11_thing_0 rfl ?_
  refine e_iconst (v := 0) d_X11_thing_1 (by decide) ?_
  refine e_iconst (v := 3) d_X11_thing_2 (by decide) ?_
  refine e_callSI d_X11_thing_3 l_X11_thing_101 (s_X11_in  ) rfl rfl (Nat.le_of_ble_eq_true rfl) ?_
  refine e_if_eq d_X11_thing_6 (fun c_6 => ?_) (fun c_6 => ?_)
  · refine e_iconst (v := -1) d_X11_thing_42 (by decide) ?_
    exact e_iret d_X11_thing_43 rfl (rfl) (Or.inr ⟨by clear hA; first | (intro hp; rw [ha1] at c_39; have c9 := (nI_eq (a := n) (b := 12) (by omega) (by decide)).mp c_39; omega) | grind [bI_0], rfl, rfl⟩)
  · refine e_iloadn d_X11_thing_9 rfl ?_
    refine e_iconst (v := 0) d_X11_thing_10 (by decide) ?_
    refine e_bipush (v := 99) d_X11_thing_11 (by decide) ?_
    refine e_callSI d_X11_thing_13 l_X11_thing_101 (s_X11_in  ) rfl rfl (Nat.le_of_ble_eq_true rfl) ?_
    refine e_if_eq d_X11_thing_16 (fun c_16 => ?_) (fun c_16 => ?_)
    · refine e_iconst (v := -1) d_X11_thing_42 (by decide) ?_
      exact e_iret d_X11_thing_43 rfl (rfl) (Or.inr ⟨by clear hA; first | (intro hp; rw [ha1] at c_39; have c9 := (nI_eq (a := n) (b := 12) (by omega) (by decide)).mp c_39; omega) | grind [bI_0], rfl, rfl⟩)
    · refine e_iload d_X11_thing_19 rfl ?_
      refine e_iconst (v := 0) d_X11_thing_21 (by decide) ?_
      refine e_sipush (v := 999) d_X11_thing_22 (by decide) ?_
      refine e_callSI d_X11_thing_25 l_X11_thing_101 (s_X11_in  ) rfl rfl (Nat.le_of_ble_eq_true rfl) ?_
      refine e_if_eq d_X11_thing_28 (fun c_28 => ?_) (fun c_28 => ?_)
      · refine e_iconst (v := -1) d_X11_thing_42 (by decide) ?_
        exact e_iret d_X11_thing_43 rfl (rfl) (Or.inr ⟨by clear hA; first | (intro hp; rw [ha1] at c_39; have c9 := (nI_eq (a := n) (b := 12) (by omega) (by decide)).mp c_39; omega) | grind [bI_0], rfl, rfl⟩)
      · refine e_aloadn d_X11_thing_31 rfl ?_
        refine e_get d_X11_thing_32 f_X11_7 H_md rfl ?_
        refine e_iconst (v := 1) d_X11_thing_35 (by decide) ?_
        refine e_ialdN (k := 1) d_X11_thing_36 H_a rfl (by decide) (by decide) ?_
        refine e_bipush (v := 12) d_X11_thing_37 (by decide) ?_
        refine e_icmp_ne d_X11_thing_39 (fun c_39 => ?_) (fun c_39 => ?_)
        · refine e_aloadn d_X11_thing_44 rfl ?_
          refine e_get d_X11_thing_45 f_X11_7 H_md rfl ?_
          refine e_iconst (v := 1) d_X11_thing_48 (by decide) ?_
          refine e_ialdN (k := 1) d_X11_thing_49 H_a rfl (by decide) (by decide) ?_
          refine e_istore d_X11_thing_50 (by decide) rfl ?_
          refine e_bipush (v := 100) d_X11_thing_52 (by decide) ?_
          refine e_iconst (v := 4) d_X11_thing_54 (by decide) ?_
          refine e_iload d_X11_thing_55 rfl ?_
          refine e_imul d_X11_thing_57 ?_
          refine e_iadd d_X11_thing_58 ?_
          refine e_istore d_X11_thing_59 (by decide) rfl ?_
          refine e_aloadn d_X11_thing_61 rfl ?_
          refine e_get d_X11_thing_62 f_X11_7 H_md rfl ?_
          refine e_iload d_X11_thing_65 rfl ?_
          refine e_iloadn d_X11_thing_67 rfl ?_
          refine e_iastN (k := 100 + 4 * n) d_X11_thing_68 H_a (by rw [ha1]; simp only [fa_lit, nI_add, pk_mul]) (by omega) (by omega) ?_
          refine e_aloadn d_X11_thing_69 rfl ?_
          refine e_get d_X11_thing_70 f_X11_7 (H_md.n (by decide)) rfl ?_
          refine e_iload d_X11_thing_73 rfl ?_
          refine e_iconst (v := 1) d_X11_thing_75 (by decide) ?_
          refine e_iadd d_X11_thing_76 ?_
          refine e_iloadn d_X11_thing_77 rfl ?_
          refine e_iastN (k := 100 + 4 * n + 1) d_X11_thing_78 H_a.s (by rw [ha1]; simp only [fa_lit, nI_add, pk_mul]) (by omega) (by omega) ?_
          refine e_aloadn d_X11_thing_79 rfl ?_
          refine e_get d_X11_thing_80 f_X11_7 ((H_md.n (by decide)).n (by decide)) rfl ?_
          refine e_iload d_X11_thing_83 rfl ?_
          refine e_iconst (v := 2) d_X11_thing_85 (by decide) ?_
          refine e_iadd d_X11_thing_86 ?_
          refine e_iloadn d_X11_thing_87 rfl ?_
          refine e_dia 96 (0) (1) (fun kt kf => e_if_eq d_X11_thing_88 kt kf) (fun c_88 K_88 => ?_) (fun c_88 K_88 => ?_) (fun z_88 hz_88 => ?_)
          · refine e_iconst (v := 0) d_X11_thing_95 (by decide) ?_
            exact K_88
          · refine e_iconst (v := 1) d_X11_thing_91 (by decide) ?_
            refine e_gt d_X11_thing_92 ?_
            exact K_88
          · obtain rfl : z_88 = (if l = 0 then (0 : Int32) else 1) := by grind
            refine e_iastN (k := 100 + 4 * n + 2) d_X11_thing_96 H_a.s.s (by rw [ha1]; simp only [fa_lit, nI_add, pk_mul]) (by omega) (by omega) ?_
            refine e_aloadn d_X11_thing_97 rfl ?_
            refine e_get d_X11_thing_98 f_X11_7 (((H_md.n (by decide)).n (by decide)).n (by decide)) rfl ?_
            refine e_iload d_X11_thing_101 rfl ?_
            refine e_iconst (v := 3) d_X11_thing_103 (by decide) ?_
            refine e_iadd d_X11_thing_104 ?_
            refine e_iload d_X11_thing_105 rfl ?_
            refine e_iastN (k := 100 + 4 * n + 3) d_X11_thing_107 H_a.s.s.s (by rw [ha1]; simp only [fa_lit, nI_add, pk_mul]) (by omega) (by omega) ?_
            refine e_iconst (v := 0) d_X11_thing_108 (by decide) ?_
            refine e_istore d_X11_thing_109 (by decide) rfl ?_
            simp only [up_up]
            exact hA (by rw [ha1] at c_39; have c9 : n ≠ 12 := fun z => c_39 (by rw [z]; rfl); clear hA; grind [bI_0]) 0 (by omega) _ (rfl)
        · refine e_iconst (v := -1) d_X11_thing_42 (by decide) ?_
          exact e_iret d_X11_thing_43 rfl (rfl) (Or.inr ⟨by clear hA; first | (intro hp; rw [ha1] at c_39; have c9 := (nI_eq (a := n) (b := 12) (by omega) (by decide)).mp c_39; omega) | grind [bI_0], rfl, rfl⟩)

theorem ix80 {x : Int32} (h1 : 0 ≤ x) (h2 : x < 14) : 80 + x = nI (80 + x.toNatClampNeg) ∧ 80 + x.toNatClampNeg < 380 := by
  obtain ⟨a, ha, rfl⟩ := vp_in_of (vp_of (n := 14) h1 h2 rfl) (by decide)
  rw [nI_clamp (by omega)]
  exact ⟨by simp only [fa_lit, nI_add], by omega⟩

theorem s_X11_had {h : AH} {mtp mfl mfa mln mat mtk mso mto mwr mwp mop mfs mws mst mnc mnk mnr mdn : Int32} {mup mlo mgu mgl : Int64} {a : Nat → Int32} {x b : Int32} (H_md : Hs h 66 (oMd mtp mfl mfa mup mlo mln mat mtk mso mto mwr mwp mop mfs mws mst mnc mnk mnr mdn mgu mgl)) (H_a : Hs h 67 (aI 380 a)) (h00 : 0 ≤ a 0) (h01 : a 0 ≤ 14) : Sp M_X11_had (0, 0) h [.ref 66, .int x, .int b] (pO (0 ≤ x ∧ x ≤ a 0 - 1) 1 0 (up h 67 (aI 380 (va_up a (80 + x.toNatClampNeg) (if b = 0 then 0 else 1)))) h) := by
  refine ⟨Nat.le_of_ble_eq_true rfl, ?_⟩
  show E _ _ _ 0 h [some (.ref 66), some (.int x), some (.int b)] []
  refine e_aloadn d_X11_had_0 rfl ?_
  refine e_iloadn d_X11_had_1 rfl ?_
  refine e_callVI d_X11_had_2 l_X11_had_105 H_md rfl rfl (s_X11_isChild H_md H_a ) rfl rfl (Nat.le_of_ble_eq_true rfl) ?_
  refine e_if_ne d_X11_had_5 (fun c_5 => ?_) (fun c_5 => ?_)
  · have hix := ix80 (x := x) (by grind [bI_0]) (by grind [bI_0])
    refine e_aloadn d_X11_had_10 rfl ?_
    refine e_get d_X11_had_11 f_X11_7 H_md rfl ?_
    refine e_bipush (v := 80) d_X11_had_14 (by decide) ?_
    refine e_iloadn d_X11_had_16 rfl ?_
    refine e_iadd d_X11_had_17 ?_
    refine e_iloadn d_X11_had_18 rfl ?_
    refine e_dia 27 (0) (1) (fun kt kf => e_if_eq d_X11_had_19 kt kf) (fun c_19 K_19 => ?_) (fun c_19 K_19 => ?_) (fun z_19 hz_19 => ?_)
    · refine e_iconst (v := 0) d_X11_had_26 (by decide) ?_
      exact K_19
    · refine e_iconst (v := 1) d_X11_had_22 (by decide) ?_
      refine e_gt d_X11_had_23 ?_
      exact K_19
    · obtain rfl : z_19 = if b = 0 then (0 : Int32) else 1 := by grind
      refine e_iastN (k := 80 + x.toNatClampNeg) d_X11_had_27 H_a hix.1 hix.2 (by decide) ?_
      refine e_iconst (v := 1) d_X11_had_28 (by decide) ?_
      exact e_iret d_X11_had_29 rfl (rfl) (Or.inl ⟨by grind [bI_0], rfl, rfl⟩)
  · refine e_iconst (v := 0) d_X11_had_8 (by decide) ?_
    exact e_iret d_X11_had_9 rfl (rfl) (Or.inr ⟨by grind [bI_0], rfl, rfl⟩)

theorem ix380 {x y : Int32} (h1 : 0 ≤ x) (h2 : x < 12) (h3 : 0 ≤ y) (h4 : y < 14) : 150 + 14 * x + y = nI (150 + 14 * x.toNatClampNeg + y.toNatClampNeg) ∧ 150 + 14 * x.toNatClampNeg + y.toNatClampNeg < 380 := by
  obtain ⟨a, ha, rfl⟩ := vp_in_of (vp_of (n := 12) h1 h2 rfl) (by decide)
  obtain ⟨b, hb, rfl⟩ := vp_in_of (vp_of (n := 14) h3 h4 rfl) (by decide)
  rw [nI_clamp (by omega), nI_clamp (by omega)]
  exact ⟨by simp only [fa_lit, nI_add, pk_mul], by omega⟩

theorem s_X11_answer {h : AH} {mtp mfl mfa mln mat mtk mso mto mwr mwp mop mfs mws mst mnc mnk mnr mdn : Int32} {mup mlo mgu mgl : Int64} {a : Nat → Int32} {x y v : Int32} (H_md : Hs h 66 (oMd mtp mfl mfa mup mlo mln mat mtk mso mto mwr mwp mop mfs mws mst mnc mnk mnr mdn mgu mgl)) (H_a : Hs h 67 (aI 380 a)) (h00 : 0 ≤ a 0) (h01 : a 0 ≤ 14) (h10 : 0 ≤ a 1) (h11 : a 1 ≤ 12) : Sp M_X11_answer (0, 0) h [.ref 66, .int x, .int y, .int v] (pO (0 ≤ x ∧ x ≤ a 1 - 1 ∧ 0 ≤ y ∧ y ≤ a 0 - 1 ∧ -1 ≤ v ∧ v ≤ 99) 1 0 (up h 67 (aI 380 (va_up a (150 + 14 * x.toNatClampNeg + y.toNatClampNeg) v))) h) := by
  refine ⟨Nat.le_of_ble_eq_true rfl, ?_⟩
  show E _ _ _ 0 h [some (.ref 66), some (.int x), some (.int y), some (.int v)] []
  refine e_aloadn d_X11_answer_0 rfl ?_
  refine e_iloadn d_X11_answer_1 rfl ?_
  refine e_callVI d_X11_answer_2 l_X11_answer_109 H_md rfl rfl (s_X11_isThing H_md H_a ) rfl rfl (Nat.le_of_ble_eq_true rfl) ?_
  refine e_if_eq d_X11_answer_5 (fun c_5 => ?_) (fun c_5 => ?_)
  · refine e_iconst (v := 0) d_X11_answer_26 (by decide) ?_
    exact e_iret d_X11_answer_27 rfl (rfl) (Or.inr ⟨by grind [bI_0], rfl, rfl⟩)
  · refine e_aloadn d_X11_answer_8 rfl ?_
    refine e_iloadn d_X11_answer_9 rfl ?_
    refine e_callVI d_X11_answer_10 l_X11_answer_105 H_md rfl rfl (s_X11_isChild H_md H_a ) rfl rfl (Nat.le_of_ble_eq_true rfl) ?_
    refine e_if_eq d_X11_answer_13 (fun c_13 => ?_) (fun c_13 => ?_)
    · refine e_iconst (v := 0) d_X11_answer_26 (by decide) ?_
      exact e_iret d_X11_answer_27 rfl (rfl) (Or.inr ⟨by grind [bI_0], rfl, rfl⟩)
    · refine e_iloadn d_X11_answer_16 rfl ?_
      refine e_iconst (v := -1) d_X11_answer_17 (by decide) ?_
      refine e_bipush (v := 99) d_X11_answer_18 (by decide) ?_
      refine e_callSI d_X11_answer_20 l_X11_answer_101 (s_X11_in  ) rfl rfl (Nat.le_of_ble_eq_true rfl) ?_
      refine e_if_ne d_X11_answer_23 (fun c_23 => ?_) (fun c_23 => ?_)
      · have hix := ix380 (x := x) (y := y) (by grind [bI_0]) (by grind [bI_0]) (by grind [bI_0]) (by grind [bI_0])
        refine e_aloadn d_X11_answer_28 rfl ?_
        refine e_get d_X11_answer_29 f_X11_7 H_md rfl ?_
        refine e_sipush (v := 150) d_X11_answer_32 (by decide) ?_
        refine e_bipush (v := 14) d_X11_answer_35 (by decide) ?_
        refine e_iloadn d_X11_answer_37 rfl ?_
        refine e_imul d_X11_answer_38 ?_
        refine e_iadd d_X11_answer_39 ?_
        refine e_iloadn d_X11_answer_40 rfl ?_
        refine e_iadd d_X11_answer_41 ?_
        refine e_iloadn d_X11_answer_42 rfl ?_
        refine e_iastN (k := 150 + 14 * x.toNatClampNeg + y.toNatClampNeg) d_X11_answer_43 H_a hix.1 hix.2 (by decide) ?_
        refine e_iconst (v := 1) d_X11_answer_44 (by decide) ?_
        exact e_iret d_X11_answer_45 rfl (rfl) (Or.inl ⟨by grind [bI_0], rfl, rfl⟩)
      · refine e_iconst (v := 0) d_X11_answer_26 (by decide) ?_
        exact e_iret d_X11_answer_27 rfl (rfl) (Or.inr ⟨by grind [bI_0], rfl, rfl⟩)

theorem s_X11_answerOf2 {h : AH} {a : Nat → Int32} {x y : Int32} (H_a : Hs h 67 (aI 380 a)) {mtp mfl mfa mln mat mtk mso mto mwr mwp mop mfs mws mst mnc mnk mnr mdn : Int32} {mup mlo mgu mgl : Int64} (H_md : Hs h 66 (oMd mtp mfl mfa mup mlo mln mat mtk mso mto mwr mwp mop mfs mws mst mnc mnk mnr mdn mgu mgl)) (h1 : 0 ≤ x) (h2 : x < 12) (h3 : 0 ≤ y) (h4 : y < 14) : Sp M_X11_answerOf (0, 0) h [.ref 66, .int x, .int y] (pI (a (150 + 14 * x.toNatClampNeg + y.toNatClampNeg)) h) := by
  have hix := ix380 h1 h2 h3 h4
  obtain ⟨X, hX, rfl⟩ := vp_in_of (vp_of (n := 12) h1 h2 rfl) (by decide)
  obtain ⟨Y, hY, rfl⟩ := vp_in_of (vp_of (n := 14) h3 h4 rfl) (by decide)
  rw [nI_clamp (by omega), nI_clamp (by omega)] at *
  exact s_X11_answerOf H_md H_a rfl rfl hix.2

theorem s_X11_answered {h : AH} {mtp mfl mfa mln mat mtk mso mto mwr mwp mop mfs mws mst mnc mnk mnr mdn : Int32} {mup mlo mgu mgl : Int64} {a : Nat → Int32} {x y : Int32} (H_md : Hs h 66 (oMd mtp mfl mfa mup mlo mln mat mtk mso mto mwr mwp mop mfs mws mst mnc mnk mnr mdn mgu mgl)) (H_a : Hs h 67 (aI 380 a)) (h00 : 0 ≤ a 0) (h01 : a 0 ≤ 14) (h10 : 0 ≤ a 1) (h11 : a 1 ≤ 12) : Sp M_X11_answered (0, 0) h [.ref 66, .int x, .int y] (pI (if 0 ≤ x ∧ x ≤ a 1 - 1 ∧ 0 ≤ y ∧ y ≤ a 0 - 1 then a (150 + 14 * x.toNatClampNeg + y.toNatClampNeg) else -1) h) := by
  refine ⟨Nat.le_of_ble_eq_true rfl, ?_⟩
  show E _ _ _ 0 h [some (.ref 66), some (.int x), some (.int y)] []
  refine e_aloadn d_X11_answered_0 rfl ?_
  refine e_iloadn d_X11_answered_1 rfl ?_
  refine e_callVI d_X11_answered_2 l_X11_answered_109 H_md rfl rfl (s_X11_isThing H_md H_a ) rfl rfl (Nat.le_of_ble_eq_true rfl) ?_
  refine e_if_eq d_X11_answered_5 (fun c_5 => ?_) (fun c_5 => ?_)
  · refine e_iconst (v := -1) d_X11_answered_25 (by decide) ?_
    exact e_iret d_X11_answered_26 rfl (rfl) (⟨by grind [bI_0], rfl⟩)
  · refine e_aloadn d_X11_answered_8 rfl ?_
    refine e_iloadn d_X11_answered_9 rfl ?_
    refine e_callVI d_X11_answered_10 l_X11_answered_105 H_md rfl rfl (s_X11_isChild H_md H_a ) rfl rfl (Nat.le_of_ble_eq_true rfl) ?_
    refine e_if_eq d_X11_answered_13 (fun c_13 => ?_) (fun c_13 => ?_)
    · refine e_iconst (v := -1) d_X11_answered_25 (by decide) ?_
      exact e_iret d_X11_answered_26 rfl (rfl) (⟨by grind [bI_0], rfl⟩)
    · refine e_aloadn d_X11_answered_16 rfl ?_
      refine e_iloadn d_X11_answered_17 rfl ?_
      refine e_iloadn d_X11_answered_18 rfl ?_
      refine e_callVI d_X11_answered_19 l_X11_answered_112 H_md rfl rfl (s_X11_answerOf2 H_a H_md (by grind [bI_0]) (by grind [bI_0]) (by grind [bI_0]) (by grind [bI_0])) rfl rfl (Nat.le_of_ble_eq_true rfl) ?_
      refine e_gt d_X11_answered_22 ?_
      exact e_iret d_X11_answered_26 rfl (rfl) (⟨by grind [bI_0], rfl⟩)

theorem s_X11_end {h : AH} {mtp mfl mfa mln mat mtk mso mto mwr mwp mop mfs mws mst mnc mnk mnr mdn : Int32} {mup mlo mgu mgl : Int64} {n : Int32} (H_md : Hs h 66 (oMd mtp mfl mfa mup mlo mln mat mtk mso mto mwr mwp mop mfs mws mst mnc mnk mnr mdn mgu mgl)) : Sp M_X11_end (0, 0) h [.ref 66, .int n] (pO (0 ≤ n ∧ n ≤ mtp) n (-1) (up h 66 (oMd n mfl mfa mup mlo mln mat mtk mso mto mwr mwp mop mfs mws mst mnc mnk mnr mdn mgu mgl)) h) := by
  refine ⟨Nat.le_of_ble_eq_true rfl, ?_⟩
  show E _ _ _ 0 h [some (.ref 66), some (.int n)] []
  refine e_iloadn d_X11_end_0 rfl ?_
  refine e_iconst (v := 0) d_X11_end_1 (by decide) ?_
  refine e_aloadn d_X11_end_2 rfl ?_
  refine e_get d_X11_end_3 f_X11_142 H_md rfl ?_
  refine e_callSI d_X11_end_6 l_X11_end_101 (s_X11_in  ) rfl rfl (Nat.le_of_ble_eq_true rfl) ?_
  refine e_if_ne d_X11_end_9 (fun c_9 => ?_) (fun c_9 => ?_)
  · refine e_aloadn d_X11_end_14 rfl ?_
    refine e_iloadn d_X11_end_15 rfl ?_
    refine e_puti d_X11_end_16 f_X11_142 H_md (Nat.le_of_ble_eq_true rfl) ?_
    refine e_iloadn d_X11_end_19 rfl ?_
    exact e_iret d_X11_end_20 rfl (rfl) (Or.inl ⟨by grind [bI_0], rfl, rfl⟩)
  · refine e_iconst (v := -1) d_X11_end_12 (by decide) ?_
    exact e_iret d_X11_end_13 rfl (rfl) (Or.inr ⟨by grind [bI_0], rfl, rfl⟩)

theorem s_X11_fault {h : AH} {mtp mfl mfa mln mat mtk mso mto mwr mwp mop mfs mws mst mnc mnk mnr mdn : Int32} {mup mlo mgu mgl : Int64} {w : Int32} (H_md : Hs h 66 (oMd mtp mfl mfa mup mlo mln mat mtk mso mto mwr mwp mop mfs mws mst mnc mnk mnr mdn mgu mgl)) : Sp M_X11_fault (0, 0) h [.ref 66, .int w] (pI (if w = 0 then mfl else if w = 1 then mfa else -1) h) := by
  refine ⟨Nat.le_of_ble_eq_true rfl, ?_⟩
  show E _ _ _ 0 h [some (.ref 66), some (.int w)] []
  refine e_iloadn d_X11_fault_0 rfl ?_
  refine e_if_ne d_X11_fault_1 (fun c_1 => ?_) (fun c_1 => ?_)
  · refine e_iloadn d_X11_fault_11 rfl ?_
    refine e_iconst (v := 1) d_X11_fault_12 (by decide) ?_
    refine e_icmp_ne d_X11_fault_13 (fun c_13 => ?_) (fun c_13 => ?_)
    · refine e_iconst (v := -1) d_X11_fault_23 (by decide) ?_
      exact e_iret d_X11_fault_24 rfl (rfl) (⟨by grind, rfl⟩)
    · refine e_aloadn d_X11_fault_16 rfl ?_
      refine e_get d_X11_fault_17 f_X11_24 H_md rfl ?_
      refine e_gt d_X11_fault_20 ?_
      exact e_iret d_X11_fault_24 rfl (rfl) (⟨by grind, rfl⟩)
  · refine e_aloadn d_X11_fault_4 rfl ?_
    refine e_get d_X11_fault_5 f_X11_20 H_md rfl ?_
    refine e_gt d_X11_fault_8 ?_
    exact e_iret d_X11_fault_24 rfl (rfl) (⟨by grind, rfl⟩)

theorem s_X11_costs {h : AH} {mtp mfl mfa mln mat mtk mso mto mwr mwp mop mfs mws mst mnc mnk mnr mdn : Int32} {mup mlo mgu mgl : Int64} {a : Nat → Int32} {v : Int32} (H_md : Hs h 66 (oMd mtp mfl mfa mup mlo mln mat mtk mso mto mwr mwp mop mfs mws mst mnc mnk mnr mdn mgu mgl)) (H_a : Hs h 67 (aI 380 a)) : Sp M_X11_costs (0, 0) h [.ref 66, .int v] (pO (1 ≤ v ∧ v ≤ 9999) 1 0 (up h 67 (aI 380 (va_up a 5 v))) h) := by
  refine ⟨Nat.le_of_ble_eq_true rfl, ?_⟩
  show E _ _ _ 0 h [some (.ref 66), some (.int v)] []
  refine e_iloadn d_X11_costs_0 rfl ?_
  refine e_iconst (v := 1) d_X11_costs_1 (by decide) ?_
  refine e_sipush (v := 9999) d_X11_costs_2 (by decide) ?_
  refine e_callSI d_X11_costs_5 l_X11_costs_101 (s_X11_in  ) rfl rfl (Nat.le_of_ble_eq_true rfl) ?_
  refine e_if_ne d_X11_costs_8 (fun c_8 => ?_) (fun c_8 => ?_)
  · refine e_aloadn d_X11_costs_13 rfl ?_
    refine e_get d_X11_costs_14 f_X11_7 H_md rfl ?_
    refine e_iconst (v := 5) d_X11_costs_17 (by decide) ?_
    refine e_iloadn d_X11_costs_18 rfl ?_
    refine e_iastN (k := 5) d_X11_costs_19 H_a rfl (by decide) (by decide) ?_
    refine e_iconst (v := 1) d_X11_costs_20 (by decide) ?_
    exact e_iret d_X11_costs_21 rfl (rfl) (Or.inl ⟨by grind [bI_0], rfl, rfl⟩)
  · refine e_iconst (v := 0) d_X11_costs_11 (by decide) ?_
    exact e_iret d_X11_costs_12 rfl (rfl) (Or.inr ⟨by grind [bI_0], rfl, rfl⟩)

theorem s_X11_step {h : AH} {mtp mfl mfa mln mat mtk mso mto mwr mwp mop mfs mws mst mnc mnk mnr mdn : Int32} {mup mlo mgu mgl : Int64} {a : Nat → Int32} {x y : Int32} {n : Nat} (H_md : Hs h 66 (oMd mtp mfl mfa mup mlo mln mat mtk mso mto mwr mwp mop mfs mws mst mnc mnk mnr mdn mgu mgl)) (H_a : Hs h 67 (aI 380 a)) (ha4 : a 4 = nI n) (hn : n ≤ 8) : Sp M_X11_step (0, 0) h [.ref 66, .int x, .int y] (pO (-100 ≤ x ∧ x ≤ 200 ∧ x ≤ y ∧ y ≤ 200 ∧ n < 8) (nI (n + 1)) (-1) (up h 67 (aI 380 (va_up (va_up (va_up a (360 + 2 * n) x) (360 + 2 * n + 1) y) 4 (nI (n + 1))))) h) := by
  refine ⟨Nat.le_of_ble_eq_true rfl, ?_⟩
  show E _ _ _ 0 h [some (.ref 66), some (.int x), some (.int y)] []
  refine e_iloadn d_X11_step_0 rfl ?_
  refine e_bipush (v := -100) d_X11_step_1 (by decide) ?_
  refine e_sipush (v := 200) d_X11_step_3 (by decide) ?_
  refine e_callSI d_X11_step_6 l_X11_step_101 (s_X11_in  ) rfl rfl (Nat.le_of_ble_eq_true rfl) ?_
  refine e_if_eq d_X11_step_9 (fun c_9 => ?_) (fun c_9 => ?_)
  · refine e_iconst (v := -1) d_X11_step_34 (by decide) ?_
    exact e_iret d_X11_step_35 rfl (rfl) (Or.inr ⟨by first | (intro hp; rw [ha4] at c_31; have c9 := (nI_eq (a := n) (b := 8) (by omega) (by decide)).mp c_31; omega) | grind [bI_0], rfl, rfl⟩)
  · refine e_iloadn d_X11_step_12 rfl ?_
    refine e_iloadn d_X11_step_13 rfl ?_
    refine e_sipush (v := 200) d_X11_step_14 (by decide) ?_
    refine e_callSI d_X11_step_17 l_X11_step_101 (s_X11_in  ) rfl rfl (Nat.le_of_ble_eq_true rfl) ?_
    refine e_if_eq d_X11_step_20 (fun c_20 => ?_) (fun c_20 => ?_)
    · refine e_iconst (v := -1) d_X11_step_34 (by decide) ?_
      exact e_iret d_X11_step_35 rfl (rfl) (Or.inr ⟨by first | (intro hp; rw [ha4] at c_31; have c9 := (nI_eq (a := n) (b := 8) (by omega) (by decide)).mp c_31; omega) | grind [bI_0], rfl, rfl⟩)
    · refine e_aloadn d_X11_step_23 rfl ?_
      refine e_get d_X11_step_24 f_X11_7 H_md rfl ?_
      refine e_iconst (v := 4) d_X11_step_27 (by decide) ?_
      refine e_ialdN (k := 4) d_X11_step_28 H_a rfl (by decide) (by decide) ?_
      refine e_bipush (v := 8) d_X11_step_29 (by decide) ?_
      refine e_icmp_ne d_X11_step_31 (fun c_31 => ?_) (fun c_31 => ?_)
      · have c9 : n ≠ 8 := fun z => c_31 (by rw [ha4, z]; rfl)
        refine e_aloadn d_X11_step_36 rfl ?_
        refine e_get d_X11_step_37 f_X11_7 H_md rfl ?_
        refine e_sipush (v := 360) d_X11_step_40 (by decide) ?_
        refine e_iconst (v := 2) d_X11_step_43 (by decide) ?_
        refine e_aloadn d_X11_step_44 rfl ?_
        refine e_get d_X11_step_45 f_X11_7 H_md rfl ?_
        refine e_iconst (v := 4) d_X11_step_48 (by decide) ?_
        refine e_ialdN (k := 4) d_X11_step_49 H_a rfl (by decide) (by decide) ?_
        refine e_imul d_X11_step_50 ?_
        refine e_iadd d_X11_step_51 ?_
        refine e_iloadn d_X11_step_52 rfl ?_
        refine e_iastN (k := 360 + 2 * n) d_X11_step_53 H_a (by first | (rw [ha4]; simp only [fa_lit, nI_add, pk_mul]) | (rw [va_up_ne _ _ (by omega), ha4]; simp only [fa_lit, nI_add, pk_mul])) (by omega) (by omega) ?_
        refine e_aloadn d_X11_step_54 rfl ?_
        refine e_get d_X11_step_55 f_X11_7 (H_md.n (by decide)) rfl ?_
        refine e_sipush (v := 360) d_X11_step_58 (by decide) ?_
        refine e_iconst (v := 2) d_X11_step_61 (by decide) ?_
        refine e_aloadn d_X11_step_62 rfl ?_
        refine e_get d_X11_step_63 f_X11_7 (H_md.n (by decide)) rfl ?_
        refine e_iconst (v := 4) d_X11_step_66 (by decide) ?_
        refine e_ialdN (k := 4) d_X11_step_67 H_a.s rfl (by decide) (by decide) ?_
        refine e_imul d_X11_step_68 ?_
        refine e_iadd d_X11_step_69 ?_
        refine e_iconst (v := 1) d_X11_step_70 (by decide) ?_
        refine e_iadd d_X11_step_71 ?_
        refine e_iloadn d_X11_step_72 rfl ?_
        refine e_iastN (k := 360 + 2 * n + 1) d_X11_step_73 H_a.s (by first | (rw [ha4]; simp only [fa_lit, nI_add, pk_mul]) | (rw [va_up_ne _ _ (by omega), ha4]; simp only [fa_lit, nI_add, pk_mul])) (by omega) (by omega) ?_
        refine e_aloadn d_X11_step_74 rfl ?_
        refine e_get d_X11_step_75 f_X11_7 ((H_md.n (by decide)).n (by decide)) rfl ?_
        refine e_iconst (v := 4) d_X11_step_78 (by decide) ?_
        refine e_dup2 d_X11_step_79 rfl rfl ?_
        refine e_ialdN (k := 4) d_X11_step_80 H_a.s.s rfl (by decide) (by decide) ?_
        refine e_iconst (v := 1) d_X11_step_81 (by decide) ?_
        refine e_iadd d_X11_step_82 ?_
        refine e_iastN (k := 4) d_X11_step_83 H_a.s.s rfl (by decide) (by decide) ?_
        refine e_aloadn d_X11_step_84 rfl ?_
        refine e_get d_X11_step_85 f_X11_7 (((H_md.n (by decide)).n (by decide)).n (by decide)) rfl ?_
        refine e_iconst (v := 4) d_X11_step_88 (by decide) ?_
        refine e_ialdN (k := 4) d_X11_step_89 H_a.s.s.s rfl (by decide) (by decide) ?_
        exact e_iret d_X11_step_90 rfl (rfl) (Or.inl ⟨by grind [bI_0], by rw [va_up_self, va_up_ne _ _ (by omega), va_up_ne _ _ (by omega), ha4, nI_1], by simp only [up_up]; rw [va_up_ne _ _ (by omega), va_up_ne _ _ (by omega), ha4, nI_1]⟩)
      · refine e_iconst (v := -1) d_X11_step_34 (by decide) ?_
        exact e_iret d_X11_step_35 rfl (rfl) (Or.inr ⟨by first | (intro hp; rw [ha4] at c_31; have c9 := (nI_eq (a := n) (b := 8) (by omega) (by decide)).mp c_31; omega) | grind [bI_0], rfl, rfl⟩)

theorem s_X11_about {h : AH} {mtp mfl mfa mln mat mtk mso mto mwr mwp mop mfs mws mst mnc mnk mnr mdn : Int32} {mup mlo mgu mgl : Int64} {a : Nat → Int32} {w : Int32} {n : Nat} (H_md : Hs h 66 (oMd mtp mfl mfa mup mlo mln mat mtk mso mto mwr mwp mop mfs mws mst mnc mnk mnr mdn mgu mgl)) (H_a : Hs h 67 (aI 380 a)) (ha0 : a 0 = nI n) (hn : n ≤ 14) : Sp M_X11_about (0, 0) h [.ref 66, .int w] (pI (if 0 ≤ w ∧ w ≤ 5 then a w.toNatClampNeg else if w = 6 then mtp else if w = 7 then bitsOf (fun c => a (80 + c)) n else if w = 8 then bitsOf (fun c => a (10 + 5 * c + 4)) n else -1) h) := by
  refine ⟨Nat.le_of_ble_eq_true rfl, ?_⟩
  show E _ _ _ 0 h [some (.ref 66), some (.int w)] []
  refine e_iloadn d_X11_about_0 rfl ?_
  refine e_iconst (v := 0) d_X11_about_1 (by decide) ?_
  refine e_iconst (v := 5) d_X11_about_2 (by decide) ?_
  refine e_callSI d_X11_about_3 l_X11_about_101 (s_X11_in  ) rfl rfl (Nat.le_of_ble_eq_true rfl) ?_
  refine e_if_eq d_X11_about_6 (fun c_6 => ?_) (fun c_6 => ?_)
  · refine e_iloadn d_X11_about_16 rfl ?_
    refine e_bipush (v := 6) d_X11_about_17 (by decide) ?_
    refine e_icmp_ne d_X11_about_19 (fun c_19 => ?_) (fun c_19 => ?_)
    · refine e_iloadn d_X11_about_29 rfl ?_
      refine e_bipush (v := 7) d_X11_about_30 (by decide) ?_
      refine e_icmp_ne d_X11_about_32 (fun c_32 => ?_) (fun c_32 => ?_)
      · refine e_iloadn d_X11_about_42 rfl ?_
        refine e_bipush (v := 8) d_X11_about_43 (by decide) ?_
        refine e_icmp_ne d_X11_about_45 (fun c_45 => ?_) (fun c_45 => ?_)
        · refine e_iconst (v := -1) d_X11_about_55 (by decide) ?_
          exact e_iret d_X11_about_56 rfl (rfl) (⟨by grind [bI_0], rfl⟩)
        · refine e_aloadn d_X11_about_48 rfl ?_
          refine e_callVI d_X11_about_49 l_X11_about_371 H_md rfl rfl (s_X11_coinBits H_md H_a (by assumption) (by assumption)) rfl rfl (Nat.le_of_ble_eq_true rfl) ?_
          refine e_gt d_X11_about_52 ?_
          exact e_iret d_X11_about_56 rfl (rfl) (⟨by grind [bI_0], rfl⟩)
      · refine e_aloadn d_X11_about_35 rfl ?_
        refine e_callVI d_X11_about_36 l_X11_about_131 H_md rfl rfl (s_X11_hadBits H_md H_a (by assumption) (by assumption)) rfl rfl (Nat.le_of_ble_eq_true rfl) ?_
        refine e_gt d_X11_about_39 ?_
        exact e_iret d_X11_about_56 rfl (rfl) (⟨by grind [bI_0], rfl⟩)
    · refine e_aloadn d_X11_about_22 rfl ?_
      refine e_get d_X11_about_23 f_X11_142 H_md rfl ?_
      refine e_gt d_X11_about_26 ?_
      exact e_iret d_X11_about_56 rfl (rfl) (⟨by grind [bI_0], rfl⟩)
  · refine e_aloadn d_X11_about_9 rfl ?_
    refine e_get d_X11_about_10 f_X11_7 H_md rfl ?_
    refine e_iloadn d_X11_about_13 rfl ?_
    refine e_iald d_X11_about_14 H_a (vp_of (v := 380) (by grind [bI_0]) (by grind [bI_0]) (by decide)) ?_
    exact e_iret d_X11_about_15 rfl (rfl) (⟨by grind [bI_0], rfl⟩)

theorem s_X11_image {h : AH} {mtp mfl mfa mln mat mtk mso mto mwr mwp mop mfs mws mst mnc mnk mnr mdn : Int32} {mup mlo mgu mgl : Int64} {a im : Nat → Int32} (H_md : Hs h 66 (oMd mtp mfl mfa mup mlo mln mat mtk mso mto mwr mwp mop mfs mws mst mnc mnk mnr mdn mgu mgl)) (H_a : Hs h 67 (aI 380 a)) (H_image : Hs h 68 (aI 380 im)) : Sp M_X11_image (0, 0) h [.ref 66] (pI (a 0) (up h 68 (aI 380 (cpN a im 380)))) := by
  refine ⟨Nat.le_of_ble_eq_true rfl, ?_⟩
  show E _ _ _ 0 h [some (.ref 66)] []
  refine e_aloadn d_X11_image_0 rfl ?_
  refine e_iconst (v := 1) d_X11_image_1 (by decide) ?_
  refine e_callVV d_X11_image_2 l_X11_image_97 H_md rfl rfl (s_X11_copies_out H_md H_a H_image ) rfl rfl (Nat.le_of_ble_eq_true rfl) ?_
  refine e_aloadn d_X11_image_5 rfl ?_
  refine e_get d_X11_image_6 f_X11_7 (H_md.n (by decide)) rfl ?_
  refine e_iconst (v := 0) d_X11_image_9 (by decide) ?_
  refine e_ialdN (k := 0) d_X11_image_10 (H_a.n (by decide)) rfl (by decide) (by decide) ?_
  exact e_iret d_X11_image_11 rfl (rfl) (⟨rfl, rfl⟩)

theorem s_X11_again {h : AH} {mtp mfl mfa mln mat mtk mso mto mwr mwp mop mfs mws mst mnc mnk mnr mdn : Int32} {mup mlo mgu mgl : Int64} {a im : Nat → Int32} (H_md : Hs h 66 (oMd mtp mfl mfa mup mlo mln mat mtk mso mto mwr mwp mop mfs mws mst mnc mnk mnr mdn mgu mgl)) (H_a : Hs h 67 (aI 380 a)) (H_image : Hs h 68 (aI 380 im)) : Sp M_X11_again (0, 0) h [.ref 66] (pI (cpN im a 380 0) (up h 67 (aI 380 (cpN im a 380)))) := by
  refine ⟨Nat.le_of_ble_eq_true rfl, ?_⟩
  show E _ _ _ 0 h [some (.ref 66)] []
  refine e_aloadn d_X11_again_0 rfl ?_
  refine e_iconst (v := 0) d_X11_again_1 (by decide) ?_
  refine e_callVV d_X11_again_2 l_X11_again_97 H_md rfl rfl (s_X11_copies_in H_md H_a H_image ) rfl rfl (Nat.le_of_ble_eq_true rfl) ?_
  refine e_aloadn d_X11_again_5 rfl ?_
  refine e_get d_X11_again_6 f_X11_7 (H_md.n (by decide)) rfl ?_
  refine e_iconst (v := 0) d_X11_again_9 (by decide) ?_
  refine e_ialdN (k := 0) d_X11_again_10 H_a.s rfl (by decide) (by decide) ?_
  exact e_iret d_X11_again_11 rfl (rfl) (⟨rfl, rfl⟩)
