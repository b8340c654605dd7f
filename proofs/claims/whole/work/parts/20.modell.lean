/-! THE MODEL: feed, link -/
theorem s_X11_feed {h : AH} {mfl mfa mln mat mtk mso mto mwr mwp mop mfs mws mst mnc mnk mnr mdn : Int32} {mup mlo mgu mgl : Int64} {mt : Nat → Int32} {p q r s u : Int32} {t : Nat} (H_md : Hs h 66 (oMd (nI t) mfl mfa mup mlo mln mat mtk mso mto mwr mwp mop mfs mws mst mnc mnk mnr mdn mgu mgl)) (H_mtape : Hs h 69 (aB 300 mt)) (ht : t ≤ 300) : Sp M_X11_feed (0, 0) h [.ref 66, .int p, .int q, .int r, .int s, .int u] (pO (t + 20 ≤ 300) (nI (t + 20)) (-1) (up (up h 69 (aB 300 (mtape4 (mtape4 (mtape4 (mtape4 (mtape4 mt t p) (t + 4) q) (t + 4 + 4) r) (t + 4 + 4 + 4) s) (t + 4 + 4 + 4 + 4) u))) 66 (oMd (nI (t + 20)) mfl mfa mup mlo mln mat mtk mso mto mwr mwp mop mfs mws mst mnc mnk mnr mdn mgu mgl)) h) := by
  refine ⟨Nat.le_of_ble_eq_true rfl, ?_⟩
  show E _ _ _ 0 h [some (.ref 66), some (.int p), some (.int q), some (.int r), some (.int s), some (.int u)] []
  refine e_aloadn d_X11_feed_0 rfl ?_
  refine e_get d_X11_feed_1 f_X11_142 H_md rfl ?_
  refine e_bipush (v := 20) d_X11_feed_4 (by decide) ?_
  refine e_iadd d_X11_feed_6 ?_
  refine e_sipush (v := 300) d_X11_feed_7 (by decide) ?_
  refine e_icmp_le d_X11_feed_10 (fun c_10 => ?_) (fun c_10 => ?_)
  · have c := (i_le (a := t + 20) (b := 300) (by omega) (by decide) (by rw [← nI_add]; exact c_10))
    refine e_aloadn d_X11_feed_15 rfl ?_
    refine e_iloadn d_X11_feed_16 rfl ?_
    refine e_callVV d_X11_feed_17 l_X11_feed_145 H_md rfl rfl (s_X11_put H_md H_mtape (by omega)) rfl rfl (Nat.le_of_ble_eq_true rfl) ?_
    refine e_aloadn d_X11_feed_20 rfl ?_
    refine e_iloadn d_X11_feed_21 rfl ?_
    refine e_callVV d_X11_feed_22 l_X11_feed_145 ((H_md.n (by decide)).s) rfl rfl (s_X11_put ((H_md.n (by decide)).s) (H_mtape.s.n (by decide)) (by omega)) rfl rfl (Nat.le_of_ble_eq_true rfl) ?_
    refine e_aloadn d_X11_feed_25 rfl ?_
    refine e_iloadn d_X11_feed_26 rfl ?_
    refine e_callVV d_X11_feed_27 l_X11_feed_145 ((((H_md.n (by decide)).s).n (by decide)).s) rfl rfl (s_X11_put ((((H_md.n (by decide)).s).n (by decide)).s) (((H_mtape.s.n (by decide)).s).n (by decide)) (by omega)) rfl rfl (Nat.le_of_ble_eq_true rfl) ?_
    refine e_aloadn d_X11_feed_30 rfl ?_
    refine e_iload d_X11_feed_31 rfl ?_
    refine e_callVV d_X11_feed_33 l_X11_feed_145 ((((((H_md.n (by decide)).s).n (by decide)).s).n (by decide)).s) rfl rfl (s_X11_put ((((((H_md.n (by decide)).s).n (by decide)).s).n (by decide)).s) (((((H_mtape.s.n (by decide)).s).n (by decide)).s).n (by decide)) (by omega)) rfl rfl (Nat.le_of_ble_eq_true rfl) ?_
    refine e_aloadn d_X11_feed_36 rfl ?_
    refine e_iload d_X11_feed_37 rfl ?_
    refine e_callVV d_X11_feed_39 l_X11_feed_145 ((((((((H_md.n (by decide)).s).n (by decide)).s).n (by decide)).s).n (by decide)).s) rfl rfl (s_X11_put ((((((((H_md.n (by decide)).s).n (by decide)).s).n (by decide)).s).n (by decide)).s) (((((((H_mtape.s.n (by decide)).s).n (by decide)).s).n (by decide)).s).n (by decide)) (by omega)) rfl rfl (Nat.le_of_ble_eq_true rfl) ?_
    refine e_aloadn d_X11_feed_42 rfl ?_
    refine e_get d_X11_feed_43 f_X11_142 ((((((((((H_md.n (by decide)).s).n (by decide)).s).n (by decide)).s).n (by decide)).s).n (by decide)).s) rfl ?_
    exact e_iret d_X11_feed_46 rfl (rfl) (Or.inl ⟨c, rfl, by simp only [up_4 (show 69 ≠ 66 by decide)]⟩)
  · have c : ¬ t + 20 ≤ 300 := fun z => c_10 (by rw [show (20 : Int32) = nI 20 from rfl, nI_add]; exact nI_le z (by decide))
    refine e_iconst (v := -1) d_X11_feed_13 (by decide) ?_
    exact e_iret d_X11_feed_14 rfl (rfl) (Or.inr ⟨c, rfl, rfl⟩)

theorem nI_of_in {x : Int32} (h1 : 0 ≤ x) (h2 : x < 12) : x = nI x.toNatClampNeg := by
  obtain ⟨a, ha, rfl⟩ := vp_in_of (vp_of (n := 12) h1 h2 rfl) (by decide)
  rw [nI_clamp (by omega)]
theorem lt12 {x : Int32} (h1 : 0 ≤ x) (h2 : x < 12) (d : Nat) (hd : d < 4 := by decide) : 100 + 4 * x.toNatClampNeg + d < 380 := by
  obtain ⟨a, ha, rfl⟩ := vp_in_of (vp_of (n := 12) h1 h2 rfl) (by decide)
  rw [nI_clamp (by omega)]
  omega

theorem s_X11_link {h : AH} {mtp mfl mfa mln mat mtk mso mto mwr mwp mop mfs mws mst mnc mnk mnr mdn : Int32} {mup mlo mgu mgl : Int64} {a : Nat → Int32} {x y : Int32} {n : Nat} (H_md : Hs h 66 (oMd mtp mfl mfa mup mlo mln mat mtk mso mto mwr mwp mop mfs mws mst mnc mnk mnr mdn mgu mgl)) (H_a : Hs h 67 (aI 380 a)) (h10 : 0 ≤ a 1) (h11 : a 1 ≤ 12) (ha3 : a 3 = nI n) (hn : n ≤ 20) : Sp M_X11_link (0, 0) h [.ref 66, .int x, .int y] (pO (0 ≤ x ∧ x ≤ a 1 - 1 ∧ 0 ≤ y ∧ y ≤ a 1 - 1 ∧ a (100 + 4 * x.toNatClampNeg + 1) < a (100 + 4 * y.toNatClampNeg + 1) ∧ n < 20 ∧ (∀ j, j < n → ¬ (a (320 + 2 * j) = x ∧ a (320 + 2 * j + 1) = y))) (nI (n + 1)) (-1) (up h 67 (aI 380 (va_up (va_up (va_up a (320 + 2 * n) x) (320 + 2 * n + 1) y) 3 (nI (n + 1))))) h) := by
  refine ⟨Nat.le_of_ble_eq_true rfl, ?_⟩
  show E _ _ _ 0 h [some (.ref 66), some (.int x), some (.int y), none] []
  have hA : ((∀ j, j < n → ¬ (a (320 + 2 * j) = x ∧ a (320 + 2 * j + 1) = y)) → (0 ≤ x ∧ x ≤ a 1 - 1 ∧ 0 ≤ y ∧ y ≤ a 1 - 1 ∧ a (100 + 4 * x.toNatClampNeg + 1) < a (100 + 4 * y.toNatClampNeg + 1) ∧ n < 20 ∧ (∀ j, j < n → ¬ (a (320 + 2 * j) = x ∧ a (320 + 2 * j + 1) = y)))) → ∀ i, i ≤ n → ∀ (z : Int32) (s : Unit), z = nI i → (∀ j, j < i → ¬ (a (320 + 2 * j) = x ∧ a (320 + 2 * j + 1) = y)) → E M_X11_link (0, 0) (pO (0 ≤ x ∧ x ≤ a 1 - 1 ∧ 0 ≤ y ∧ y ≤ a 1 - 1 ∧ a (100 + 4 * x.toNatClampNeg + 1) < a (100 + 4 * y.toNatClampNeg + 1) ∧ n < 20 ∧ (∀ j, j < n → ¬ (a (320 + 2 * j) = x ∧ a (320 + 2 * j + 1) = y))) (nI (n + 1)) (-1) (up h 67 (aI 380 (va_up (va_up (va_up a (320 + 2 * n) x) (320 + 2 * n + 1) y) 3 (nI (n + 1))))) h) 46 (h) [some (.ref 66), some (.int x), some (.int y), some (.int z)] [] := by
    intro hp
    refine loop_ind (n := n) ?_
    intro i hi ih z s h_z h_s
    refine e_iloadn d_X11_link_46 rfl ?_
    refine e_aloadn d_X11_link_47 rfl ?_
    refine e_get d_X11_link_48 f_X11_7 H_md rfl ?_
    refine e_iconst (v := 3) d_X11_link_51 (by decide) ?_
    refine e_ialdN (k := 3) d_X11_link_52 H_a rfl (by decide) (by decide) ?_
    subst h_z
    rw [ha3]
    refine e_icmp_ge d_X11_link_53 (fun c => ?_) (fun c => ?_)
    · have c := i_le (by omega) (by omega) c
      obtain rfl : i = n := by omega
      refine e_aloadn d_X11_link_98 rfl ?_
      refine e_get d_X11_link_99 f_X11_7 H_md rfl ?_
      refine e_sipush (v := 320) d_X11_link_102 (by decide) ?_
      refine e_iconst (v := 2) d_X11_link_105 (by decide) ?_
      refine e_aloadn d_X11_link_106 rfl ?_
      refine e_get d_X11_link_107 f_X11_7 H_md rfl ?_
      refine e_iconst (v := 3) d_X11_link_110 (by decide) ?_
      refine e_ialdN (k := 3) d_X11_link_111 H_a rfl (by decide) (by decide) ?_
      refine e_imul d_X11_link_112 ?_
      refine e_iadd d_X11_link_113 ?_
      refine e_iloadn d_X11_link_114 rfl ?_
      refine e_iastN (k := 320 + 2 * i) d_X11_link_115 H_a (by first | (rw [ha3]; simp only [fa_lit, nI_add, pk_mul]) | (rw [va_up_ne _ _ (by omega), ha3]; simp only [fa_lit, nI_add, pk_mul])) (by omega) (by omega) ?_
      refine e_aloadn d_X11_link_116 rfl ?_
      refine e_get d_X11_link_117 f_X11_7 (H_md.n (by decide)) rfl ?_
      refine e_sipush (v := 320) d_X11_link_120 (by decide) ?_
      refine e_iconst (v := 2) d_X11_link_123 (by decide) ?_
      refine e_aloadn d_X11_link_124 rfl ?_
      refine e_get d_X11_link_125 f_X11_7 (H_md.n (by decide)) rfl ?_
      refine e_iconst (v := 3) d_X11_link_128 (by decide) ?_
      refine e_ialdN (k := 3) d_X11_link_129 H_a.s rfl (by decide) (by decide) ?_
      refine e_imul d_X11_link_130 ?_
      refine e_iadd d_X11_link_131 ?_
      refine e_iconst (v := 1) d_X11_link_132 (by decide) ?_
      refine e_iadd d_X11_link_133 ?_
      refine e_iloadn d_X11_link_134 rfl ?_
      refine e_iastN (k := 320 + 2 * i + 1) d_X11_link_135 H_a.s (by first | (rw [ha3]; simp only [fa_lit, nI_add, pk_mul]) | (rw [va_up_ne _ _ (by omega), ha3]; simp only [fa_lit, nI_add, pk_mul])) (by omega) (by omega) ?_
      refine e_aloadn d_X11_link_136 rfl ?_
      refine e_get d_X11_link_137 f_X11_7 ((H_md.n (by decide)).n (by decide)) rfl ?_
      refine e_iconst (v := 3) d_X11_link_140 (by decide) ?_
      refine e_dup2 d_X11_link_141 rfl rfl ?_
      refine e_ialdN (k := 3) d_X11_link_142 H_a.s.s rfl (by decide) (by decide) ?_
      refine e_iconst (v := 1) d_X11_link_143 (by decide) ?_
      refine e_iadd d_X11_link_144 ?_
      refine e_iastN (k := 3) d_X11_link_145 H_a.s.s rfl (by decide) (by decide) ?_
      refine e_aloadn d_X11_link_146 rfl ?_
      refine e_get d_X11_link_147 f_X11_7 (((H_md.n (by decide)).n (by decide)).n (by decide)) rfl ?_
      refine e_iconst (v := 3) d_X11_link_150 (by decide) ?_
      refine e_ialdN (k := 3) d_X11_link_151 H_a.s.s.s rfl (by decide) (by decide) ?_
      exact e_iret d_X11_link_152 rfl (rfl) (Or.inl ⟨hp h_s, by rw [va_up_self, va_up_ne _ _ (by omega), va_up_ne _ _ (by omega), ha3, nI_1], by simp only [up_up]; rw [va_up_ne _ _ (by omega), va_up_ne _ _ (by omega), ha3, nI_1]⟩)
    · have c := i_nle (by omega) (by omega) c
      refine e_aloadn d_X11_link_56 rfl ?_
      refine e_get d_X11_link_57 f_X11_7 H_md rfl ?_
      refine e_sipush (v := 320) d_X11_link_60 (by decide) ?_
      refine e_iconst (v := 2) d_X11_link_63 (by decide) ?_
      refine e_iloadn d_X11_link_64 rfl ?_
      refine e_imul d_X11_link_65 ?_
      refine e_iadd d_X11_link_66 ?_
      refine e_ialdN (k := 320 + 2 * i) d_X11_link_67 H_a (by simp only [fa_lit, nI_add, pk_mul]) (by omega) (by omega) ?_
      refine e_iloadn d_X11_link_68 rfl ?_
      refine e_icmp_ne d_X11_link_69 (fun c_69 => ?_) (fun c_69 => ?_)
      · refine e_iincw (w := 1) d_X11_link_92 rfl (by decide) (by decide) rfl ?_
        refine e_gt d_X11_link_95 ?_
        refine ih (i + 1) (by omega) (by omega) _ () ?_ ?_
        · exact nI_1 i
        · exact fun j hj => (Nat.lt_or_eq_of_le (Nat.le_of_lt_succ hj)).elim (h_s j) (fun e => by subst e; grind)
      · refine e_aloadn d_X11_link_72 rfl ?_
        refine e_get d_X11_link_73 f_X11_7 H_md rfl ?_
        refine e_sipush (v := 320) d_X11_link_76 (by decide) ?_
        refine e_iconst (v := 2) d_X11_link_79 (by decide) ?_
        refine e_iloadn d_X11_link_80 rfl ?_
        refine e_imul d_X11_link_81 ?_
        refine e_iadd d_X11_link_82 ?_
        refine e_iconst (v := 1) d_X11_link_83 (by decide) ?_
        refine e_iadd d_X11_link_84 ?_
        refine e_ialdN (k := 320 + 2 * i + 1) d_X11_link_85 H_a (by simp only [fa_lit, nI_add, pk_mul]) (by omega) (by omega) ?_
        refine e_iloadn d_X11_link_86 rfl ?_
        refine e_icmp_ne d_X11_link_87 (fun c_87 => ?_) (fun c_87 => ?_)
        · refine e_iincw (w := 1) d_X11_link_92 rfl (by decide) (by decide) rfl ?_
          refine e_gt d_X11_link_95 ?_
          refine ih (i + 1) (by omega) (by omega) _ () ?_ ?_
          · exact nI_1 i
          · exact fun j hj => (Nat.lt_or_eq_of_le (Nat.le_of_lt_succ hj)).elim (h_s j) (fun e => by subst e; grind)
        · refine e_iconst (v := -1) d_X11_link_90 (by decide) ?_
          exact e_iret d_X11_link_91 rfl (rfl) (Or.inr ⟨fun w => w.2.2.2.2.2.2 i c ⟨by assumption, by assumption⟩, rfl, rfl⟩)
  refine e_aloadn d_X11_link_0 rfl ?_
  refine e_iloadn d_X11_link_1 rfl ?_
  refine e_callVI d_X11_link_2 l_X11_link_109 H_md rfl rfl (s_X11_isThing H_md H_a ) rfl rfl (Nat.le_of_ble_eq_true rfl) ?_
  refine e_if_eq d_X11_link_5 (fun c_5 => ?_) (fun c_5 => ?_)
  · refine e_iconst (v := -1) d_X11_link_42 (by decide) ?_
    exact e_iret d_X11_link_43 rfl (rfl) (Or.inr ⟨by clear hA; first | (intro hp; rw [ha3] at c_39; have c9 := (nI_eq (a := n) (b := 20) (by omega) (by decide)).mp c_39; omega) | grind [bI_0], rfl, rfl⟩)
  · refine e_aloadn d_X11_link_8 rfl ?_
    refine e_iloadn d_X11_link_9 rfl ?_
    refine e_callVI d_X11_link_10 l_X11_link_109 H_md rfl rfl (s_X11_isThing H_md H_a ) rfl rfl (Nat.le_of_ble_eq_true rfl) ?_
    refine e_if_eq d_X11_link_13 (fun c_13 => ?_) (fun c_13 => ?_)
    · refine e_iconst (v := -1) d_X11_link_42 (by decide) ?_
      exact e_iret d_X11_link_43 rfl (rfl) (Or.inr ⟨by clear hA; first | (intro hp; rw [ha3] at c_39; have c9 := (nI_eq (a := n) (b := 20) (by omega) (by decide)).mp c_39; omega) | grind [bI_0], rfl, rfl⟩)
    · refine e_aloadn d_X11_link_16 rfl ?_
      refine e_iloadn d_X11_link_17 rfl ?_
      refine e_iconst (v := 1) d_X11_link_18 (by decide) ?_
      refine e_callVI d_X11_link_19 l_X11_link_123 H_md rfl rfl (s_X11_of (c := x.toNatClampNeg) (d := 1) H_md H_a (nI_of_in (by grind [bI_0]) (by grind [bI_0])) rfl (lt12 (by grind [bI_0]) (by grind [bI_0]) 1)) rfl rfl (Nat.le_of_ble_eq_true rfl) ?_
      refine e_aloadn d_X11_link_22 rfl ?_
      refine e_iloadn d_X11_link_23 rfl ?_
      refine e_iconst (v := 1) d_X11_link_24 (by decide) ?_
      refine e_callVI d_X11_link_25 l_X11_link_123 H_md rfl rfl (s_X11_of (c := y.toNatClampNeg) (d := 1) H_md H_a (nI_of_in (by grind [bI_0]) (by grind [bI_0])) rfl (lt12 (by grind [bI_0]) (by grind [bI_0]) 1)) rfl rfl (Nat.le_of_ble_eq_true rfl) ?_
      refine e_icmp_ge d_X11_link_28 (fun c_28 => ?_) (fun c_28 => ?_)
      · refine e_iconst (v := -1) d_X11_link_42 (by decide) ?_
        exact e_iret d_X11_link_43 rfl (rfl) (Or.inr ⟨by clear hA; first | (intro hp; rw [ha3] at c_39; have c9 := (nI_eq (a := n) (b := 20) (by omega) (by decide)).mp c_39; omega) | grind [bI_0], rfl, rfl⟩)
      · refine e_aloadn d_X11_link_31 rfl ?_
        refine e_get d_X11_link_32 f_X11_7 H_md rfl ?_
        refine e_iconst (v := 3) d_X11_link_35 (by decide) ?_
        refine e_ialdN (k := 3) d_X11_link_36 H_a rfl (by decide) (by decide) ?_
        refine e_bipush (v := 20) d_X11_link_37 (by decide) ?_
        refine e_icmp_ne d_X11_link_39 (fun c_39 => ?_) (fun c_39 => ?_)
        · refine e_iconst (v := 0) d_X11_link_44 (by decide) ?_
          refine e_istoren d_X11_link_45 (by decide) rfl ?_
          exact hA (by have c9 : n ≠ 20 := fun z => c_39 (by rw [ha3, z]; rfl); clear hA; intro hs; refine ⟨?_, ?_, ?_, ?_, ?_, by omega, hs⟩ <;> grind [bI_0]) 0 (by omega) _ () (rfl) (fun j hj => absurd hj (Nat.not_lt_zero _))
        · refine e_iconst (v := -1) d_X11_link_42 (by decide) ?_
          exact e_iret d_X11_link_43 rfl (rfl) (Or.inr ⟨by clear hA; first | (intro hp; rw [ha3] at c_39; have c9 := (nI_eq (a := n) (b := 20) (by omega) (by decide)).mp c_39; omega) | grind [bI_0], rfl, rfl⟩)
