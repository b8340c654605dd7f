/-! THE MODEL: what is told one by one -/
/-- the bits told one by one -/
def bitsOf (f : Nat → Int32) : Nat → Int32
  | 0 => 0
  | k + 1 => bitsOf f k ||| (f k <<< (nI k &&& 31))

theorem s_X11_hadBits {h : AH} {mtp mfl mfa mln mat mtk mso mto mwr mwp mop mfs mws mst mnc mnk mnr mdn : Int32} {mup mlo mgu mgl : Int64} {a : Nat → Int32} {n : Nat} (H_md : Hs h 66 (oMd mtp mfl mfa mup mlo mln mat mtk mso mto mwr mwp mop mfs mws mst mnc mnk mnr mdn mgu mgl)) (H_a : Hs h 67 (aI 380 a)) (ha0 : a 0 = nI n) (hn : n ≤ 14) : Sp M_X11_hadBits (0, 0) h [.ref 66] (pI (bitsOf (fun c => a (80 + c)) n) h) := by
  refine ⟨Nat.le_of_ble_eq_true rfl, ?_⟩
  show E _ _ _ 0 h [some (.ref 66), none, none] []
  have hA : ∀ i, i ≤ n → ∀ (z : Int32) (x : Int32), z = bitsOf (fun c => a (80 + c)) i → x = nI i → E M_X11_hadBits (0, 0) (pI (bitsOf (fun c => a (80 + c)) n) h) 4 (h) [some (.ref 66), some (.int z), some (.int x)] [] := by
    refine loop_ind (n := n) ?_
    intro i hi ih z x h_z h_x
    refine e_iloadn d_X11_hadBits_4 rfl ?_
    refine e_aloadn d_X11_hadBits_5 rfl ?_
    refine e_get d_X11_hadBits_6 f_X11_7 H_md rfl ?_
    refine e_iconst (v := 0) d_X11_hadBits_9 (by decide) ?_
    refine e_ialdN (k := 0) d_X11_hadBits_10 H_a rfl (by decide) (by decide) ?_
    subst h_x
    rw [ha0]
    refine e_icmp_ge d_X11_hadBits_11 (fun c => ?_) (fun c => ?_)
    · have c := i_le (by omega) (by omega) c
      obtain rfl : i = n := by omega
      refine e_iloadn d_X11_hadBits_34 rfl ?_
      exact e_iret d_X11_hadBits_35 rfl (rfl) (⟨by rw [h_z], rfl⟩)
    · have c := i_nle (by omega) (by omega) c
      refine e_iloadn d_X11_hadBits_14 rfl ?_
      refine e_aloadn d_X11_hadBits_15 rfl ?_
      refine e_get d_X11_hadBits_16 f_X11_7 H_md rfl ?_
      refine e_bipush (v := 80) d_X11_hadBits_19 (by decide) ?_
      refine e_iloadn d_X11_hadBits_21 rfl ?_
      refine e_iadd d_X11_hadBits_22 ?_
      refine e_ialdN (k := 80 + i) d_X11_hadBits_23 H_a (by simp only [fa_lit, nI_add, pk_mul]) (by omega) (by omega) ?_
      refine e_iloadn d_X11_hadBits_24 rfl ?_
      refine e_ishl d_X11_hadBits_25 ?_
      refine e_ior d_X11_hadBits_26 ?_
      refine e_istoren d_X11_hadBits_27 (by decide) rfl ?_
      refine e_iincw (w := 1) d_X11_hadBits_28 rfl (by decide) (by decide) rfl ?_
      refine e_gt d_X11_hadBits_31 ?_
      refine ih (i + 1) (by omega) (by omega) _ _ ?_ ?_
      · rw [h_z]; rfl
      · exact nI_1 i
  refine e_iconst (v := 0) d_X11_hadBits_0 (by decide) ?_
  refine e_istoren d_X11_hadBits_1 (by decide) rfl ?_
  refine e_iconst (v := 0) d_X11_hadBits_2 (by decide) ?_
  refine e_istoren d_X11_hadBits_3 (by decide) rfl ?_
  exact hA 0 (by omega) _ _ (rfl) (rfl)

theorem s_X11_childOf {h : AH} {mtp mfl mfa mln mat mtk mso mto mwr mwp mop mfs mws mst mnc mnk mnr mdn : Int32} {mup mlo mgu mgl : Int64} {a : Nat → Int32} {x y : Int32} {c d : Nat} (H_md : Hs h 66 (oMd mtp mfl mfa mup mlo mln mat mtk mso mto mwr mwp mop mfs mws mst mnc mnk mnr mdn mgu mgl)) (H_a : Hs h 67 (aI 380 a)) (hx : x = nI c) (hy : y = nI d) (hcd : 10 + 5 * c + d < 380) : Sp M_X11_childOf (0, 0) h [.ref 66, .int x, .int y] (pI (a (10 + 5 * c + d)) h) := by
  refine ⟨Nat.le_of_ble_eq_true rfl, ?_⟩
  show E _ _ _ 0 h [some (.ref 66), some (.int x), some (.int y)] []
  refine e_aloadn d_X11_childOf_0 rfl ?_
  refine e_get d_X11_childOf_1 f_X11_7 H_md rfl ?_
  refine e_bipush (v := 10) d_X11_childOf_4 (by decide) ?_
  refine e_iconst (v := 5) d_X11_childOf_6 (by decide) ?_
  refine e_iloadn d_X11_childOf_7 rfl ?_
  refine e_imul d_X11_childOf_8 ?_
  refine e_iadd d_X11_childOf_9 ?_
  refine e_iloadn d_X11_childOf_10 rfl ?_
  refine e_iadd d_X11_childOf_11 ?_
  refine e_ialdN (k := 10 + 5 * c + d) d_X11_childOf_12 H_a (by rw [hx, hy]; simp only [fa_lit, nI_add, pk_mul]) (by omega) (by omega) ?_
  exact e_iret d_X11_childOf_13 rfl (rfl) (⟨rfl, rfl⟩)

theorem s_X11_of {h : AH} {mtp mfl mfa mln mat mtk mso mto mwr mwp mop mfs mws mst mnc mnk mnr mdn : Int32} {mup mlo mgu mgl : Int64} {a : Nat → Int32} {x y : Int32} {c d : Nat} (H_md : Hs h 66 (oMd mtp mfl mfa mup mlo mln mat mtk mso mto mwr mwp mop mfs mws mst mnc mnk mnr mdn mgu mgl)) (H_a : Hs h 67 (aI 380 a)) (hx : x = nI c) (hy : y = nI d) (hcd : 100 + 4 * c + d < 380) : Sp M_X11_of (0, 0) h [.ref 66, .int x, .int y] (pI (a (100 + 4 * c + d)) h) := by
  refine ⟨Nat.le_of_ble_eq_true rfl, ?_⟩
  show E _ _ _ 0 h [some (.ref 66), some (.int x), some (.int y)] []
  refine e_aloadn d_X11_of_0 rfl ?_
  refine e_get d_X11_of_1 f_X11_7 H_md rfl ?_
  refine e_bipush (v := 100) d_X11_of_4 (by decide) ?_
  refine e_iconst (v := 4) d_X11_of_6 (by decide) ?_
  refine e_iloadn d_X11_of_7 rfl ?_
  refine e_imul d_X11_of_8 ?_
  refine e_iadd d_X11_of_9 ?_
  refine e_iloadn d_X11_of_10 rfl ?_
  refine e_iadd d_X11_of_11 ?_
  refine e_ialdN (k := 100 + 4 * c + d) d_X11_of_12 H_a (by rw [hx, hy]; simp only [fa_lit, nI_add, pk_mul]) (by omega) (by omega) ?_
  exact e_iret d_X11_of_13 rfl (rfl) (⟨rfl, rfl⟩)

theorem s_X11_answerOf {h : AH} {mtp mfl mfa mln mat mtk mso mto mwr mwp mop mfs mws mst mnc mnk mnr mdn : Int32} {mup mlo mgu mgl : Int64} {a : Nat → Int32} {x y : Int32} {c d : Nat} (H_md : Hs h 66 (oMd mtp mfl mfa mup mlo mln mat mtk mso mto mwr mwp mop mfs mws mst mnc mnk mnr mdn mgu mgl)) (H_a : Hs h 67 (aI 380 a)) (hx : x = nI c) (hy : y = nI d) (hcd : 150 + 14 * c + d < 380) : Sp M_X11_answerOf (0, 0) h [.ref 66, .int x, .int y] (pI (a (150 + 14 * c + d)) h) := by
  refine ⟨Nat.le_of_ble_eq_true rfl, ?_⟩
  show E _ _ _ 0 h [some (.ref 66), some (.int x), some (.int y)] []
  refine e_aloadn d_X11_answerOf_0 rfl ?_
  refine e_get d_X11_answerOf_1 f_X11_7 H_md rfl ?_
  refine e_sipush (v := 150) d_X11_answerOf_4 (by decide) ?_
  refine e_bipush (v := 14) d_X11_answerOf_7 (by decide) ?_
  refine e_iloadn d_X11_answerOf_9 rfl ?_
  refine e_imul d_X11_answerOf_10 ?_
  refine e_iadd d_X11_answerOf_11 ?_
  refine e_iloadn d_X11_answerOf_12 rfl ?_
  refine e_iadd d_X11_answerOf_13 ?_
  refine e_ialdN (k := 150 + 14 * c + d) d_X11_answerOf_14 H_a (by rw [hx, hy]; simp only [fa_lit, nI_add, pk_mul]) (by omega) (by omega) ?_
  exact e_iret d_X11_answerOf_15 rfl (rfl) (⟨rfl, rfl⟩)

theorem s_X11_coinBits {h : AH} {mtp mfl mfa mln mat mtk mso mto mwr mwp mop mfs mws mst mnc mnk mnr mdn : Int32} {mup mlo mgu mgl : Int64} {a : Nat → Int32} {n : Nat} (H_md : Hs h 66 (oMd mtp mfl mfa mup mlo mln mat mtk mso mto mwr mwp mop mfs mws mst mnc mnk mnr mdn mgu mgl)) (H_a : Hs h 67 (aI 380 a)) (ha0 : a 0 = nI n) (hn : n ≤ 14) : Sp M_X11_coinBits (0, 0) h [.ref 66] (pI (bitsOf (fun c => a (10 + 5 * c + 4)) n) h) := by
  refine ⟨Nat.le_of_ble_eq_true rfl, ?_⟩
  show E _ _ _ 0 h [some (.ref 66), none, none] []
  have hA : ∀ i, i ≤ n → ∀ (z : Int32) (x : Int32), z = bitsOf (fun c => a (10 + 5 * c + 4)) i → x = nI i → E M_X11_coinBits (0, 0) (pI (bitsOf (fun c => a (10 + 5 * c + 4)) n) h) 4 (h) [some (.ref 66), some (.int z), some (.int x)] [] := by
    refine loop_ind (n := n) ?_
    intro i hi ih z x h_z h_x
    refine e_iloadn d_X11_coinBits_4 rfl ?_
    refine e_aloadn d_X11_coinBits_5 rfl ?_
    refine e_get d_X11_coinBits_6 f_X11_7 H_md rfl ?_
    refine e_iconst (v := 0) d_X11_coinBits_9 (by decide) ?_
    refine e_ialdN (k := 0) d_X11_coinBits_10 H_a rfl (by decide) (by decide) ?_
    subst h_x
    rw [ha0]
    refine e_icmp_ge d_X11_coinBits_11 (fun c => ?_) (fun c => ?_)
    · have c := i_le (by omega) (by omega) c
      obtain rfl : i = n := by omega
      refine e_iloadn d_X11_coinBits_31 rfl ?_
      exact e_iret d_X11_coinBits_32 rfl (rfl) (⟨by rw [h_z], rfl⟩)
    · have c := i_nle (by omega) (by omega) c
      refine e_iloadn d_X11_coinBits_14 rfl ?_
      refine e_aloadn d_X11_coinBits_15 rfl ?_
      refine e_iloadn d_X11_coinBits_16 rfl ?_
      refine e_iconst (v := 4) d_X11_coinBits_17 (by decide) ?_
      refine e_callVI d_X11_coinBits_18 l_X11_coinBits_116 H_md rfl rfl (s_X11_childOf (c := i) (d := 4) H_md H_a rfl rfl (by omega)) rfl rfl (Nat.le_of_ble_eq_true rfl) ?_
      refine e_iloadn d_X11_coinBits_21 rfl ?_
      refine e_ishl d_X11_coinBits_22 ?_
      refine e_ior d_X11_coinBits_23 ?_
      refine e_istoren d_X11_coinBits_24 (by decide) rfl ?_
      refine e_iincw (w := 1) d_X11_coinBits_25 rfl (by decide) (by decide) rfl ?_
      refine e_gt d_X11_coinBits_28 ?_
      refine ih (i + 1) (by omega) (by omega) _ _ ?_ ?_
      · rw [h_z]; rfl
      · exact nI_1 i
  refine e_iconst (v := 0) d_X11_coinBits_0 (by decide) ?_
  refine e_istoren d_X11_coinBits_1 (by decide) rfl ?_
  refine e_iconst (v := 0) d_X11_coinBits_2 (by decide) ?_
  refine e_istoren d_X11_coinBits_3 (by decide) rfl ?_
  exact hA 0 (by omega) _ _ (rfl) (rfl)

def cpN (f g : Nat → Int32) (n : Nat) : Nat → Int32 := fun j => if j < n then f j else g j
theorem cpN_succ {f g : Nat → Int32} {n : Nat} : va_up (cpN f g n) n (f n) = cpN f g (n + 1) := by
  funext j
  simp only [va_up, cpN]
  split
  · rename_i e; subst e; rw [if_pos (Nat.lt_succ_self _)]
  · split
    · rw [if_pos (by omega)]
    · rw [if_neg (by omega)]
theorem cpN_0 {f g : Nat → Int32} : cpN f g 0 = g := funext fun j => by simp [cpN]
theorem cpN_at {f g : Nat → Int32} {n j : Nat} (h : n ≤ j) : cpN f g n j = g j := by simp [cpN]; omega

theorem s_X11_copies_out {h : AH} {mtp mfl mfa mln mat mtk mso mto mwr mwp mop mfs mws mst mnc mnk mnr mdn : Int32} {mup mlo mgu mgl : Int64} {a im : Nat → Int32} (H_md : Hs h 66 (oMd mtp mfl mfa mup mlo mln mat mtk mso mto mwr mwp mop mfs mws mst mnc mnk mnr mdn mgu mgl)) (H_a : Hs h 67 (aI 380 a)) (H_image : Hs h 68 (aI 380 im)) : Sp M_X11_copies (0, 0) h [.ref 66, .int 1] (pV (up h 68 (aI 380 (cpN a im 380)))) := by
  refine ⟨Nat.le_of_ble_eq_true rfl, ?_⟩
  show E _ _ _ 0 h [some (.ref 66), some (.int 1), none] []
  have hA : ∀ i, i ≤ 380 → ∀ (x : Int32), x = nI i → E M_X11_copies (0, 0) (pV (up h 68 (aI 380 (cpN a im 380)))) 2 (up h 68 (aI 380 (cpN a im i))) [some (.ref 66), some (.int 1), some (.int x)] [] := by
    refine loop_ind (n := 380) ?_
    intro i hi ih x h_x
    refine e_iloadn d_X11_copies_2 rfl ?_
    refine e_sipush (v := 380) d_X11_copies_3 (by decide) ?_
    subst h_x
    refine e_icmp_ge d_X11_copies_6 (fun c => ?_) (fun c => ?_)
    · have c := i_le (a := 380) (by decide) (by omega) c
      obtain rfl : i = 380 := by omega
      exact e_vret d_X11_copies_46 rfl (⟨rfl, rfl⟩)
    · have c := i_nle (a := 380) (by decide) (by omega) c
      refine e_iloadn d_X11_copies_9 rfl ?_
      refine e_if_eq d_X11_copies_10 (fun z => by first | exact absurd (by decide) z | exact absurd z (by decide)) (fun _ => ?_)
      refine e_aloadn d_X11_copies_13 rfl ?_
      refine e_get d_X11_copies_14 f_X11_13 (H_md.n (by decide)) rfl ?_
      refine e_iloadn d_X11_copies_17 rfl ?_
      refine e_aloadn d_X11_copies_18 rfl ?_
      refine e_get d_X11_copies_19 f_X11_7 (H_md.n (by decide)) rfl ?_
      refine e_iloadn d_X11_copies_22 rfl ?_
      refine e_ialdN (k := i) d_X11_copies_23 (H_a.n (by decide)) rfl (by omega) (by omega) ?_
      refine e_iastN (k := i) d_X11_copies_24 H_image.s rfl (by omega) (by omega) ?_
      refine e_gt d_X11_copies_25 ?_
      refine e_iincw (w := 1) d_X11_copies_40 rfl (by decide) (by decide) rfl ?_
      refine e_gt d_X11_copies_43 ?_
      rw [up_up, cpN_succ]
      refine ih (i + 1) (by omega) (by omega) _ ?_
      · exact nI_1 i
  refine e_iconst (v := 0) d_X11_copies_0 (by decide) ?_
  refine e_istoren d_X11_copies_1 (by decide) rfl ?_
  have e0 : up h 68 (aI 380 (cpN a im 0)) = h := by rw [cpN_0]; exact up_same H_image
  have hB := hA 0 (by omega) 0 rfl
  rw [e0] at hB
  exact hB

theorem s_X11_copies_in {h : AH} {mtp mfl mfa mln mat mtk mso mto mwr mwp mop mfs mws mst mnc mnk mnr mdn : Int32} {mup mlo mgu mgl : Int64} {a im : Nat → Int32} (H_md : Hs h 66 (oMd mtp mfl mfa mup mlo mln mat mtk mso mto mwr mwp mop mfs mws mst mnc mnk mnr mdn mgu mgl)) (H_a : Hs h 67 (aI 380 a)) (H_image : Hs h 68 (aI 380 im)) : Sp M_X11_copies (0, 0) h [.ref 66, .int 0] (pV (up h 67 (aI 380 (cpN im a 380)))) := by
  refine ⟨Nat.le_of_ble_eq_true rfl, ?_⟩
  show E _ _ _ 0 h [some (.ref 66), some (.int 0), none] []
  have hA : ∀ i, i ≤ 380 → ∀ (x : Int32), x = nI i → E M_X11_copies (0, 0) (pV (up h 67 (aI 380 (cpN im a 380)))) 2 (up h 67 (aI 380 (cpN im a i))) [some (.ref 66), some (.int 0), some (.int x)] [] := by
    refine loop_ind (n := 380) ?_
    intro i hi ih x h_x
    refine e_iloadn d_X11_copies_2 rfl ?_
    refine e_sipush (v := 380) d_X11_copies_3 (by decide) ?_
    subst h_x
    refine e_icmp_ge d_X11_copies_6 (fun c => ?_) (fun c => ?_)
    · have c := i_le (a := 380) (by decide) (by omega) c
      obtain rfl : i = 380 := by omega
      exact e_vret d_X11_copies_46 rfl (⟨rfl, rfl⟩)
    · have c := i_nle (a := 380) (by decide) (by omega) c
      refine e_iloadn d_X11_copies_9 rfl ?_
      refine e_if_eq d_X11_copies_10 (fun _ => ?_) (fun z => by first | exact absurd (by decide) z | exact absurd z (by decide))
      refine e_aloadn d_X11_copies_28 rfl ?_
      refine e_get d_X11_copies_29 f_X11_7 (H_md.n (by decide)) rfl ?_
      refine e_iloadn d_X11_copies_32 rfl ?_
      refine e_aloadn d_X11_copies_33 rfl ?_
      refine e_get d_X11_copies_34 f_X11_13 (H_md.n (by decide)) rfl ?_
      refine e_iloadn d_X11_copies_37 rfl ?_
      refine e_ialdN (k := i) d_X11_copies_38 (H_image.n (by decide)) rfl (by omega) (by omega) ?_
      refine e_iastN (k := i) d_X11_copies_39 H_a.s rfl (by omega) (by omega) ?_
      refine e_iincw (w := 1) d_X11_copies_40 rfl (by decide) (by decide) rfl ?_
      refine e_gt d_X11_copies_43 ?_
      rw [up_up, cpN_succ]
      refine ih (i + 1) (by omega) (by omega) _ ?_
      · exact nI_1 i
  refine e_iconst (v := 0) d_X11_copies_0 (by decide) ?_
  refine e_istoren d_X11_copies_1 (by decide) rfl ?_
  have e0 : up h 67 (aI 380 (cpN im a 0)) = h := by rw [cpN_0]; exact up_same H_a
  have hB := hA 0 (by omega) 0 rfl
  rw [e0] at hB
  exact hB
