/-! THE MODEL'S READER: small steps -/
theorem s_X11_isSign {h : AH} {x : Int32} {mtp mfl mfa mln mat mtk mso mto mwr mwp mop mfs mws mst mnc mnk mnr mdn : Int32} {mup mlo mgu mgl : Int64} (H_md : Hs h 66 (oMd mtp mfl mfa mup mlo mln mat mtk mso mto mwr mwp mop mfs mws mst mnc mnk mnr mdn mgu mgl))  : Sp M_X11_isSign (0, 0) h [.ref 66, .int x] (pI (bI (mso = 3 ∧ mto = x)) h) := by
  refine ⟨Nat.le_of_ble_eq_true rfl, ?_⟩
  show E _ _ _ 0 h [some (.ref 66), some (.int x)] []
  refine e_aloadn d_X11_isSign_0 rfl ?_
  refine e_get d_X11_isSign_1 f_X11_200 H_md rfl ?_
  refine e_iconst (v := 3) d_X11_isSign_4 (by decide) ?_
  refine e_icmp_ne d_X11_isSign_5 (fun c5 => ?_) (fun c5 => ?_)
  · refine e_iconst (v := 0) d_X11_isSign_20 (by decide) ?_
    exact e_iret d_X11_isSign_21 rfl (rfl) (⟨by first | (rw [bI_t ⟨by first | exact c5 | exact Decidable.of_not_not c5, by first | exact c13 | exact Decidable.of_not_not c13⟩]; done) | (rw [bI_f (fun z => by first | exact c5 z.1 | exact c13 z.2)]; done), rfl⟩)
  · refine e_aloadn d_X11_isSign_8 rfl ?_
    refine e_get d_X11_isSign_9 f_X11_212 H_md rfl ?_
    refine e_iloadn d_X11_isSign_12 rfl ?_
    refine e_icmp_ne d_X11_isSign_13 (fun c13 => ?_) (fun c13 => ?_)
    · refine e_iconst (v := 0) d_X11_isSign_20 (by decide) ?_
      exact e_iret d_X11_isSign_21 rfl (rfl) (⟨by first | (rw [bI_t ⟨by first | exact c5 | exact Decidable.of_not_not c5, by first | exact c13 | exact Decidable.of_not_not c13⟩]; done) | (rw [bI_f (fun z => by first | exact c5 z.1 | exact c13 z.2)]; done), rfl⟩)
    · refine e_iconst (v := 1) d_X11_isSign_16 (by decide) ?_
      refine e_gt d_X11_isSign_17 ?_
      exact e_iret d_X11_isSign_21 rfl (rfl) (⟨by first | (rw [bI_t ⟨by first | exact c5 | exact Decidable.of_not_not c5, by first | exact c13 | exact Decidable.of_not_not c13⟩]; done) | (rw [bI_f (fun z => by first | exact c5 z.1 | exact c13 z.2)]; done), rfl⟩)

theorem s_X11_isWord {h : AH} {x : Int32} {mtp mfl mfa mln mat mtk mso mto mwr mwp mop mfs mws mst mnc mnk mnr mdn : Int32} {mup mlo mgu mgl : Int64} (H_md : Hs h 66 (oMd mtp mfl mfa mup mlo mln mat mtk mso mto mwr mwp mop mfs mws mst mnc mnk mnr mdn mgu mgl))  : Sp M_X11_isWord (0, 0) h [.ref 66, .int x] (pI (bI (mso = 1 ∧ mto = x)) h) := by
  refine ⟨Nat.le_of_ble_eq_true rfl, ?_⟩
  show E _ _ _ 0 h [some (.ref 66), some (.int x)] []
  refine e_aloadn d_X11_isWord_0 rfl ?_
  refine e_get d_X11_isWord_1 f_X11_200 H_md rfl ?_
  refine e_iconst (v := 1) d_X11_isWord_4 (by decide) ?_
  refine e_icmp_ne d_X11_isWord_5 (fun c5 => ?_) (fun c5 => ?_)
  · refine e_iconst (v := 0) d_X11_isWord_20 (by decide) ?_
    exact e_iret d_X11_isWord_21 rfl (rfl) (⟨by first | (rw [bI_t ⟨by first | exact c5 | exact Decidable.of_not_not c5, by first | exact c13 | exact Decidable.of_not_not c13⟩]; done) | (rw [bI_f (fun z => by first | exact c5 z.1 | exact c13 z.2)]; done), rfl⟩)
  · refine e_aloadn d_X11_isWord_8 rfl ?_
    refine e_get d_X11_isWord_9 f_X11_212 H_md rfl ?_
    refine e_iloadn d_X11_isWord_12 rfl ?_
    refine e_icmp_ne d_X11_isWord_13 (fun c13 => ?_) (fun c13 => ?_)
    · refine e_iconst (v := 0) d_X11_isWord_20 (by decide) ?_
      exact e_iret d_X11_isWord_21 rfl (rfl) (⟨by first | (rw [bI_t ⟨by first | exact c5 | exact Decidable.of_not_not c5, by first | exact c13 | exact Decidable.of_not_not c13⟩]; done) | (rw [bI_f (fun z => by first | exact c5 z.1 | exact c13 z.2)]; done), rfl⟩)
    · refine e_iconst (v := 1) d_X11_isWord_16 (by decide) ?_
      refine e_gt d_X11_isWord_17 ?_
      exact e_iret d_X11_isWord_21 rfl (rfl) (⟨by first | (rw [bI_t ⟨by first | exact c5 | exact Decidable.of_not_not c5, by first | exact c13 | exact Decidable.of_not_not c13⟩]; done) | (rw [bI_f (fun z => by first | exact c5 z.1 | exact c13 z.2)]; done), rfl⟩)

theorem s_X11_errs {h : AH} {q : Int32} {mtp mfl mfa mln mat mtk mso mto mwp mop mfs mws mst mnc mnk mnr mdn : Int32} {mup mlo mgu mgl : Int64} (H_md : Hs h 66 (oMd mtp mfl mfa mup mlo mln mat mtk mso mto 0 mwp mop mfs mws mst mnc mnk mnr mdn mgu mgl)) : Sp M_X11_errs (0, 0) h [.ref 66, .int q] (pV (up h 66 (oMd mtp mfl mfa mup mlo mln mat mtk mso mto q mtk mop mfs mws mst mnc mnk mnr mdn mgu mgl))) := by
  refine ⟨Nat.le_of_ble_eq_true rfl, ?_⟩
  show E _ _ _ 0 h [some (.ref 66), some (.int q)] []
  refine e_aloadn d_X11_errs_0 rfl ?_
  refine e_get d_X11_errs_1 f_X11_216 H_md rfl ?_
  refine e_if_ne d_X11_errs_4 (fun z => by first | exact absurd (fun z => z rfl) z | exact absurd z (fun z => z rfl)) (fun _ => ?_)
  refine e_aloadn d_X11_errs_7 rfl ?_
  refine e_iloadn d_X11_errs_8 rfl ?_
  refine e_puti d_X11_errs_9 f_X11_216 H_md (Nat.le_of_ble_eq_true rfl) ?_
  refine e_aloadn d_X11_errs_12 rfl ?_
  refine e_aloadn d_X11_errs_13 rfl ?_
  refine e_get d_X11_errs_14 f_X11_197 H_md.s rfl ?_
  refine e_puti d_X11_errs_17 f_X11_219 H_md.s (Nat.le_of_ble_eq_true rfl) ?_
  exact e_vret d_X11_errs_20 rfl (⟨rfl, by rw [up_up]; rfl⟩)

theorem s_X11_emits {h : AH} {r : Nat} {x y : Int32} {no nv : Nat → Int32} {mtp mfl mfa mln mat mtk mso mto mwr mwp mop mfs mws mst mnc mnk mdn : Int32} {mup mlo mgu mgl : Int64} (H_md : Hs h 66 (oMd mtp mfl mfa mup mlo mln mat mtk mso mto mwr mwp mop mfs mws mst mnc mnk (nI r) mdn mgu mgl)) (H_mno : Hs h 83 (aI 400 no)) (H_mnv : Hs h 84 (aI 400 nv)) (hr : r < 400) : Sp M_X11_emits (0, 0) h [.ref 66, .int x, .int y] (pV (up (up (up h 83 (aI 400 (va_up no r x))) 84 (aI 400 (va_up nv r y))) 66 (oMd mtp mfl mfa mup mlo mln mat mtk mso mto mwr mwp mop mfs mws mst mnc mnk (nI (r + 1)) mdn mgu mgl))) := by
  refine ⟨Nat.le_of_ble_eq_true rfl, ?_⟩
  show E _ _ _ 0 h [some (.ref 66), some (.int x), some (.int y)] []
  refine e_aloadn d_X11_emits_0 rfl ?_
  refine e_get d_X11_emits_1 f_X11_66 H_md rfl ?_
  refine e_aloadn d_X11_emits_4 rfl ?_
  refine e_get d_X11_emits_5 f_X11_222 H_md rfl ?_
  refine e_iloadn d_X11_emits_8 rfl ?_
  refine e_iastN (k := r) d_X11_emits_9 H_mno rfl (by omega) (by omega) ?_
  refine e_aloadn d_X11_emits_10 rfl ?_
  refine e_get d_X11_emits_11 f_X11_69 (H_md.n (by decide)) rfl ?_
  refine e_aloadn d_X11_emits_14 rfl ?_
  refine e_get d_X11_emits_15 f_X11_222 (H_md.n (by decide)) rfl ?_
  refine e_iloadn d_X11_emits_18 rfl ?_
  refine e_iastN (k := r) d_X11_emits_19 (H_mnv.n (by decide)) rfl (by omega) (by omega) ?_
  refine e_aloadn d_X11_emits_20 rfl ?_
  refine e_dup d_X11_emits_21 rfl ?_
  refine e_get d_X11_emits_22 f_X11_222 ((H_md.n (by decide)).n (by decide)) rfl ?_
  refine e_iconst (v := 1) d_X11_emits_25 (by decide) ?_
  refine e_iadd d_X11_emits_26 ?_
  rw [nI_1]
  refine e_puti d_X11_emits_27 f_X11_222 ((H_md.n (by decide)).n (by decide)) (Nat.le_of_ble_eq_true rfl) ?_
  exact e_vret d_X11_emits_30 rfl (⟨rfl, rfl⟩)

theorem s_X11_opensFrame {h : AH} {n : Nat} {x : Int32} {fr : Nat → Int32} {mtp mfl mfa mln mat mtk mso mto mwr mwp mop mws mst mnc mnk mnr mdn : Int32} {mup mlo mgu mgl : Int64} (H_md : Hs h 66 (oMd mtp mfl mfa mup mlo mln mat mtk mso mto mwr mwp mop (nI n) mws mst mnc mnk mnr mdn mgu mgl)) (H_mfr : Hs h 76 (aI 40 fr)) (hn : n < 40) : Sp M_X11_opensFrame (0, 0) h [.ref 66, .int x] (pV (up (up h 76 (aI 40 (va_up fr n x))) 66 (oMd mtp mfl mfa mup mlo mln mat mtk mso mto mwr mwp mop (nI (n + 1)) mws mst mnc mnk mnr mdn mgu mgl))) := by
  refine ⟨Nat.le_of_ble_eq_true rfl, ?_⟩
  show E _ _ _ 0 h [some (.ref 66), some (.int x)] []
  refine e_aloadn d_X11_opensFrame_0 rfl ?_
  refine e_get d_X11_opensFrame_1 f_X11_45 H_md rfl ?_
  refine e_aloadn d_X11_opensFrame_4 rfl ?_
  refine e_get d_X11_opensFrame_5 f_X11_225 H_md rfl ?_
  refine e_iloadn d_X11_opensFrame_8 rfl ?_
  refine e_iastN (k := n) d_X11_opensFrame_9 H_mfr rfl (by omega) (by omega) ?_
  refine e_aloadn d_X11_opensFrame_10 rfl ?_
  refine e_dup d_X11_opensFrame_11 rfl ?_
  refine e_get d_X11_opensFrame_12 f_X11_225 (H_md.n (by decide)) rfl ?_
  refine e_iconst (v := 1) d_X11_opensFrame_15 (by decide) ?_
  refine e_iadd d_X11_opensFrame_16 ?_
  rw [nI_1]
  refine e_puti d_X11_opensFrame_17 f_X11_225 (H_md.n (by decide)) (Nat.le_of_ble_eq_true rfl) ?_
  exact e_vret d_X11_opensFrame_20 rfl (⟨rfl, rfl⟩)

theorem s_X11_top {h : AH} {n : Nat} {fr : Nat → Int32} {mtp mfl mfa mln mat mtk mso mto mwr mwp mop mws mst mnc mnk mnr mdn : Int32} {mup mlo mgu mgl : Int64} (H_md : Hs h 66 (oMd mtp mfl mfa mup mlo mln mat mtk mso mto mwr mwp mop (nI (n + 1)) mws mst mnc mnk mnr mdn mgu mgl)) (H_mfr : Hs h 76 (aI 40 fr)) (hn : n < 40) : Sp M_X11_top (0, 0) h [.ref 66] (pI (fr n) h) := by
  refine ⟨Nat.le_of_ble_eq_true rfl, ?_⟩
  show E _ _ _ 0 h [some (.ref 66)] []
  refine e_aloadn d_X11_top_0 rfl ?_
  refine e_get d_X11_top_1 f_X11_45 H_md rfl ?_
  refine e_aloadn d_X11_top_4 rfl ?_
  refine e_get d_X11_top_5 f_X11_225 H_md rfl ?_
  refine e_iconst (v := 1) d_X11_top_8 (by decide) ?_
  refine e_isub d_X11_top_9 ?_
  rw [show nI (n + 1) - 1 = nI n from nI_m]
  refine e_ialdN (k := n) d_X11_top_10 H_mfr rfl (by omega) (by omega) ?_
  exact e_iret d_X11_top_11 rfl (rfl) (⟨rfl, rfl⟩)

/-- the model's ranks -/
def mrk (t : Nat) : Nat := if rkc t ≤ 2 then rkc t else rkc t - 2
theorem encO_lt : ∀ t, t < 100 → encO t < 408 := by decide +kernel

theorem s_X11_rank {h : AH} {t : Nat} (ht : t = 12 ∨ t = 13 ∨ t = 27 ∨ t = 28 ∨ t = 29 ∨ t = 30) : Sp M_X11_rank (0, 0) h [.int (nI (encO t))] (pI (nI (mrk t)) h) := by
  refine ⟨Nat.le_of_ble_eq_true rfl, ?_⟩
  show E _ _ _ 0 h [some (.int (nI (encO t)))] []
  rcases ht with rfl | rfl | rfl | rfl | rfl | rfl
  · refine e_iloadn d_X11_rank_0 rfl ?_
    refine e_sipush (v := 407) d_X11_rank_1 (by decide) ?_
    refine e_icmp_ne d_X11_rank_4 (fun _ => ?_) (fun z => by first | exact absurd (by decide) z | exact absurd z (by decide))
    refine e_iloadn d_X11_rank_11 rfl ?_
    refine e_sipush (v := 406) d_X11_rank_12 (by decide) ?_
    refine e_icmp_ne d_X11_rank_15 (fun z => by first | exact absurd (by decide) z | exact absurd z (by decide)) (fun _ => ?_)
    refine e_iconst (v := 2) d_X11_rank_18 (by decide) ?_
    refine e_gt d_X11_rank_19 ?_
    exact e_iret d_X11_rank_39 rfl (rfl) (⟨by decide, rfl⟩)
  · refine e_iloadn d_X11_rank_0 rfl ?_
    refine e_sipush (v := 407) d_X11_rank_1 (by decide) ?_
    refine e_icmp_ne d_X11_rank_4 (fun z => by first | exact absurd (by decide) z | exact absurd z (by decide)) (fun _ => ?_)
    refine e_iconst (v := 1) d_X11_rank_7 (by decide) ?_
    refine e_gt d_X11_rank_8 ?_
    exact e_iret d_X11_rank_39 rfl (rfl) (⟨by decide, rfl⟩)
  · refine e_iloadn d_X11_rank_0 rfl ?_
    refine e_sipush (v := 407) d_X11_rank_1 (by decide) ?_
    refine e_icmp_ne d_X11_rank_4 (fun _ => ?_) (fun z => by first | exact absurd (by decide) z | exact absurd z (by decide))
    refine e_iloadn d_X11_rank_11 rfl ?_
    refine e_sipush (v := 406) d_X11_rank_12 (by decide) ?_
    refine e_icmp_ne d_X11_rank_15 (fun _ => ?_) (fun z => by first | exact absurd (by decide) z | exact absurd z (by decide))
    refine e_iloadn d_X11_rank_22 rfl ?_
    refine e_bipush (v := 43) d_X11_rank_23 (by decide) ?_
    refine e_icmp_eq d_X11_rank_25 (fun _ => ?_) (fun z => by first | exact absurd (by decide) z | exact absurd z (by decide))
    refine e_iconst (v := 3) d_X11_rank_34 (by decide) ?_
    refine e_gt d_X11_rank_35 ?_
    exact e_iret d_X11_rank_39 rfl (rfl) (⟨by decide, rfl⟩)
  · refine e_iloadn d_X11_rank_0 rfl ?_
    refine e_sipush (v := 407) d_X11_rank_1 (by decide) ?_
    refine e_icmp_ne d_X11_rank_4 (fun _ => ?_) (fun z => by first | exact absurd (by decide) z | exact absurd z (by decide))
    refine e_iloadn d_X11_rank_11 rfl ?_
    refine e_sipush (v := 406) d_X11_rank_12 (by decide) ?_
    refine e_icmp_ne d_X11_rank_15 (fun _ => ?_) (fun z => by first | exact absurd (by decide) z | exact absurd z (by decide))
    refine e_iloadn d_X11_rank_22 rfl ?_
    refine e_bipush (v := 43) d_X11_rank_23 (by decide) ?_
    refine e_icmp_eq d_X11_rank_25 (fun z => by first | exact absurd (by decide) z | exact absurd z (by decide)) (fun _ => ?_)
    refine e_iloadn d_X11_rank_28 rfl ?_
    refine e_bipush (v := 45) d_X11_rank_29 (by decide) ?_
    refine e_icmp_ne d_X11_rank_31 (fun z => by first | exact absurd (by decide) z | exact absurd z (by decide)) (fun _ => ?_)
    refine e_iconst (v := 3) d_X11_rank_34 (by decide) ?_
    refine e_gt d_X11_rank_35 ?_
    exact e_iret d_X11_rank_39 rfl (rfl) (⟨by decide, rfl⟩)
  · refine e_iloadn d_X11_rank_0 rfl ?_
    refine e_sipush (v := 407) d_X11_rank_1 (by decide) ?_
    refine e_icmp_ne d_X11_rank_4 (fun _ => ?_) (fun z => by first | exact absurd (by decide) z | exact absurd z (by decide))
    refine e_iloadn d_X11_rank_11 rfl ?_
    refine e_sipush (v := 406) d_X11_rank_12 (by decide) ?_
    refine e_icmp_ne d_X11_rank_15 (fun _ => ?_) (fun z => by first | exact absurd (by decide) z | exact absurd z (by decide))
    refine e_iloadn d_X11_rank_22 rfl ?_
    refine e_bipush (v := 43) d_X11_rank_23 (by decide) ?_
    refine e_icmp_eq d_X11_rank_25 (fun z => by first | exact absurd (by decide) z | exact absurd z (by decide)) (fun _ => ?_)
    refine e_iloadn d_X11_rank_28 rfl ?_
    refine e_bipush (v := 45) d_X11_rank_29 (by decide) ?_
    refine e_icmp_ne d_X11_rank_31 (fun _ => ?_) (fun z => by first | exact absurd (by decide) z | exact absurd z (by decide))
    refine e_iconst (v := 4) d_X11_rank_38 (by decide) ?_
    exact e_iret d_X11_rank_39 rfl (rfl) (⟨by decide, rfl⟩)
  · refine e_iloadn d_X11_rank_0 rfl ?_
    refine e_sipush (v := 407) d_X11_rank_1 (by decide) ?_
    refine e_icmp_ne d_X11_rank_4 (fun _ => ?_) (fun z => by first | exact absurd (by decide) z | exact absurd z (by decide))
    refine e_iloadn d_X11_rank_11 rfl ?_
    refine e_sipush (v := 406) d_X11_rank_12 (by decide) ?_
    refine e_icmp_ne d_X11_rank_15 (fun _ => ?_) (fun z => by first | exact absurd (by decide) z | exact absurd z (by decide))
    refine e_iloadn d_X11_rank_22 rfl ?_
    refine e_bipush (v := 43) d_X11_rank_23 (by decide) ?_
    refine e_icmp_eq d_X11_rank_25 (fun z => by first | exact absurd (by decide) z | exact absurd z (by decide)) (fun _ => ?_)
    refine e_iloadn d_X11_rank_28 rfl ?_
    refine e_bipush (v := 45) d_X11_rank_29 (by decide) ?_
    refine e_icmp_ne d_X11_rank_31 (fun _ => ?_) (fun z => by first | exact absurd (by decide) z | exact absurd z (by decide))
    refine e_iconst (v := 4) d_X11_rank_38 (by decide) ?_
    exact e_iret d_X11_rank_39 rfl (rfl) (⟨by decide, rfl⟩)

theorem s_X11_isAsking {h : AH} {k : Nat} (hk : k < 1000) : Sp M_X11_isAsking (0, 0) h [.int (nI k)] (pI (bI (k = 60 ∨ k = 62 ∨ k = 61 ∨ k = 35 ∨ k = 300 ∨ k = 301)) h) := by
  refine ⟨Nat.le_of_ble_eq_true rfl, ?_⟩
  show E _ _ _ 0 h [some (.int (nI k))] []
  refine e_iloadn d_X11_isAsking_0 rfl ?_
  refine e_bipush (v := 60) d_X11_isAsking_1 (by decide) ?_
  refine e_icmp_eq d_X11_isAsking_3 (fun c3 => ?_) (fun c3 => ?_)
  · have c3 := i_eq (a := k) (b := 60) (by omega) (by decide) c3
    refine e_iconst (v := 1) d_X11_isAsking_38 (by decide) ?_
    refine e_gt d_X11_isAsking_39 ?_
    exact e_iret d_X11_isAsking_43 rfl (rfl) (⟨by first | (rw [bI_t (by omega)]; done) | (rw [bI_f (by omega)]; done), rfl⟩)
  · have c3 : ¬ k = 60 := fun z => c3 (by rw [z]; rfl)
    refine e_iloadn d_X11_isAsking_6 rfl ?_
    refine e_bipush (v := 62) d_X11_isAsking_7 (by decide) ?_
    refine e_icmp_eq d_X11_isAsking_9 (fun c9 => ?_) (fun c9 => ?_)
    · have c9 := i_eq (a := k) (b := 62) (by omega) (by decide) c9
      refine e_iconst (v := 1) d_X11_isAsking_38 (by decide) ?_
      refine e_gt d_X11_isAsking_39 ?_
      exact e_iret d_X11_isAsking_43 rfl (rfl) (⟨by first | (rw [bI_t (by omega)]; done) | (rw [bI_f (by omega)]; done), rfl⟩)
    · have c9 : ¬ k = 62 := fun z => c9 (by rw [z]; rfl)
      refine e_iloadn d_X11_isAsking_12 rfl ?_
      refine e_bipush (v := 61) d_X11_isAsking_13 (by decide) ?_
      refine e_icmp_eq d_X11_isAsking_15 (fun c15 => ?_) (fun c15 => ?_)
      · have c15 := i_eq (a := k) (b := 61) (by omega) (by decide) c15
        refine e_iconst (v := 1) d_X11_isAsking_38 (by decide) ?_
        refine e_gt d_X11_isAsking_39 ?_
        exact e_iret d_X11_isAsking_43 rfl (rfl) (⟨by first | (rw [bI_t (by omega)]; done) | (rw [bI_f (by omega)]; done), rfl⟩)
      · have c15 : ¬ k = 61 := fun z => c15 (by rw [z]; rfl)
        refine e_iloadn d_X11_isAsking_18 rfl ?_
        refine e_bipush (v := 35) d_X11_isAsking_19 (by decide) ?_
        refine e_icmp_eq d_X11_isAsking_21 (fun c21 => ?_) (fun c21 => ?_)
        · have c21 := i_eq (a := k) (b := 35) (by omega) (by decide) c21
          refine e_iconst (v := 1) d_X11_isAsking_38 (by decide) ?_
          refine e_gt d_X11_isAsking_39 ?_
          exact e_iret d_X11_isAsking_43 rfl (rfl) (⟨by first | (rw [bI_t (by omega)]; done) | (rw [bI_f (by omega)]; done), rfl⟩)
        · have c21 : ¬ k = 35 := fun z => c21 (by rw [z]; rfl)
          refine e_iloadn d_X11_isAsking_24 rfl ?_
          refine e_sipush (v := 300) d_X11_isAsking_25 (by decide) ?_
          refine e_icmp_eq d_X11_isAsking_28 (fun c28 => ?_) (fun c28 => ?_)
          · have c28 := i_eq (a := k) (b := 300) (by omega) (by decide) c28
            refine e_iconst (v := 1) d_X11_isAsking_38 (by decide) ?_
            refine e_gt d_X11_isAsking_39 ?_
            exact e_iret d_X11_isAsking_43 rfl (rfl) (⟨by first | (rw [bI_t (by omega)]; done) | (rw [bI_f (by omega)]; done), rfl⟩)
          · have c28 : ¬ k = 300 := fun z => c28 (by rw [z]; rfl)
            refine e_iloadn d_X11_isAsking_31 rfl ?_
            refine e_sipush (v := 301) d_X11_isAsking_32 (by decide) ?_
            refine e_icmp_ne d_X11_isAsking_35 (fun c35 => ?_) (fun c35 => ?_)
            · have c35 : ¬ k = 301 := fun z => c35 (by rw [z]; rfl)
              refine e_iconst (v := 0) d_X11_isAsking_42 (by decide) ?_
              exact e_iret d_X11_isAsking_43 rfl (rfl) (⟨by first | (rw [bI_t (by omega)]; done) | (rw [bI_f (by omega)]; done), rfl⟩)
            · have c35 := i_eq (a := k) (b := 301) (by omega) (by decide) c35
              refine e_iconst (v := 1) d_X11_isAsking_38 (by decide) ?_
              refine e_gt d_X11_isAsking_39 ?_
              exact e_iret d_X11_isAsking_43 rfl (rfl) (⟨by first | (rw [bI_t (by omega)]; done) | (rw [bI_f (by omega)]; done), rfl⟩)

theorem okN_iff {k t : Nat} : okN k t = true ↔ (k = 19 ∧ t < 4) ∨ ((k = 17 ∨ k = 18) ∧ t < 8) ∨ (k ≠ 19 ∧ k ≠ 17 ∧ k ≠ 18 ∧ (t < 4 ∨ 8 ≤ t)) := by
  unfold okN
  by_cases h1 : k = 19
  · rw [if_pos h1, decide_eq_true_eq]; omega
  · rw [if_neg h1]
    by_cases h2 : k = 17 ∨ k = 18
    · rw [if_pos h2, decide_eq_true_eq]; omega
    · rw [if_neg h2, decide_eq_true_eq]; omega

theorem s_X11_mayName {h : AH} {w k : Nat} {mtp mfl mfa mln mat mtk mso mto mwr mwp mop mfs mws mst mnc mnr mdn : Int32} {mup mlo mgu mgl : Int64} (H_md : Hs h 66 (oMd mtp mfl mfa mup mlo mln mat mtk mso mto mwr mwp mop mfs mws mst mnc (nI (k - 14)) mnr mdn mgu mgl)) (hw : 10 ≤ w ∧ w < 21) (hk : 16 ≤ k ∧ k ≤ 20) : Sp M_X11_mayName (0, 0) h [.ref 66, .int (nI w)] (pI (bI (okN k (w - 10) = true)) h) := by
  refine ⟨Nat.le_of_ble_eq_true rfl, ?_⟩
  show E _ _ _ 0 h [some (.ref 66), some (.int (nI w)), none, none] []
  refine e_aloadn d_X11_mayName_0 rfl ?_
  refine e_get d_X11_mayName_1 f_X11_263 H_md rfl ?_
  refine e_iconst (v := 3) d_X11_mayName_4 (by decide) ?_
  refine e_icmp_eq d_X11_mayName_5 (fun c5 => ?_) (fun c5 => ?_)
  · have c5 := i_eq (a := (k - 14)) (b := 3) (by omega) (by decide) c5
    refine e_iconst (v := 1) d_X11_mayName_16 (by decide) ?_
    refine e_gt d_X11_mayName_17 ?_
    refine e_istoren d_X11_mayName_21 (by decide) rfl ?_
    refine e_aloadn d_X11_mayName_22 rfl ?_
    refine e_get d_X11_mayName_23 f_X11_263 H_md rfl ?_
    refine e_iconst (v := 2) d_X11_mayName_26 (by decide) ?_
    refine e_icmp_eq d_X11_mayName_27 (fun c27 => ?_) (fun c27 => ?_)
    · have c27 := i_eq (a := (k - 14)) (b := 2) (by omega) (by decide) c27
      refine e_iconst (v := 1) d_X11_mayName_39 (by decide) ?_
      refine e_gt d_X11_mayName_40 ?_
      refine e_istoren d_X11_mayName_44 (by decide) rfl ?_
      refine e_iloadn d_X11_mayName_45 rfl ?_
      refine e_bipush (v := 14) d_X11_mayName_46 (by decide) ?_
      refine e_icmp_lt d_X11_mayName_48 (fun c48 => ?_) (fun c48 => ?_)
      · have c48 := i_lt (a := w) (b := 14) (by omega) (by decide) c48
        refine e_iconst (v := 1) d_X11_mayName_68 (by decide) ?_
        refine e_gt d_X11_mayName_69 ?_
        exact e_iret d_X11_mayName_73 rfl (rfl) (⟨by first | exact absurd rfl c58 | exact absurd rfl c65 | exact absurd c58 (by decide) | exact absurd c65 (by decide) | (rw [bI_t (okN_iff.mpr (by omega))]; done) | (rw [bI_f (fun z => absurd (okN_iff.mp z) (by omega))]; done), rfl⟩)
      · have c48 := i_nlt (a := w) (b := 14) (by omega) (by decide) c48
        refine e_iloadn d_X11_mayName_51 rfl ?_
        refine e_bipush (v := 18) d_X11_mayName_52 (by decide) ?_
        refine e_icmp_ge d_X11_mayName_54 (fun c54 => ?_) (fun c54 => ?_)
        · have c54 := i_le (a := 18) (b := w) (by decide) (by omega) c54
          refine e_iloadn d_X11_mayName_64 rfl ?_
          refine e_if_eq d_X11_mayName_65 (fun c65 => ?_) (fun c65 => ?_)
          · refine e_iconst (v := 0) d_X11_mayName_72 (by decide) ?_
            exact e_iret d_X11_mayName_73 rfl (rfl) (⟨by first | exact absurd rfl c58 | exact absurd rfl c65 | exact absurd c58 (by decide) | exact absurd c65 (by decide) | (rw [bI_t (okN_iff.mpr (by omega))]; done) | (rw [bI_f (fun z => absurd (okN_iff.mp z) (by omega))]; done), rfl⟩)
          · refine e_iconst (v := 1) d_X11_mayName_68 (by decide) ?_
            refine e_gt d_X11_mayName_69 ?_
            exact e_iret d_X11_mayName_73 rfl (rfl) (⟨by first | exact absurd rfl c58 | exact absurd rfl c65 | exact absurd c58 (by decide) | exact absurd c65 (by decide) | (rw [bI_t (okN_iff.mpr (by omega))]; done) | (rw [bI_f (fun z => absurd (okN_iff.mp z) (by omega))]; done), rfl⟩)
        · have c54 := i_nle (a := 18) (b := w) (by decide) (by omega) c54
          refine e_iloadn d_X11_mayName_57 rfl ?_
          refine e_if_eq d_X11_mayName_58 (fun c58 => ?_) (fun c58 => ?_)
          · refine e_iconst (v := 0) d_X11_mayName_72 (by decide) ?_
            exact e_iret d_X11_mayName_73 rfl (rfl) (⟨by first | exact absurd rfl c58 | exact absurd rfl c65 | exact absurd c58 (by decide) | exact absurd c65 (by decide) | (rw [bI_t (okN_iff.mpr (by omega))]; done) | (rw [bI_f (fun z => absurd (okN_iff.mp z) (by omega))]; done), rfl⟩)
          · refine e_gt d_X11_mayName_61 ?_
            refine e_iconst (v := 1) d_X11_mayName_68 (by decide) ?_
            refine e_gt d_X11_mayName_69 ?_
            exact e_iret d_X11_mayName_73 rfl (rfl) (⟨by first | exact absurd rfl c58 | exact absurd rfl c65 | exact absurd c58 (by decide) | exact absurd c65 (by decide) | (rw [bI_t (okN_iff.mpr (by omega))]; done) | (rw [bI_f (fun z => absurd (okN_iff.mp z) (by omega))]; done), rfl⟩)
    · have c27 : ¬ (k - 14) = 2 := fun z => c27 (by rw [z]; rfl)
      refine e_aloadn d_X11_mayName_30 rfl ?_
      refine e_get d_X11_mayName_31 f_X11_263 H_md rfl ?_
      refine e_bipush (v := 6) d_X11_mayName_34 (by decide) ?_
      refine e_icmp_ne d_X11_mayName_36 (fun c36 => ?_) (fun c36 => ?_)
      · have c36 : ¬ (k - 14) = 6 := fun z => c36 (by rw [z]; rfl)
        refine e_iconst (v := 0) d_X11_mayName_43 (by decide) ?_
        refine e_istoren d_X11_mayName_44 (by decide) rfl ?_
        refine e_iloadn d_X11_mayName_45 rfl ?_
        refine e_bipush (v := 14) d_X11_mayName_46 (by decide) ?_
        refine e_icmp_lt d_X11_mayName_48 (fun c48 => ?_) (fun c48 => ?_)
        · have c48 := i_lt (a := w) (b := 14) (by omega) (by decide) c48
          refine e_iconst (v := 1) d_X11_mayName_68 (by decide) ?_
          refine e_gt d_X11_mayName_69 ?_
          exact e_iret d_X11_mayName_73 rfl (rfl) (⟨by first | exact absurd rfl c58 | exact absurd rfl c65 | exact absurd c58 (by decide) | exact absurd c65 (by decide) | (rw [bI_t (okN_iff.mpr (by omega))]; done) | (rw [bI_f (fun z => absurd (okN_iff.mp z) (by omega))]; done), rfl⟩)
        · have c48 := i_nlt (a := w) (b := 14) (by omega) (by decide) c48
          refine e_iloadn d_X11_mayName_51 rfl ?_
          refine e_bipush (v := 18) d_X11_mayName_52 (by decide) ?_
          refine e_icmp_ge d_X11_mayName_54 (fun c54 => ?_) (fun c54 => ?_)
          · have c54 := i_le (a := 18) (b := w) (by decide) (by omega) c54
            refine e_iloadn d_X11_mayName_64 rfl ?_
            refine e_if_eq d_X11_mayName_65 (fun c65 => ?_) (fun c65 => ?_)
            · refine e_iconst (v := 0) d_X11_mayName_72 (by decide) ?_
              exact e_iret d_X11_mayName_73 rfl (rfl) (⟨by first | exact absurd rfl c58 | exact absurd rfl c65 | exact absurd c58 (by decide) | exact absurd c65 (by decide) | (rw [bI_t (okN_iff.mpr (by omega))]; done) | (rw [bI_f (fun z => absurd (okN_iff.mp z) (by omega))]; done), rfl⟩)
            · refine e_iconst (v := 1) d_X11_mayName_68 (by decide) ?_
              refine e_gt d_X11_mayName_69 ?_
              exact e_iret d_X11_mayName_73 rfl (rfl) (⟨by first | exact absurd rfl c58 | exact absurd rfl c65 | exact absurd c58 (by decide) | exact absurd c65 (by decide) | (rw [bI_t (okN_iff.mpr (by omega))]; done) | (rw [bI_f (fun z => absurd (okN_iff.mp z) (by omega))]; done), rfl⟩)
          · have c54 := i_nle (a := 18) (b := w) (by decide) (by omega) c54
            refine e_iloadn d_X11_mayName_57 rfl ?_
            refine e_if_eq d_X11_mayName_58 (fun c58 => ?_) (fun c58 => ?_)
            · refine e_iconst (v := 0) d_X11_mayName_72 (by decide) ?_
              exact e_iret d_X11_mayName_73 rfl (rfl) (⟨by first | exact absurd rfl c58 | exact absurd rfl c65 | exact absurd c58 (by decide) | exact absurd c65 (by decide) | (rw [bI_t (okN_iff.mpr (by omega))]; done) | (rw [bI_f (fun z => absurd (okN_iff.mp z) (by omega))]; done), rfl⟩)
            · refine e_gt d_X11_mayName_61 ?_
              refine e_iconst (v := 1) d_X11_mayName_68 (by decide) ?_
              refine e_gt d_X11_mayName_69 ?_
              exact e_iret d_X11_mayName_73 rfl (rfl) (⟨by first | exact absurd rfl c58 | exact absurd rfl c65 | exact absurd c58 (by decide) | exact absurd c65 (by decide) | (rw [bI_t (okN_iff.mpr (by omega))]; done) | (rw [bI_f (fun z => absurd (okN_iff.mp z) (by omega))]; done), rfl⟩)
      · have c36 := i_eq (a := (k - 14)) (b := 6) (by omega) (by decide) c36
        refine e_iconst (v := 1) d_X11_mayName_39 (by decide) ?_
        refine e_gt d_X11_mayName_40 ?_
        refine e_istoren d_X11_mayName_44 (by decide) rfl ?_
        refine e_iloadn d_X11_mayName_45 rfl ?_
        refine e_bipush (v := 14) d_X11_mayName_46 (by decide) ?_
        refine e_icmp_lt d_X11_mayName_48 (fun c48 => ?_) (fun c48 => ?_)
        · have c48 := i_lt (a := w) (b := 14) (by omega) (by decide) c48
          refine e_iconst (v := 1) d_X11_mayName_68 (by decide) ?_
          refine e_gt d_X11_mayName_69 ?_
          exact e_iret d_X11_mayName_73 rfl (rfl) (⟨by first | exact absurd rfl c58 | exact absurd rfl c65 | exact absurd c58 (by decide) | exact absurd c65 (by decide) | (rw [bI_t (okN_iff.mpr (by omega))]; done) | (rw [bI_f (fun z => absurd (okN_iff.mp z) (by omega))]; done), rfl⟩)
        · have c48 := i_nlt (a := w) (b := 14) (by omega) (by decide) c48
          refine e_iloadn d_X11_mayName_51 rfl ?_
          refine e_bipush (v := 18) d_X11_mayName_52 (by decide) ?_
          refine e_icmp_ge d_X11_mayName_54 (fun c54 => ?_) (fun c54 => ?_)
          · have c54 := i_le (a := 18) (b := w) (by decide) (by omega) c54
            refine e_iloadn d_X11_mayName_64 rfl ?_
            refine e_if_eq d_X11_mayName_65 (fun c65 => ?_) (fun c65 => ?_)
            · refine e_iconst (v := 0) d_X11_mayName_72 (by decide) ?_
              exact e_iret d_X11_mayName_73 rfl (rfl) (⟨by first | exact absurd rfl c58 | exact absurd rfl c65 | exact absurd c58 (by decide) | exact absurd c65 (by decide) | (rw [bI_t (okN_iff.mpr (by omega))]; done) | (rw [bI_f (fun z => absurd (okN_iff.mp z) (by omega))]; done), rfl⟩)
            · refine e_iconst (v := 1) d_X11_mayName_68 (by decide) ?_
              refine e_gt d_X11_mayName_69 ?_
              exact e_iret d_X11_mayName_73 rfl (rfl) (⟨by first | exact absurd rfl c58 | exact absurd rfl c65 | exact absurd c58 (by decide) | exact absurd c65 (by decide) | (rw [bI_t (okN_iff.mpr (by omega))]; done) | (rw [bI_f (fun z => absurd (okN_iff.mp z) (by omega))]; done), rfl⟩)
          · have c54 := i_nle (a := 18) (b := w) (by decide) (by omega) c54
            refine e_iloadn d_X11_mayName_57 rfl ?_
            refine e_if_eq d_X11_mayName_58 (fun c58 => ?_) (fun c58 => ?_)
            · refine e_iconst (v := 0) d_X11_mayName_72 (by decide) ?_
              exact e_iret d_X11_mayName_73 rfl (rfl) (⟨by first | exact absurd rfl c58 | exact absurd rfl c65 | exact absurd c58 (by decide) | exact absurd c65 (by decide) | (rw [bI_t (okN_iff.mpr (by omega))]; done) | (rw [bI_f (fun z => absurd (okN_iff.mp z) (by omega))]; done), rfl⟩)
            · refine e_gt d_X11_mayName_61 ?_
              refine e_iconst (v := 1) d_X11_mayName_68 (by decide) ?_
              refine e_gt d_X11_mayName_69 ?_
              exact e_iret d_X11_mayName_73 rfl (rfl) (⟨by first | exact absurd rfl c58 | exact absurd rfl c65 | exact absurd c58 (by decide) | exact absurd c65 (by decide) | (rw [bI_t (okN_iff.mpr (by omega))]; done) | (rw [bI_f (fun z => absurd (okN_iff.mp z) (by omega))]; done), rfl⟩)
  · have c5 : ¬ (k - 14) = 3 := fun z => c5 (by rw [z]; rfl)
    refine e_aloadn d_X11_mayName_8 rfl ?_
    refine e_get d_X11_mayName_9 f_X11_263 H_md rfl ?_
    refine e_iconst (v := 4) d_X11_mayName_12 (by decide) ?_
    refine e_icmp_ne d_X11_mayName_13 (fun c13 => ?_) (fun c13 => ?_)
    · have c13 : ¬ (k - 14) = 4 := fun z => c13 (by rw [z]; rfl)
      refine e_iconst (v := 0) d_X11_mayName_20 (by decide) ?_
      refine e_istoren d_X11_mayName_21 (by decide) rfl ?_
      refine e_aloadn d_X11_mayName_22 rfl ?_
      refine e_get d_X11_mayName_23 f_X11_263 H_md rfl ?_
      refine e_iconst (v := 2) d_X11_mayName_26 (by decide) ?_
      refine e_icmp_eq d_X11_mayName_27 (fun c27 => ?_) (fun c27 => ?_)
      · have c27 := i_eq (a := (k - 14)) (b := 2) (by omega) (by decide) c27
        refine e_iconst (v := 1) d_X11_mayName_39 (by decide) ?_
        refine e_gt d_X11_mayName_40 ?_
        refine e_istoren d_X11_mayName_44 (by decide) rfl ?_
        refine e_iloadn d_X11_mayName_45 rfl ?_
        refine e_bipush (v := 14) d_X11_mayName_46 (by decide) ?_
        refine e_icmp_lt d_X11_mayName_48 (fun c48 => ?_) (fun c48 => ?_)
        · have c48 := i_lt (a := w) (b := 14) (by omega) (by decide) c48
          refine e_iconst (v := 1) d_X11_mayName_68 (by decide) ?_
          refine e_gt d_X11_mayName_69 ?_
          exact e_iret d_X11_mayName_73 rfl (rfl) (⟨by first | exact absurd rfl c58 | exact absurd rfl c65 | exact absurd c58 (by decide) | exact absurd c65 (by decide) | (rw [bI_t (okN_iff.mpr (by omega))]; done) | (rw [bI_f (fun z => absurd (okN_iff.mp z) (by omega))]; done), rfl⟩)
        · have c48 := i_nlt (a := w) (b := 14) (by omega) (by decide) c48
          refine e_iloadn d_X11_mayName_51 rfl ?_
          refine e_bipush (v := 18) d_X11_mayName_52 (by decide) ?_
          refine e_icmp_ge d_X11_mayName_54 (fun c54 => ?_) (fun c54 => ?_)
          · have c54 := i_le (a := 18) (b := w) (by decide) (by omega) c54
            refine e_iloadn d_X11_mayName_64 rfl ?_
            refine e_if_eq d_X11_mayName_65 (fun c65 => ?_) (fun c65 => ?_)
            · refine e_iconst (v := 0) d_X11_mayName_72 (by decide) ?_
              exact e_iret d_X11_mayName_73 rfl (rfl) (⟨by first | exact absurd rfl c58 | exact absurd rfl c65 | exact absurd c58 (by decide) | exact absurd c65 (by decide) | (rw [bI_t (okN_iff.mpr (by omega))]; done) | (rw [bI_f (fun z => absurd (okN_iff.mp z) (by omega))]; done), rfl⟩)
            · refine e_iconst (v := 1) d_X11_mayName_68 (by decide) ?_
              refine e_gt d_X11_mayName_69 ?_
              exact e_iret d_X11_mayName_73 rfl (rfl) (⟨by first | exact absurd rfl c58 | exact absurd rfl c65 | exact absurd c58 (by decide) | exact absurd c65 (by decide) | (rw [bI_t (okN_iff.mpr (by omega))]; done) | (rw [bI_f (fun z => absurd (okN_iff.mp z) (by omega))]; done), rfl⟩)
          · have c54 := i_nle (a := 18) (b := w) (by decide) (by omega) c54
            refine e_iloadn d_X11_mayName_57 rfl ?_
            refine e_if_eq d_X11_mayName_58 (fun c58 => ?_) (fun c58 => ?_)
            · refine e_iconst (v := 0) d_X11_mayName_72 (by decide) ?_
              exact e_iret d_X11_mayName_73 rfl (rfl) (⟨by first | exact absurd rfl c58 | exact absurd rfl c65 | exact absurd c58 (by decide) | exact absurd c65 (by decide) | (rw [bI_t (okN_iff.mpr (by omega))]; done) | (rw [bI_f (fun z => absurd (okN_iff.mp z) (by omega))]; done), rfl⟩)
            · refine e_gt d_X11_mayName_61 ?_
              refine e_iconst (v := 1) d_X11_mayName_68 (by decide) ?_
              refine e_gt d_X11_mayName_69 ?_
              exact e_iret d_X11_mayName_73 rfl (rfl) (⟨by first | exact absurd rfl c58 | exact absurd rfl c65 | exact absurd c58 (by decide) | exact absurd c65 (by decide) | (rw [bI_t (okN_iff.mpr (by omega))]; done) | (rw [bI_f (fun z => absurd (okN_iff.mp z) (by omega))]; done), rfl⟩)
      · have c27 : ¬ (k - 14) = 2 := fun z => c27 (by rw [z]; rfl)
        refine e_aloadn d_X11_mayName_30 rfl ?_
        refine e_get d_X11_mayName_31 f_X11_263 H_md rfl ?_
        refine e_bipush (v := 6) d_X11_mayName_34 (by decide) ?_
        refine e_icmp_ne d_X11_mayName_36 (fun c36 => ?_) (fun c36 => ?_)
        · have c36 : ¬ (k - 14) = 6 := fun z => c36 (by rw [z]; rfl)
          refine e_iconst (v := 0) d_X11_mayName_43 (by decide) ?_
          refine e_istoren d_X11_mayName_44 (by decide) rfl ?_
          refine e_iloadn d_X11_mayName_45 rfl ?_
          refine e_bipush (v := 14) d_X11_mayName_46 (by decide) ?_
          refine e_icmp_lt d_X11_mayName_48 (fun c48 => ?_) (fun c48 => ?_)
          · have c48 := i_lt (a := w) (b := 14) (by omega) (by decide) c48
            refine e_iconst (v := 1) d_X11_mayName_68 (by decide) ?_
            refine e_gt d_X11_mayName_69 ?_
            exact e_iret d_X11_mayName_73 rfl (rfl) (⟨by first | exact absurd rfl c58 | exact absurd rfl c65 | exact absurd c58 (by decide) | exact absurd c65 (by decide) | (rw [bI_t (okN_iff.mpr (by omega))]; done) | (rw [bI_f (fun z => absurd (okN_iff.mp z) (by omega))]; done), rfl⟩)
          · have c48 := i_nlt (a := w) (b := 14) (by omega) (by decide) c48
            refine e_iloadn d_X11_mayName_51 rfl ?_
            refine e_bipush (v := 18) d_X11_mayName_52 (by decide) ?_
            refine e_icmp_ge d_X11_mayName_54 (fun c54 => ?_) (fun c54 => ?_)
            · have c54 := i_le (a := 18) (b := w) (by decide) (by omega) c54
              refine e_iloadn d_X11_mayName_64 rfl ?_
              refine e_if_eq d_X11_mayName_65 (fun c65 => ?_) (fun c65 => ?_)
              · refine e_iconst (v := 0) d_X11_mayName_72 (by decide) ?_
                exact e_iret d_X11_mayName_73 rfl (rfl) (⟨by first | exact absurd rfl c58 | exact absurd rfl c65 | exact absurd c58 (by decide) | exact absurd c65 (by decide) | (rw [bI_t (okN_iff.mpr (by omega))]; done) | (rw [bI_f (fun z => absurd (okN_iff.mp z) (by omega))]; done), rfl⟩)
              · refine e_iconst (v := 1) d_X11_mayName_68 (by decide) ?_
                refine e_gt d_X11_mayName_69 ?_
                exact e_iret d_X11_mayName_73 rfl (rfl) (⟨by first | exact absurd rfl c58 | exact absurd rfl c65 | exact absurd c58 (by decide) | exact absurd c65 (by decide) | (rw [bI_t (okN_iff.mpr (by omega))]; done) | (rw [bI_f (fun z => absurd (okN_iff.mp z) (by omega))]; done), rfl⟩)
            · have c54 := i_nle (a := 18) (b := w) (by decide) (by omega) c54
              refine e_iloadn d_X11_mayName_57 rfl ?_
              refine e_if_eq d_X11_mayName_58 (fun c58 => ?_) (fun c58 => ?_)
              · refine e_iconst (v := 0) d_X11_mayName_72 (by decide) ?_
                exact e_iret d_X11_mayName_73 rfl (rfl) (⟨by first | exact absurd rfl c58 | exact absurd rfl c65 | exact absurd c58 (by decide) | exact absurd c65 (by decide) | (rw [bI_t (okN_iff.mpr (by omega))]; done) | (rw [bI_f (fun z => absurd (okN_iff.mp z) (by omega))]; done), rfl⟩)
              · refine e_gt d_X11_mayName_61 ?_
                refine e_iconst (v := 1) d_X11_mayName_68 (by decide) ?_
                refine e_gt d_X11_mayName_69 ?_
                exact e_iret d_X11_mayName_73 rfl (rfl) (⟨by first | exact absurd rfl c58 | exact absurd rfl c65 | exact absurd c58 (by decide) | exact absurd c65 (by decide) | (rw [bI_t (okN_iff.mpr (by omega))]; done) | (rw [bI_f (fun z => absurd (okN_iff.mp z) (by omega))]; done), rfl⟩)
        · have c36 := i_eq (a := (k - 14)) (b := 6) (by omega) (by decide) c36
          refine e_iconst (v := 1) d_X11_mayName_39 (by decide) ?_
          refine e_gt d_X11_mayName_40 ?_
          refine e_istoren d_X11_mayName_44 (by decide) rfl ?_
          refine e_iloadn d_X11_mayName_45 rfl ?_
          refine e_bipush (v := 14) d_X11_mayName_46 (by decide) ?_
          refine e_icmp_lt d_X11_mayName_48 (fun c48 => ?_) (fun c48 => ?_)
          · have c48 := i_lt (a := w) (b := 14) (by omega) (by decide) c48
            refine e_iconst (v := 1) d_X11_mayName_68 (by decide) ?_
            refine e_gt d_X11_mayName_69 ?_
            exact e_iret d_X11_mayName_73 rfl (rfl) (⟨by first | exact absurd rfl c58 | exact absurd rfl c65 | exact absurd c58 (by decide) | exact absurd c65 (by decide) | (rw [bI_t (okN_iff.mpr (by omega))]; done) | (rw [bI_f (fun z => absurd (okN_iff.mp z) (by omega))]; done), rfl⟩)
          · have c48 := i_nlt (a := w) (b := 14) (by omega) (by decide) c48
            refine e_iloadn d_X11_mayName_51 rfl ?_
            refine e_bipush (v := 18) d_X11_mayName_52 (by decide) ?_
            refine e_icmp_ge d_X11_mayName_54 (fun c54 => ?_) (fun c54 => ?_)
            · have c54 := i_le (a := 18) (b := w) (by decide) (by omega) c54
              refine e_iloadn d_X11_mayName_64 rfl ?_
              refine e_if_eq d_X11_mayName_65 (fun c65 => ?_) (fun c65 => ?_)
              · refine e_iconst (v := 0) d_X11_mayName_72 (by decide) ?_
                exact e_iret d_X11_mayName_73 rfl (rfl) (⟨by first | exact absurd rfl c58 | exact absurd rfl c65 | exact absurd c58 (by decide) | exact absurd c65 (by decide) | (rw [bI_t (okN_iff.mpr (by omega))]; done) | (rw [bI_f (fun z => absurd (okN_iff.mp z) (by omega))]; done), rfl⟩)
              · refine e_iconst (v := 1) d_X11_mayName_68 (by decide) ?_
                refine e_gt d_X11_mayName_69 ?_
                exact e_iret d_X11_mayName_73 rfl (rfl) (⟨by first | exact absurd rfl c58 | exact absurd rfl c65 | exact absurd c58 (by decide) | exact absurd c65 (by decide) | (rw [bI_t (okN_iff.mpr (by omega))]; done) | (rw [bI_f (fun z => absurd (okN_iff.mp z) (by omega))]; done), rfl⟩)
            · have c54 := i_nle (a := 18) (b := w) (by decide) (by omega) c54
              refine e_iloadn d_X11_mayName_57 rfl ?_
              refine e_if_eq d_X11_mayName_58 (fun c58 => ?_) (fun c58 => ?_)
              · refine e_iconst (v := 0) d_X11_mayName_72 (by decide) ?_
                exact e_iret d_X11_mayName_73 rfl (rfl) (⟨by first | exact absurd rfl c58 | exact absurd rfl c65 | exact absurd c58 (by decide) | exact absurd c65 (by decide) | (rw [bI_t (okN_iff.mpr (by omega))]; done) | (rw [bI_f (fun z => absurd (okN_iff.mp z) (by omega))]; done), rfl⟩)
              · refine e_gt d_X11_mayName_61 ?_
                refine e_iconst (v := 1) d_X11_mayName_68 (by decide) ?_
                refine e_gt d_X11_mayName_69 ?_
                exact e_iret d_X11_mayName_73 rfl (rfl) (⟨by first | exact absurd rfl c58 | exact absurd rfl c65 | exact absurd c58 (by decide) | exact absurd c65 (by decide) | (rw [bI_t (okN_iff.mpr (by omega))]; done) | (rw [bI_f (fun z => absurd (okN_iff.mp z) (by omega))]; done), rfl⟩)
    · have c13 := i_eq (a := (k - 14)) (b := 4) (by omega) (by decide) c13
      refine e_iconst (v := 1) d_X11_mayName_16 (by decide) ?_
      refine e_gt d_X11_mayName_17 ?_
      refine e_istoren d_X11_mayName_21 (by decide) rfl ?_
      refine e_aloadn d_X11_mayName_22 rfl ?_
      refine e_get d_X11_mayName_23 f_X11_263 H_md rfl ?_
      refine e_iconst (v := 2) d_X11_mayName_26 (by decide) ?_
      refine e_icmp_eq d_X11_mayName_27 (fun c27 => ?_) (fun c27 => ?_)
      · have c27 := i_eq (a := (k - 14)) (b := 2) (by omega) (by decide) c27
        refine e_iconst (v := 1) d_X11_mayName_39 (by decide) ?_
        refine e_gt d_X11_mayName_40 ?_
        refine e_istoren d_X11_mayName_44 (by decide) rfl ?_
        refine e_iloadn d_X11_mayName_45 rfl ?_
        refine e_bipush (v := 14) d_X11_mayName_46 (by decide) ?_
        refine e_icmp_lt d_X11_mayName_48 (fun c48 => ?_) (fun c48 => ?_)
        · have c48 := i_lt (a := w) (b := 14) (by omega) (by decide) c48
          refine e_iconst (v := 1) d_X11_mayName_68 (by decide) ?_
          refine e_gt d_X11_mayName_69 ?_
          exact e_iret d_X11_mayName_73 rfl (rfl) (⟨by first | exact absurd rfl c58 | exact absurd rfl c65 | exact absurd c58 (by decide) | exact absurd c65 (by decide) | (rw [bI_t (okN_iff.mpr (by omega))]; done) | (rw [bI_f (fun z => absurd (okN_iff.mp z) (by omega))]; done), rfl⟩)
        · have c48 := i_nlt (a := w) (b := 14) (by omega) (by decide) c48
          refine e_iloadn d_X11_mayName_51 rfl ?_
          refine e_bipush (v := 18) d_X11_mayName_52 (by decide) ?_
          refine e_icmp_ge d_X11_mayName_54 (fun c54 => ?_) (fun c54 => ?_)
          · have c54 := i_le (a := 18) (b := w) (by decide) (by omega) c54
            refine e_iloadn d_X11_mayName_64 rfl ?_
            refine e_if_eq d_X11_mayName_65 (fun c65 => ?_) (fun c65 => ?_)
            · refine e_iconst (v := 0) d_X11_mayName_72 (by decide) ?_
              exact e_iret d_X11_mayName_73 rfl (rfl) (⟨by first | exact absurd rfl c58 | exact absurd rfl c65 | exact absurd c58 (by decide) | exact absurd c65 (by decide) | (rw [bI_t (okN_iff.mpr (by omega))]; done) | (rw [bI_f (fun z => absurd (okN_iff.mp z) (by omega))]; done), rfl⟩)
            · refine e_iconst (v := 1) d_X11_mayName_68 (by decide) ?_
              refine e_gt d_X11_mayName_69 ?_
              exact e_iret d_X11_mayName_73 rfl (rfl) (⟨by first | exact absurd rfl c58 | exact absurd rfl c65 | exact absurd c58 (by decide) | exact absurd c65 (by decide) | (rw [bI_t (okN_iff.mpr (by omega))]; done) | (rw [bI_f (fun z => absurd (okN_iff.mp z) (by omega))]; done), rfl⟩)
          · have c54 := i_nle (a := 18) (b := w) (by decide) (by omega) c54
            refine e_iloadn d_X11_mayName_57 rfl ?_
            refine e_if_eq d_X11_mayName_58 (fun c58 => ?_) (fun c58 => ?_)
            · refine e_iconst (v := 0) d_X11_mayName_72 (by decide) ?_
              exact e_iret d_X11_mayName_73 rfl (rfl) (⟨by first | exact absurd rfl c58 | exact absurd rfl c65 | exact absurd c58 (by decide) | exact absurd c65 (by decide) | (rw [bI_t (okN_iff.mpr (by omega))]; done) | (rw [bI_f (fun z => absurd (okN_iff.mp z) (by omega))]; done), rfl⟩)
            · refine e_gt d_X11_mayName_61 ?_
              refine e_iconst (v := 1) d_X11_mayName_68 (by decide) ?_
              refine e_gt d_X11_mayName_69 ?_
              exact e_iret d_X11_mayName_73 rfl (rfl) (⟨by first | exact absurd rfl c58 | exact absurd rfl c65 | exact absurd c58 (by decide) | exact absurd c65 (by decide) | (rw [bI_t (okN_iff.mpr (by omega))]; done) | (rw [bI_f (fun z => absurd (okN_iff.mp z) (by omega))]; done), rfl⟩)
      · have c27 : ¬ (k - 14) = 2 := fun z => c27 (by rw [z]; rfl)
        refine e_aloadn d_X11_mayName_30 rfl ?_
        refine e_get d_X11_mayName_31 f_X11_263 H_md rfl ?_
        refine e_bipush (v := 6) d_X11_mayName_34 (by decide) ?_
        refine e_icmp_ne d_X11_mayName_36 (fun c36 => ?_) (fun c36 => ?_)
        · have c36 : ¬ (k - 14) = 6 := fun z => c36 (by rw [z]; rfl)
          refine e_iconst (v := 0) d_X11_mayName_43 (by decide) ?_
          refine e_istoren d_X11_mayName_44 (by decide) rfl ?_
          refine e_iloadn d_X11_mayName_45 rfl ?_
          refine e_bipush (v := 14) d_X11_mayName_46 (by decide) ?_
          refine e_icmp_lt d_X11_mayName_48 (fun c48 => ?_) (fun c48 => ?_)
          · have c48 := i_lt (a := w) (b := 14) (by omega) (by decide) c48
            refine e_iconst (v := 1) d_X11_mayName_68 (by decide) ?_
            refine e_gt d_X11_mayName_69 ?_
            exact e_iret d_X11_mayName_73 rfl (rfl) (⟨by first | exact absurd rfl c58 | exact absurd rfl c65 | exact absurd c58 (by decide) | exact absurd c65 (by decide) | (rw [bI_t (okN_iff.mpr (by omega))]; done) | (rw [bI_f (fun z => absurd (okN_iff.mp z) (by omega))]; done), rfl⟩)
          · have c48 := i_nlt (a := w) (b := 14) (by omega) (by decide) c48
            refine e_iloadn d_X11_mayName_51 rfl ?_
            refine e_bipush (v := 18) d_X11_mayName_52 (by decide) ?_
            refine e_icmp_ge d_X11_mayName_54 (fun c54 => ?_) (fun c54 => ?_)
            · have c54 := i_le (a := 18) (b := w) (by decide) (by omega) c54
              refine e_iloadn d_X11_mayName_64 rfl ?_
              refine e_if_eq d_X11_mayName_65 (fun c65 => ?_) (fun c65 => ?_)
              · refine e_iconst (v := 0) d_X11_mayName_72 (by decide) ?_
                exact e_iret d_X11_mayName_73 rfl (rfl) (⟨by first | exact absurd rfl c58 | exact absurd rfl c65 | exact absurd c58 (by decide) | exact absurd c65 (by decide) | (rw [bI_t (okN_iff.mpr (by omega))]; done) | (rw [bI_f (fun z => absurd (okN_iff.mp z) (by omega))]; done), rfl⟩)
              · refine e_iconst (v := 1) d_X11_mayName_68 (by decide) ?_
                refine e_gt d_X11_mayName_69 ?_
                exact e_iret d_X11_mayName_73 rfl (rfl) (⟨by first | exact absurd rfl c58 | exact absurd rfl c65 | exact absurd c58 (by decide) | exact absurd c65 (by decide) | (rw [bI_t (okN_iff.mpr (by omega))]; done) | (rw [bI_f (fun z => absurd (okN_iff.mp z) (by omega))]; done), rfl⟩)
            · have c54 := i_nle (a := 18) (b := w) (by decide) (by omega) c54
              refine e_iloadn d_X11_mayName_57 rfl ?_
              refine e_if_eq d_X11_mayName_58 (fun c58 => ?_) (fun c58 => ?_)
              · refine e_iconst (v := 0) d_X11_mayName_72 (by decide) ?_
                exact e_iret d_X11_mayName_73 rfl (rfl) (⟨by first | exact absurd rfl c58 | exact absurd rfl c65 | exact absurd c58 (by decide) | exact absurd c65 (by decide) | (rw [bI_t (okN_iff.mpr (by omega))]; done) | (rw [bI_f (fun z => absurd (okN_iff.mp z) (by omega))]; done), rfl⟩)
              · refine e_gt d_X11_mayName_61 ?_
                refine e_iconst (v := 1) d_X11_mayName_68 (by decide) ?_
                refine e_gt d_X11_mayName_69 ?_
                exact e_iret d_X11_mayName_73 rfl (rfl) (⟨by first | exact absurd rfl c58 | exact absurd rfl c65 | exact absurd c58 (by decide) | exact absurd c65 (by decide) | (rw [bI_t (okN_iff.mpr (by omega))]; done) | (rw [bI_f (fun z => absurd (okN_iff.mp z) (by omega))]; done), rfl⟩)
        · have c36 := i_eq (a := (k - 14)) (b := 6) (by omega) (by decide) c36
          refine e_iconst (v := 1) d_X11_mayName_39 (by decide) ?_
          refine e_gt d_X11_mayName_40 ?_
          refine e_istoren d_X11_mayName_44 (by decide) rfl ?_
          refine e_iloadn d_X11_mayName_45 rfl ?_
          refine e_bipush (v := 14) d_X11_mayName_46 (by decide) ?_
          refine e_icmp_lt d_X11_mayName_48 (fun c48 => ?_) (fun c48 => ?_)
          · have c48 := i_lt (a := w) (b := 14) (by omega) (by decide) c48
            refine e_iconst (v := 1) d_X11_mayName_68 (by decide) ?_
            refine e_gt d_X11_mayName_69 ?_
            exact e_iret d_X11_mayName_73 rfl (rfl) (⟨by first | exact absurd rfl c58 | exact absurd rfl c65 | exact absurd c58 (by decide) | exact absurd c65 (by decide) | (rw [bI_t (okN_iff.mpr (by omega))]; done) | (rw [bI_f (fun z => absurd (okN_iff.mp z) (by omega))]; done), rfl⟩)
          · have c48 := i_nlt (a := w) (b := 14) (by omega) (by decide) c48
            refine e_iloadn d_X11_mayName_51 rfl ?_
            refine e_bipush (v := 18) d_X11_mayName_52 (by decide) ?_
            refine e_icmp_ge d_X11_mayName_54 (fun c54 => ?_) (fun c54 => ?_)
            · have c54 := i_le (a := 18) (b := w) (by decide) (by omega) c54
              refine e_iloadn d_X11_mayName_64 rfl ?_
              refine e_if_eq d_X11_mayName_65 (fun c65 => ?_) (fun c65 => ?_)
              · refine e_iconst (v := 0) d_X11_mayName_72 (by decide) ?_
                exact e_iret d_X11_mayName_73 rfl (rfl) (⟨by first | exact absurd rfl c58 | exact absurd rfl c65 | exact absurd c58 (by decide) | exact absurd c65 (by decide) | (rw [bI_t (okN_iff.mpr (by omega))]; done) | (rw [bI_f (fun z => absurd (okN_iff.mp z) (by omega))]; done), rfl⟩)
              · refine e_iconst (v := 1) d_X11_mayName_68 (by decide) ?_
                refine e_gt d_X11_mayName_69 ?_
                exact e_iret d_X11_mayName_73 rfl (rfl) (⟨by first | exact absurd rfl c58 | exact absurd rfl c65 | exact absurd c58 (by decide) | exact absurd c65 (by decide) | (rw [bI_t (okN_iff.mpr (by omega))]; done) | (rw [bI_f (fun z => absurd (okN_iff.mp z) (by omega))]; done), rfl⟩)
            · have c54 := i_nle (a := 18) (b := w) (by decide) (by omega) c54
              refine e_iloadn d_X11_mayName_57 rfl ?_
              refine e_if_eq d_X11_mayName_58 (fun c58 => ?_) (fun c58 => ?_)
              · refine e_iconst (v := 0) d_X11_mayName_72 (by decide) ?_
                exact e_iret d_X11_mayName_73 rfl (rfl) (⟨by first | exact absurd rfl c58 | exact absurd rfl c65 | exact absurd c58 (by decide) | exact absurd c65 (by decide) | (rw [bI_t (okN_iff.mpr (by omega))]; done) | (rw [bI_f (fun z => absurd (okN_iff.mp z) (by omega))]; done), rfl⟩)
              · refine e_gt d_X11_mayName_61 ?_
                refine e_iconst (v := 1) d_X11_mayName_68 (by decide) ?_
                refine e_gt d_X11_mayName_69 ?_
                exact e_iret d_X11_mayName_73 rfl (rfl) (⟨by first | exact absurd rfl c58 | exact absurd rfl c65 | exact absurd c58 (by decide) | exact absurd c65 (by decide) | (rw [bI_t (okN_iff.mpr (by omega))]; done) | (rw [bI_f (fun z => absurd (okN_iff.mp z) (by omega))]; done), rfl⟩)

theorem s_X11_wasTold {h : AH} {nd k : Nat} {kd : Nat → Nat} {nw : Nat → Int32} {mtp mfl mfa mln mat mtk mso mto mwr mwp mop mfs mws mst mnk mnr mdn : Int32} {mup mlo mgu mgl : Int64} (H_md : Hs h 66 (oMd mtp mfl mfa mup mlo mln mat mtk mso mto mwr mwp mop mfs mws mst (nI nd) mnk mnr mdn mgu mgl)) (H_mnw : Hs h 80 (aI 10 nw)) (hnd : nd ≤ 10) (hnw : ∀ i, i < nd → nw i = nI (kd i - 14) ∧ 14 ≤ kd i ∧ kd i ≤ 20) (hk : 14 ≤ k ∧ k ≤ 20) : Sp M_X11_wasTold (0, 0) h [.ref 66, .int (nI (k - 14))] (pI (bI (hasK nd kd k = true)) h) := by
  refine ⟨Nat.le_of_ble_eq_true rfl, ?_⟩
  show E _ _ _ 0 h [some (.ref 66), some (.int (nI (k - 14))), none, none] []
  refine e_iconst (v := 0) d_X11_wasTold_0 (by decide) ?_
  refine e_istoren d_X11_wasTold_1 (by decide) rfl ?_
  refine e_iconst (v := 0) d_X11_wasTold_2 (by decide) ?_
  refine e_istoren d_X11_wasTold_3 (by decide) rfl ?_
  have hA_4 : ∀ i, i ≤ nd → ∀ (b : Int32) (y : Int32), (b = bI (anyN (fun i => decide (kd i = k)) i = true)) → (y = nI i) → E M_X11_wasTold (0, 0) (pI (bI (hasK nd kd k = true)) h) 4 (h) [some (.ref 66), some (.int (nI (k - 14))), some (.int b), some (.int y)] [] := by
    refine loop_ind (n := nd) ?_
    intro i hi_i ih_4 b y h_b h_y
    subst h_y
    subst h_b
    refine e_iloadn d_X11_wasTold_4 rfl ?_
    refine e_aloadn d_X11_wasTold_5 rfl ?_
    refine e_get d_X11_wasTold_6 f_X11_290 H_md rfl ?_
    refine e_icmp_ge d_X11_wasTold_9 (fun c => ?_) (fun c => ?_)
    · have c := i_le (by omega) (by omega) c
      obtain rfl : nd = i := by omega
      refine e_iloadn d_X11_wasTold_38 rfl ?_
      exact e_iret d_X11_wasTold_39 rfl (nar_bI) (⟨rfl, rfl⟩)
    · have c := i_nle (by omega) (by omega) c
      refine e_iloadn d_X11_wasTold_12 rfl ?_
      refine e_if_ne d_X11_wasTold_13 (fun c13 => ?_) (fun c13 => ?_)
      · have hb : anyN (fun i => decide (kd i = k)) (i + 1) = true := by rw [anyN, bI_1.mp (bI_z.resolve_left c13)]; rfl
        refine e_iconst (v := 1) d_X11_wasTold_26 (by decide) ?_
        refine e_gt d_X11_wasTold_27 ?_
        refine e_istoren d_X11_wasTold_31 (by decide) rfl ?_
        refine e_iincw (w := 1) d_X11_wasTold_32 rfl (by decide) (by decide) rfl ?_
        refine e_gt d_X11_wasTold_35 ?_
        refine ih_4 (i + 1) (by omega) (by omega) _ _ ?_ ?_
        · first | (rw [bI_t hb]; done) | rw [bI_f (by rw [hb]; decide)]
        · exact nI_1 i
      · have hb9 := Bool.eq_false_iff.mpr (bI_0.mp c13)
        refine e_aloadn d_X11_wasTold_16 rfl ?_
        refine e_get d_X11_wasTold_17 f_X11_57 H_md rfl ?_
        refine e_iloadn d_X11_wasTold_20 rfl ?_
        refine e_ialdN (k := i) d_X11_wasTold_21 H_mnw rfl (by omega) (by omega) ?_
        refine e_iloadn d_X11_wasTold_22 rfl ?_
        obtain ⟨q1, q2, q3⟩ := hnw i c
        rw [q1]
        refine e_icmp_ne d_X11_wasTold_23 (fun c23 => ?_) (fun c23 => ?_)
        · have hb : anyN (fun i => decide (kd i = k)) (i + 1) = false := by
            rw [anyN, hb9]
            have : ¬ kd i = k := fun z => c23 (by rw [z])
            simp [this]
          refine e_iconst (v := 0) d_X11_wasTold_30 (by decide) ?_
          refine e_istoren d_X11_wasTold_31 (by decide) rfl ?_
          refine e_iincw (w := 1) d_X11_wasTold_32 rfl (by decide) (by decide) rfl ?_
          refine e_gt d_X11_wasTold_35 ?_
          refine ih_4 (i + 1) (by omega) (by omega) _ _ ?_ ?_
          · first | (rw [bI_t hb]; done) | rw [bI_f (by rw [hb]; decide)]
          · exact nI_1 i
        · have hb : anyN (fun i => decide (kd i = k)) (i + 1) = true := by
            have : kd i = k := by have := (nI_eq (by omega) (by omega)).mp c23; omega
            rw [anyN]; simp [this]
          refine e_iconst (v := 1) d_X11_wasTold_26 (by decide) ?_
          refine e_gt d_X11_wasTold_27 ?_
          refine e_istoren d_X11_wasTold_31 (by decide) rfl ?_
          refine e_iincw (w := 1) d_X11_wasTold_32 rfl (by decide) (by decide) rfl ?_
          refine e_gt d_X11_wasTold_35 ?_
          refine ih_4 (i + 1) (by omega) (by omega) _ _ ?_ ?_
          · first | (rw [bI_t hb]; done) | rw [bI_f (by rw [hb]; decide)]
          · exact nI_1 i
  exact hA_4 0 (by omega) _ _ (rfl) (rfl)
