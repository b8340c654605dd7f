/-! REFUSED CALLS -/
theorem s_X10_difference_bad {h : AH} {nt : Int32} {x1 x2 x3 : Int32} {tc tl lf lp cost : Int32} (H_mc : Hs h 0 (oMC tc tl lf lp cost)) (H_th : Hs h 6 (oTh nt))  (hbad : ¬ ((0 ≤ x1 ∧ x1 < nt) ∧ (0 ≤ x2 ∧ x2 ≤ 2) ∧ (0 ≤ x3 ∧ x3 ≤ 2))) : Sp M_X10_difference (0, 0) h [.ref 0, .int x1, .int x2, .int x3] (pI (-1000000) h) := by
  refine ⟨Nat.le_of_ble_eq_true rfl, ?_⟩
  show E _ _ _ 0 h [some (.ref 0), some (.int x1), some (.int x2), some (.int x3), none, none] []
  refine e_aloadn d_X10_difference_0 rfl ?_
  refine e_get d_X10_difference_1 f_X10_19 H_mc rfl ?_
  refine e_iloadn d_X10_difference_4 rfl ?_
  refine e_callVI d_X10_difference_5 l_X10_difference_124 H_th rfl rfl (s_X9_has H_th) rfl rfl (Nat.le_of_ble_eq_true rfl) ?_
  refine e_if_eq d_X10_difference_8 (fun c_8 => ?_) (fun c_8 => ?_)
  · refine e_ldc d_X10_difference_27 v_X10_133 ?_
    exact e_iret d_X10_difference_29 rfl (rfl) (⟨rfl, rfl⟩)
  · have g8 : 0 ≤ x1 ∧ x1 < nt := bI_1.mp (bI_z.resolve_left c_8)
    refine e_iloadn d_X10_difference_11 rfl ?_
    refine e_iconst (v := 2) d_X10_difference_12 (by decide) ?_
    refine e_callSI d_X10_difference_13 l_X10_difference_99 (s_X10_within) rfl rfl (Nat.le_of_ble_eq_true rfl) ?_
    refine e_if_eq d_X10_difference_16 (fun c_16 => ?_) (fun c_16 => ?_)
    · refine e_ldc d_X10_difference_27 v_X10_133 ?_
      exact e_iret d_X10_difference_29 rfl (rfl) (⟨rfl, rfl⟩)
    · have g16 : 0 ≤ x2 ∧ x2 ≤ 2 := bI_1.mp (bI_z.resolve_left c_16)
      refine e_iloadn d_X10_difference_19 rfl ?_
      refine e_iconst (v := 2) d_X10_difference_20 (by decide) ?_
      refine e_callSI d_X10_difference_21 l_X10_difference_99 (s_X10_within) rfl rfl (Nat.le_of_ble_eq_true rfl) ?_
      refine e_if_ne d_X10_difference_24 (fun c_24 => ?_) (fun c_24 => ?_)
      · have g24 : 0 ≤ x3 ∧ x3 ≤ 2 := bI_1.mp (bI_z.resolve_left c_24)
        exact absurd ⟨g8, g16, g24⟩ hbad
      · refine e_ldc d_X10_difference_27 v_X10_133 ?_
        exact e_iret d_X10_difference_29 rfl (rfl) (⟨rfl, rfl⟩)

theorem s_X10_deals_bad {h : AH}  {x1 x2 : Int32} {tc tl lf lp cost : Int32} (H_mc : Hs h 0 (oMC tc tl lf lp cost))  (hbad : ¬ ((0 ≤ x1 ∧ x1 < tc) ∧ -1 ≤ x2)) : Sp M_X10_deals (0, 0) h [.ref 0, .int x1, .int x2] (pI (-1) h) := by
  refine ⟨Nat.le_of_ble_eq_true rfl, ?_⟩
  show E _ _ _ 0 h [some (.ref 0), some (.int x1), some (.int x2)] []
  refine e_aloadn d_X10_deals_0 rfl ?_
  refine e_iloadn d_X10_deals_1 rfl ?_
  refine e_callVI d_X10_deals_2 l_X10_deals_172 H_mc rfl rfl (s_X10_isText H_mc) rfl rfl (Nat.le_of_ble_eq_true rfl) ?_
  refine e_if_eq d_X10_deals_5 (fun c_5 => ?_) (fun c_5 => ?_)
  · refine e_iconst (v := -1) d_X10_deals_13 (by decide) ?_
    exact e_iret d_X10_deals_14 rfl (rfl) (⟨rfl, rfl⟩)
  · have g5 : 0 ≤ x1 ∧ x1 < tc := bI_1.mp (bI_z.resolve_left c_5)
    refine e_iloadn d_X10_deals_8 rfl ?_
    refine e_iconst (v := -1) d_X10_deals_9 (by decide) ?_
    refine e_icmp_ge d_X10_deals_10 (fun c_10 => ?_) (fun c_10 => ?_)
    · have g10 : -1 ≤ x2 := c_10
      exact absurd ⟨g5, g10⟩ hbad
    · refine e_iconst (v := -1) d_X10_deals_13 (by decide) ?_
      exact e_iret d_X10_deals_14 rfl (rfl) (⟨rfl, rfl⟩)

theorem s_X10_odds_bad {h : AH} {nt : Int32} {x1 x2 x3 : Int32} {tc tl lf lp cost : Int32} (H_mc : Hs h 0 (oMC tc tl lf lp cost)) (H_th : Hs h 6 (oTh nt))  (hbad : ¬ ((0 ≤ x1 ∧ x1 < tc) ∧ (0 ≤ x2 ∧ x2 < nt) ∧ ((0 ≤ x3 ∧ x3 ≤ 1) ∨ (1 ≤ x3 - 1000 ∧ x3 - 1000 ≤ 1000)))) : Sp M_X10_odds (0, 0) h [.ref 0, .int x1, .int x2, .int x3] (pI (-1) h) := by
  refine ⟨Nat.le_of_ble_eq_true rfl, ?_⟩
  show E _ _ _ 0 h [some (.ref 0), some (.int x1), some (.int x2), some (.int x3), none, none] []
  refine e_iloadn d_X10_odds_0 rfl ?_
  refine e_sipush (v := 1000) d_X10_odds_1 (by decide) ?_
  refine e_isub d_X10_odds_4 ?_
  refine e_callSI d_X10_odds_5 l_X10_odds_182 (s_X10_isT) rfl rfl (Nat.le_of_ble_eq_true rfl) ?_
  refine e_istore d_X10_odds_8 (by decide) rfl ?_
  refine e_aloadn d_X10_odds_10 rfl ?_
  refine e_iloadn d_X10_odds_11 rfl ?_
  refine e_callVI d_X10_odds_12 l_X10_odds_172 H_mc rfl rfl (s_X10_isText H_mc) rfl rfl (Nat.le_of_ble_eq_true rfl) ?_
  refine e_if_eq d_X10_odds_15 (fun c_15 => ?_) (fun c_15 => ?_)
  · refine e_iconst (v := -1) d_X10_odds_42 (by decide) ?_
    exact e_iret d_X10_odds_43 rfl (rfl) (⟨rfl, rfl⟩)
  · have g15 : 0 ≤ x1 ∧ x1 < tc := bI_1.mp (bI_z.resolve_left c_15)
    refine e_aloadn d_X10_odds_18 rfl ?_
    refine e_get d_X10_odds_19 f_X10_19 H_mc rfl ?_
    refine e_iloadn d_X10_odds_22 rfl ?_
    refine e_callVI d_X10_odds_23 l_X10_odds_124 H_th rfl rfl (s_X9_has H_th) rfl rfl (Nat.le_of_ble_eq_true rfl) ?_
    refine e_if_eq d_X10_odds_26 (fun c_26 => ?_) (fun c_26 => ?_)
    · refine e_iconst (v := -1) d_X10_odds_42 (by decide) ?_
      exact e_iret d_X10_odds_43 rfl (rfl) (⟨rfl, rfl⟩)
    · have g26 : 0 ≤ x2 ∧ x2 < nt := bI_1.mp (bI_z.resolve_left c_26)
      refine e_iloadn d_X10_odds_29 rfl ?_
      refine e_iconst (v := 1) d_X10_odds_30 (by decide) ?_
      refine e_callSI d_X10_odds_31 l_X10_odds_99 (s_X10_within) rfl rfl (Nat.le_of_ble_eq_true rfl) ?_
      refine e_if_ne d_X10_odds_34 (fun c_34 => ?_) (fun c_34 => ?_)
      · have g34 : 0 ≤ x3 ∧ x3 ≤ 1 := bI_1.mp (bI_z.resolve_left c_34)
        first
        | exact (hbad ⟨g15, g26, Or.inl g34⟩).elim
        | exact (hbad ⟨g15, g26, Or.inr g39⟩).elim
      · refine e_iload d_X10_odds_37 rfl ?_
        refine e_if_ne d_X10_odds_39 (fun c_39 => ?_) (fun c_39 => ?_)
        · have g39 : 1 ≤ x3 - 1000 ∧ x3 - 1000 ≤ 1000 := bI_1.mp (bI_z.resolve_left c_39)
          first
          | exact (hbad ⟨g15, g26, Or.inl g34⟩).elim
          | exact (hbad ⟨g15, g26, Or.inr g39⟩).elim
        · refine e_iconst (v := -1) d_X10_odds_42 (by decide) ?_
          exact e_iret d_X10_odds_43 rfl (rfl) (⟨rfl, rfl⟩)

theorem s_X10_paid_bad {h : AH} {nt : Int32} {x1 x2 x3 : Int32} {tc tl lf lp cost : Int32} (H_mc : Hs h 0 (oMC tc tl lf lp cost)) (H_th : Hs h 6 (oTh nt))  (hbad : ¬ ((0 ≤ x1 ∧ x1 < tc) ∧ ((x2.toUInt32 >>> (nt.toUInt32 &&& Int32.toUInt32 31)).toInt32 = 0) ∧ (1 ≤ x3 ∧ x3 ≤ 1000))) : Sp M_X10_paid (0, 0) h [.ref 0, .int x1, .int x2, .int x3] (pI (-1) h) := by
  refine ⟨Nat.le_of_ble_eq_true rfl, ?_⟩
  show E _ _ _ 0 h [some (.ref 0), some (.int x1), some (.int x2), some (.int x3), none, none, none, none] []
  refine e_aloadn d_X10_paid_0 rfl ?_
  refine e_iloadn d_X10_paid_1 rfl ?_
  refine e_callVI d_X10_paid_2 l_X10_paid_172 H_mc rfl rfl (s_X10_isText H_mc) rfl rfl (Nat.le_of_ble_eq_true rfl) ?_
  refine e_if_eq d_X10_paid_5 (fun c_5 => ?_) (fun c_5 => ?_)
  · refine e_iconst (v := -1) d_X10_paid_26 (by decide) ?_
    exact e_iret d_X10_paid_27 rfl (rfl) (⟨rfl, rfl⟩)
  · have g5 : 0 ≤ x1 ∧ x1 < tc := bI_1.mp (bI_z.resolve_left c_5)
    refine e_aloadn d_X10_paid_8 rfl ?_
    refine e_get d_X10_paid_9 f_X10_19 H_mc rfl ?_
    refine e_iloadn d_X10_paid_12 rfl ?_
    refine e_callVI d_X10_paid_13 l_X10_paid_192 H_th rfl rfl (s_X9_hasAll H_th) rfl rfl (Nat.le_of_ble_eq_true rfl) ?_
    refine e_if_eq d_X10_paid_16 (fun c_16 => ?_) (fun c_16 => ?_)
    · refine e_iconst (v := -1) d_X10_paid_26 (by decide) ?_
      exact e_iret d_X10_paid_27 rfl (rfl) (⟨rfl, rfl⟩)
    · have g16 : (x2.toUInt32 >>> (nt.toUInt32 &&& Int32.toUInt32 31)).toInt32 = 0 := bI_1.mp (bI_z.resolve_left c_16)
      refine e_iloadn d_X10_paid_19 rfl ?_
      refine e_callSI d_X10_paid_20 l_X10_paid_182 (s_X10_isT) rfl rfl (Nat.le_of_ble_eq_true rfl) ?_
      refine e_if_ne d_X10_paid_23 (fun c_23 => ?_) (fun c_23 => ?_)
      · have g23 : 1 ≤ x3 ∧ x3 ≤ 1000 := bI_1.mp (bI_z.resolve_left c_23)
        exact absurd ⟨g5, g16, g23⟩ hbad
      · refine e_iconst (v := -1) d_X10_paid_26 (by decide) ?_
        exact e_iret d_X10_paid_27 rfl (rfl) (⟨rfl, rfl⟩)

theorem s_X10_few_bad {h : AH} {nt : Int32} {x1 x2 x3 x4 : Int32} {tc tl lf lp cost : Int32} (H_mc : Hs h 0 (oMC tc tl lf lp cost)) (H_th : Hs h 6 (oTh nt))  (hbad : ¬ ((0 ≤ x1 ∧ x1 < tc) ∧ (0 ≤ x2 ∧ x2 < nt) ∧ (1 ≤ x3 ∧ x3 ≤ 1000) ∧ (0 ≤ x4 ∧ x4 ≤ 2))) : Sp M_X10_few (0, 0) h [.ref 0, .int x1, .int x2, .int x3, .int x4] (pI (-1) h) := by
  refine ⟨Nat.le_of_ble_eq_true rfl, ?_⟩
  show E _ _ _ 0 h [some (.ref 0), some (.int x1), some (.int x2), some (.int x3), some (.int x4), none] []
  refine e_aloadn d_X10_few_0 rfl ?_
  refine e_iloadn d_X10_few_1 rfl ?_
  refine e_callVI d_X10_few_2 l_X10_few_172 H_mc rfl rfl (s_X10_isText H_mc) rfl rfl (Nat.le_of_ble_eq_true rfl) ?_
  refine e_if_eq d_X10_few_5 (fun c_5 => ?_) (fun c_5 => ?_)
  · refine e_iconst (v := -1) d_X10_few_35 (by decide) ?_
    exact e_iret d_X10_few_36 rfl (rfl) (⟨rfl, rfl⟩)
  · have g5 : 0 ≤ x1 ∧ x1 < tc := bI_1.mp (bI_z.resolve_left c_5)
    refine e_aloadn d_X10_few_8 rfl ?_
    refine e_get d_X10_few_9 f_X10_19 H_mc rfl ?_
    refine e_iloadn d_X10_few_12 rfl ?_
    refine e_callVI d_X10_few_13 l_X10_few_124 H_th rfl rfl (s_X9_has H_th) rfl rfl (Nat.le_of_ble_eq_true rfl) ?_
    refine e_if_eq d_X10_few_16 (fun c_16 => ?_) (fun c_16 => ?_)
    · refine e_iconst (v := -1) d_X10_few_35 (by decide) ?_
      exact e_iret d_X10_few_36 rfl (rfl) (⟨rfl, rfl⟩)
    · have g16 : 0 ≤ x2 ∧ x2 < nt := bI_1.mp (bI_z.resolve_left c_16)
      refine e_iloadn d_X10_few_19 rfl ?_
      refine e_callSI d_X10_few_20 l_X10_few_182 (s_X10_isT) rfl rfl (Nat.le_of_ble_eq_true rfl) ?_
      refine e_if_eq d_X10_few_23 (fun c_23 => ?_) (fun c_23 => ?_)
      · refine e_iconst (v := -1) d_X10_few_35 (by decide) ?_
        exact e_iret d_X10_few_36 rfl (rfl) (⟨rfl, rfl⟩)
      · have g23 : 1 ≤ x3 ∧ x3 ≤ 1000 := bI_1.mp (bI_z.resolve_left c_23)
        refine e_iload d_X10_few_26 rfl ?_
        refine e_iconst (v := 2) d_X10_few_28 (by decide) ?_
        refine e_callSI d_X10_few_29 l_X10_few_99 (s_X10_within) rfl rfl (Nat.le_of_ble_eq_true rfl) ?_
        refine e_if_ne d_X10_few_32 (fun c_32 => ?_) (fun c_32 => ?_)
        · have g32 : 0 ≤ x4 ∧ x4 ≤ 2 := bI_1.mp (bI_z.resolve_left c_32)
          exact absurd ⟨g5, g16, g23, g32⟩ hbad
        · refine e_iconst (v := -1) d_X10_few_35 (by decide) ?_
          exact e_iret d_X10_few_36 rfl (rfl) (⟨rfl, rfl⟩)

theorem s_X10_changed_bad {h : AH} {nt : Int32} {x1 x2 x3 : Int32} {tc tl lf lp cost : Int32} (H_mc : Hs h 0 (oMC tc tl lf lp cost)) (H_th : Hs h 6 (oTh nt))  (hbad : ¬ ((0 ≤ x1 ∧ x1 < tc) ∧ (0 ≤ x2 ∧ x2 < nt))) : Sp M_X10_changed (0, 0) h [.ref 0, .int x1, .int x2, .int x3] (pI (-1) h) := by
  refine ⟨Nat.le_of_ble_eq_true rfl, ?_⟩
  show E _ _ _ 0 h [some (.ref 0), some (.int x1), some (.int x2), some (.int x3), none, none, none, none, none, none] []
  refine e_aloadn d_X10_changed_0 rfl ?_
  refine e_iloadn d_X10_changed_1 rfl ?_
  refine e_callVI d_X10_changed_2 l_X10_changed_172 H_mc rfl rfl (s_X10_isText H_mc) rfl rfl (Nat.le_of_ble_eq_true rfl) ?_
  refine e_if_eq d_X10_changed_5 (fun c_5 => ?_) (fun c_5 => ?_)
  · refine e_iconst (v := -1) d_X10_changed_19 (by decide) ?_
    exact e_iret d_X10_changed_20 rfl (rfl) (⟨rfl, rfl⟩)
  · have g5 : 0 ≤ x1 ∧ x1 < tc := bI_1.mp (bI_z.resolve_left c_5)
    refine e_aloadn d_X10_changed_8 rfl ?_
    refine e_get d_X10_changed_9 f_X10_19 H_mc rfl ?_
    refine e_iloadn d_X10_changed_12 rfl ?_
    refine e_callVI d_X10_changed_13 l_X10_changed_124 H_th rfl rfl (s_X9_has H_th) rfl rfl (Nat.le_of_ble_eq_true rfl) ?_
    refine e_if_ne d_X10_changed_16 (fun c_16 => ?_) (fun c_16 => ?_)
    · have g16 : 0 ≤ x2 ∧ x2 < nt := bI_1.mp (bI_z.resolve_left c_16)
      exact absurd ⟨g5, g16⟩ hbad
    · refine e_iconst (v := -1) d_X10_changed_19 (by decide) ?_
      exact e_iret d_X10_changed_20 rfl (rfl) (⟨rfl, rfl⟩)

theorem s_X10_lost_bad {h : AH} {nt : Int32} {x1 x2 : Int32} {tc tl lf lp cost : Int32} (H_mc : Hs h 0 (oMC tc tl lf lp cost)) (H_th : Hs h 6 (oTh nt))  (hbad : ¬ ((0 ≤ x1 ∧ x1 < nt))) : Sp M_X10_lost (0, 0) h [.ref 0, .int x1, .int x2] (pI (-1000000) h) := by
  refine ⟨Nat.le_of_ble_eq_true rfl, ?_⟩
  show E _ _ _ 0 h [some (.ref 0), some (.int x1), some (.int x2), none, none, none, none, none, none, none] []
  refine e_aloadn d_X10_lost_0 rfl ?_
  refine e_get d_X10_lost_1 f_X10_19 H_mc rfl ?_
  refine e_iloadn d_X10_lost_4 rfl ?_
  refine e_callVI d_X10_lost_5 l_X10_lost_124 H_th rfl rfl (s_X9_has H_th) rfl rfl (Nat.le_of_ble_eq_true rfl) ?_
  refine e_if_ne d_X10_lost_8 (fun c_8 => ?_) (fun c_8 => ?_)
  · have g8 : 0 ≤ x1 ∧ x1 < nt := bI_1.mp (bI_z.resolve_left c_8)
    exact absurd g8 hbad
  · refine e_ldc d_X10_lost_11 v_X10_133 ?_
    exact e_iret d_X10_lost_13 rfl (rfl) (⟨rfl, rfl⟩)

theorem s_X10_back_bad {h : AH} {nt : Int32} {x1 x2 : Int32} {tc tl lf lp cost : Int32} (H_mc : Hs h 0 (oMC tc tl lf lp cost)) (H_th : Hs h 6 (oTh nt))  (hbad : ¬ (((x1.toUInt32 >>> (nt.toUInt32 &&& Int32.toUInt32 31)).toInt32 = 0) ∧ (0 ≤ x2 ∧ x2 ≤ 1))) : Sp M_X10_back (0, 0) h [.ref 0, .int x1, .int x2] (pI (-1000000) h) := by
  refine ⟨Nat.le_of_ble_eq_true rfl, ?_⟩
  show E _ _ _ 0 h [some (.ref 0), some (.int x1), some (.int x2), none, none, none, none, none, none, none, none, none] []
  refine e_aloadn d_X10_back_0 rfl ?_
  refine e_get d_X10_back_1 f_X10_19 H_mc rfl ?_
  refine e_iloadn d_X10_back_4 rfl ?_
  refine e_callVI d_X10_back_5 l_X10_back_192 H_th rfl rfl (s_X9_hasAll H_th) rfl rfl (Nat.le_of_ble_eq_true rfl) ?_
  refine e_if_eq d_X10_back_8 (fun c_8 => ?_) (fun c_8 => ?_)
  · refine e_ldc d_X10_back_19 v_X10_133 ?_
    exact e_iret d_X10_back_21 rfl (rfl) (⟨rfl, rfl⟩)
  · have g8 : (x1.toUInt32 >>> (nt.toUInt32 &&& Int32.toUInt32 31)).toInt32 = 0 := bI_1.mp (bI_z.resolve_left c_8)
    refine e_iloadn d_X10_back_11 rfl ?_
    refine e_iconst (v := 1) d_X10_back_12 (by decide) ?_
    refine e_callSI d_X10_back_13 l_X10_back_99 (s_X10_within) rfl rfl (Nat.le_of_ble_eq_true rfl) ?_
    refine e_if_ne d_X10_back_16 (fun c_16 => ?_) (fun c_16 => ?_)
    · have g16 : 0 ≤ x2 ∧ x2 ≤ 1 := bI_1.mp (bI_z.resolve_left c_16)
      exact absurd ⟨g8, g16⟩ hbad
    · refine e_ldc d_X10_back_19 v_X10_133 ?_
      exact e_iret d_X10_back_21 rfl (rfl) (⟨rfl, rfl⟩)

theorem s_X10_course_bad {h : AH}  {x1 x2 x3 x4 : Int32} {tc tl lf lp cost : Int32} (H_mc : Hs h 0 (oMC tc tl lf lp cost))  (hbad : ¬ ((0 ≤ x1 ∧ x1 < tc) ∧ (0 ≤ x2 ∧ x2 ≤ 3) ∧ (1 ≤ x3 ∧ x3 ≤ 1000) ∧ (0 ≤ x4 ∧ x4 ≤ 2))) : Sp M_X10_course (0, 0) h [.ref 0, .int x1, .int x2, .int x3, .int x4] (pI (-1) h) := by
  refine ⟨Nat.le_of_ble_eq_true rfl, ?_⟩
  show E _ _ _ 0 h [some (.ref 0), some (.int x1), some (.int x2), some (.int x3), some (.int x4), none, none, none, none, none] []
  refine e_aloadn d_X10_course_0 rfl ?_
  refine e_iloadn d_X10_course_1 rfl ?_
  refine e_callVI d_X10_course_2 l_X10_course_172 H_mc rfl rfl (s_X10_isText H_mc) rfl rfl (Nat.le_of_ble_eq_true rfl) ?_
  refine e_if_eq d_X10_course_5 (fun c_5 => ?_) (fun c_5 => ?_)
  · refine e_iconst (v := -1) d_X10_course_32 (by decide) ?_
    exact e_iret d_X10_course_33 rfl (rfl) (⟨rfl, rfl⟩)
  · have g5 : 0 ≤ x1 ∧ x1 < tc := bI_1.mp (bI_z.resolve_left c_5)
    refine e_iloadn d_X10_course_8 rfl ?_
    refine e_iconst (v := 3) d_X10_course_9 (by decide) ?_
    refine e_callSI d_X10_course_10 l_X10_course_99 (s_X10_within) rfl rfl (Nat.le_of_ble_eq_true rfl) ?_
    refine e_if_eq d_X10_course_13 (fun c_13 => ?_) (fun c_13 => ?_)
    · refine e_iconst (v := -1) d_X10_course_32 (by decide) ?_
      exact e_iret d_X10_course_33 rfl (rfl) (⟨rfl, rfl⟩)
    · have g13 : 0 ≤ x2 ∧ x2 ≤ 3 := bI_1.mp (bI_z.resolve_left c_13)
      refine e_iloadn d_X10_course_16 rfl ?_
      refine e_callSI d_X10_course_17 l_X10_course_182 (s_X10_isT) rfl rfl (Nat.le_of_ble_eq_true rfl) ?_
      refine e_if_eq d_X10_course_20 (fun c_20 => ?_) (fun c_20 => ?_)
      · refine e_iconst (v := -1) d_X10_course_32 (by decide) ?_
        exact e_iret d_X10_course_33 rfl (rfl) (⟨rfl, rfl⟩)
      · have g20 : 1 ≤ x3 ∧ x3 ≤ 1000 := bI_1.mp (bI_z.resolve_left c_20)
        refine e_iload d_X10_course_23 rfl ?_
        refine e_iconst (v := 2) d_X10_course_25 (by decide) ?_
        refine e_callSI d_X10_course_26 l_X10_course_99 (s_X10_within) rfl rfl (Nat.le_of_ble_eq_true rfl) ?_
        refine e_if_ne d_X10_course_29 (fun c_29 => ?_) (fun c_29 => ?_)
        · have g29 : 0 ≤ x4 ∧ x4 ≤ 2 := bI_1.mp (bI_z.resolve_left c_29)
          exact absurd ⟨g5, g13, g20, g29⟩ hbad
        · refine e_iconst (v := -1) d_X10_course_32 (by decide) ?_
          exact e_iret d_X10_course_33 rfl (rfl) (⟨rfl, rfl⟩)

theorem s_X10_ways_bad {h : AH} {nt : Int32} {x1 x2 x3 : Int32} {tc tl lf lp cost : Int32} (H_mc : Hs h 0 (oMC tc tl lf lp cost)) (H_th : Hs h 6 (oTh nt))  (hbad : ¬ ((0 ≤ x1 ∧ x1 < nt) ∧ (0 ≤ x2 ∧ x2 < nt) ∧ (0 ≤ x3 ∧ x3 ≤ 1))) : Sp M_X10_ways (0, 0) h [.ref 0, .int x1, .int x2, .int x3] (pI (-1) h) := by
  refine ⟨Nat.le_of_ble_eq_true rfl, ?_⟩
  show E _ _ _ 0 h [some (.ref 0), some (.int x1), some (.int x2), some (.int x3)] []
  refine e_aloadn d_X10_ways_0 rfl ?_
  refine e_get d_X10_ways_1 f_X10_19 H_mc rfl ?_
  refine e_iloadn d_X10_ways_4 rfl ?_
  refine e_callVI d_X10_ways_5 l_X10_ways_124 H_th rfl rfl (s_X9_has H_th) rfl rfl (Nat.le_of_ble_eq_true rfl) ?_
  refine e_if_eq d_X10_ways_8 (fun c_8 => ?_) (fun c_8 => ?_)
  · refine e_iconst (v := -1) d_X10_ways_30 (by decide) ?_
    exact e_iret d_X10_ways_31 rfl (rfl) (⟨rfl, rfl⟩)
  · have g8 : 0 ≤ x1 ∧ x1 < nt := bI_1.mp (bI_z.resolve_left c_8)
    refine e_aloadn d_X10_ways_11 rfl ?_
    refine e_get d_X10_ways_12 f_X10_19 H_mc rfl ?_
    refine e_iloadn d_X10_ways_15 rfl ?_
    refine e_callVI d_X10_ways_16 l_X10_ways_124 H_th rfl rfl (s_X9_has H_th) rfl rfl (Nat.le_of_ble_eq_true rfl) ?_
    refine e_if_eq d_X10_ways_19 (fun c_19 => ?_) (fun c_19 => ?_)
    · refine e_iconst (v := -1) d_X10_ways_30 (by decide) ?_
      exact e_iret d_X10_ways_31 rfl (rfl) (⟨rfl, rfl⟩)
    · have g19 : 0 ≤ x2 ∧ x2 < nt := bI_1.mp (bI_z.resolve_left c_19)
      refine e_iloadn d_X10_ways_22 rfl ?_
      refine e_iconst (v := 1) d_X10_ways_23 (by decide) ?_
      refine e_callSI d_X10_ways_24 l_X10_ways_99 (s_X10_within) rfl rfl (Nat.le_of_ble_eq_true rfl) ?_
      refine e_if_ne d_X10_ways_27 (fun c_27 => ?_) (fun c_27 => ?_)
      · have g27 : 0 ≤ x3 ∧ x3 ≤ 1 := bI_1.mp (bI_z.resolve_left c_27)
        exact absurd ⟨g8, g19, g27⟩ hbad
      · refine e_iconst (v := -1) d_X10_ways_30 (by decide) ?_
        exact e_iret d_X10_ways_31 rfl (rfl) (⟨rfl, rfl⟩)

theorem s_X10_gap_bad {h : AH} {nt : Int32} {x1 x2 : Int32} {tc tl lf lp cost : Int32} (H_mc : Hs h 0 (oMC tc tl lf lp cost)) (H_th : Hs h 6 (oTh nt))  (hbad : ¬ ((0 ≤ x1 ∧ x1 < tc) ∧ (0 ≤ x2 ∧ x2 < nt))) : Sp M_X10_gap (0, 0) h [.ref 0, .int x1, .int x2] (pI (-1) h) := by
  refine ⟨Nat.le_of_ble_eq_true rfl, ?_⟩
  show E _ _ _ 0 h [some (.ref 0), some (.int x1), some (.int x2), none, none, none, none, none, none, none, none, none] []
  refine e_aloadn d_X10_gap_0 rfl ?_
  refine e_iloadn d_X10_gap_1 rfl ?_
  refine e_callVI d_X10_gap_2 l_X10_gap_172 H_mc rfl rfl (s_X10_isText H_mc) rfl rfl (Nat.le_of_ble_eq_true rfl) ?_
  refine e_if_eq d_X10_gap_5 (fun c_5 => ?_) (fun c_5 => ?_)
  · refine e_iconst (v := -1) d_X10_gap_19 (by decide) ?_
    exact e_iret d_X10_gap_20 rfl (rfl) (⟨rfl, rfl⟩)
  · have g5 : 0 ≤ x1 ∧ x1 < tc := bI_1.mp (bI_z.resolve_left c_5)
    refine e_aloadn d_X10_gap_8 rfl ?_
    refine e_get d_X10_gap_9 f_X10_19 H_mc rfl ?_
    refine e_iloadn d_X10_gap_12 rfl ?_
    refine e_callVI d_X10_gap_13 l_X10_gap_124 H_th rfl rfl (s_X9_has H_th) rfl rfl (Nat.le_of_ble_eq_true rfl) ?_
    refine e_if_ne d_X10_gap_16 (fun c_16 => ?_) (fun c_16 => ?_)
    · have g16 : 0 ≤ x2 ∧ x2 < nt := bI_1.mp (bI_z.resolve_left c_16)
      exact absurd ⟨g5, g16⟩ hbad
    · refine e_iconst (v := -1) d_X10_gap_19 (by decide) ?_
      exact e_iret d_X10_gap_20 rfl (rfl) (⟨rfl, rfl⟩)

theorem s_X10_land_bad {h : AH} {nt : Int32} {x1 x2 : Int32} {tc tl lf lp cost : Int32} (H_mc : Hs h 0 (oMC tc tl lf lp cost)) (H_th : Hs h 6 (oTh nt))  (hbad : ¬ ((0 ≤ x1 ∧ x1 < nt))) : Sp M_X10_land (0, 0) h [.ref 0, .int x1, .int x2] (pI (-1000000) h) := by
  refine ⟨Nat.le_of_ble_eq_true rfl, ?_⟩
  show E _ _ _ 0 h [some (.ref 0), some (.int x1), some (.int x2), none] []
  refine e_aloadn d_X10_land_0 rfl ?_
  refine e_get d_X10_land_1 f_X10_19 H_mc rfl ?_
  refine e_iloadn d_X10_land_4 rfl ?_
  refine e_callVI d_X10_land_5 l_X10_land_124 H_th rfl rfl (s_X9_has H_th) rfl rfl (Nat.le_of_ble_eq_true rfl) ?_
  refine e_if_eq d_X10_land_8 (fun c_8 => ?_) (fun c_8 => ?_)
  · refine e_ldc d_X10_land_19 v_X10_133 ?_
    refine e_istoren d_X10_land_21 (by decide) rfl ?_
    refine e_iloadn d_X10_land_22 rfl ?_
    refine e_ldc d_X10_land_23 v_X10_133 ?_
    refine e_icmp_ne d_X10_land_25 (fun z => by first | exact absurd (fun z => z rfl) z | exact absurd z (fun z => z rfl)) (fun _ => ?_)
    refine e_ldc d_X10_land_28 v_X10_133 ?_
    refine e_gt d_X10_land_30 ?_
    exact e_iret d_X10_land_42 rfl (rfl) (⟨rfl, rfl⟩)
  · have g8 : 0 ≤ x1 ∧ x1 < nt := bI_1.mp (bI_z.resolve_left c_8)
    exact absurd g8 hbad

theorem s_X10_live_bad {h : AH} {nt : Int32} {x1 x2 x3 : Int32} {tc tl lf lp cost : Int32} (H_mc : Hs h 0 (oMC tc tl lf lp cost)) (H_th : Hs h 6 (oTh nt))  (hbad : ¬ ((0 ≤ x1 ∧ x1 < tc) ∧ (0 ≤ x2 ∧ x2 < nt) ∧ (0 ≤ x3 ∧ x3 ≤ 9999))) : Sp M_X10_live (0, 0) h [.ref 0, .int x1, .int x2, .int x3] (pI (-1) h) := by
  refine ⟨Nat.le_of_ble_eq_true rfl, ?_⟩
  show E _ _ _ 0 h [some (.ref 0), some (.int x1), some (.int x2), some (.int x3), none, none, none, none, none] []
  refine e_aloadn d_X10_live_0 rfl ?_
  refine e_iloadn d_X10_live_1 rfl ?_
  refine e_callVI d_X10_live_2 l_X10_live_172 H_mc rfl rfl (s_X10_isText H_mc) rfl rfl (Nat.le_of_ble_eq_true rfl) ?_
  refine e_if_eq d_X10_live_5 (fun c_5 => ?_) (fun c_5 => ?_)
  · refine e_iconst (v := -1) d_X10_live_29 (by decide) ?_
    exact e_iret d_X10_live_30 rfl (rfl) (⟨rfl, rfl⟩)
  · have g5 : 0 ≤ x1 ∧ x1 < tc := bI_1.mp (bI_z.resolve_left c_5)
    refine e_aloadn d_X10_live_8 rfl ?_
    refine e_get d_X10_live_9 f_X10_19 H_mc rfl ?_
    refine e_iloadn d_X10_live_12 rfl ?_
    refine e_callVI d_X10_live_13 l_X10_live_124 H_th rfl rfl (s_X9_has H_th) rfl rfl (Nat.le_of_ble_eq_true rfl) ?_
    refine e_if_eq d_X10_live_16 (fun c_16 => ?_) (fun c_16 => ?_)
    · refine e_iconst (v := -1) d_X10_live_29 (by decide) ?_
      exact e_iret d_X10_live_30 rfl (rfl) (⟨rfl, rfl⟩)
    · have g16 : 0 ≤ x2 ∧ x2 < nt := bI_1.mp (bI_z.resolve_left c_16)
      refine e_iloadn d_X10_live_19 rfl ?_
      refine e_sipush (v := 9999) d_X10_live_20 (by decide) ?_
      refine e_callSI d_X10_live_23 l_X10_live_99 (s_X10_within) rfl rfl (Nat.le_of_ble_eq_true rfl) ?_
      refine e_if_ne d_X10_live_26 (fun c_26 => ?_) (fun c_26 => ?_)
      · have g26 : 0 ≤ x3 ∧ x3 ≤ 9999 := bI_1.mp (bI_z.resolve_left c_26)
        exact absurd ⟨g5, g16, g26⟩ hbad
      · refine e_iconst (v := -1) d_X10_live_29 (by decide) ?_
        exact e_iret d_X10_live_30 rfl (rfl) (⟨rfl, rfl⟩)

theorem s_X10_text_bad {h : AH} {tc tl lf lp cost : Int32} (H_mc : Hs h 0 (oMC tc tl lf lp cost)) (hbad : 6 ≤ tc) : Sp M_X10_text (0, 0) h [.ref 0] (pI (-1) h) := by
  refine ⟨Nat.le_of_ble_eq_true rfl, ?_⟩
  show E _ _ _ 0 h [some (.ref 0)] []
  refine e_aloadn d_X10_text_0 rfl ?_
  refine e_get d_X10_text_1 f_X10_159 H_mc rfl ?_
  refine e_bipush (v := 6) d_X10_text_4 (by decide) ?_
  refine e_icmp_lt d_X10_text_6 (fun z => by first | exact absurd (fun z => absurd z (Int32.not_lt.mpr hbad)) z | exact absurd z (fun z => absurd z (Int32.not_lt.mpr hbad))) (fun _ => ?_)
  refine e_iconst (v := -1) d_X10_text_9 (by decide) ?_
  exact e_iret d_X10_text_10 rfl (rfl) (⟨rfl, rfl⟩)

theorem s_X11_difference_bad {h : AH} {a : Nat → Int32} {x1 x2 x3 : Int32} {mtp mfl mfa mln mat mtk mso mto mwr mwp mop mfs mws mst mnc mnk mnr mdn : Int32} {mup mlo mgu mgl : Int64} (H_md : Hs h 66 (oMd mtp mfl mfa mup mlo mln mat mtk mso mto mwr mwp mop mfs mws mst mnc mnk mnr mdn mgu mgl)) (H_a : Hs h 67 (aI 380 a))  (hbad : ¬ ((0 ≤ x1 ∧ x1 ≤ a 1 - 1) ∧ (0 ≤ x2 ∧ x2 ≤ 2) ∧ (0 ≤ x3 ∧ x3 ≤ 2))) : Sp M_X11_difference (0, 0) h [.ref 66, .int x1, .int x2, .int x3] (pI (-1000000) h) := by
  refine ⟨Nat.le_of_ble_eq_true rfl, ?_⟩
  show E _ _ _ 0 h [some (.ref 66), some (.int x1), some (.int x2), some (.int x3)] []
  refine e_aloadn d_X11_difference_0 rfl ?_
  refine e_iloadn d_X11_difference_1 rfl ?_
  refine e_callVI d_X11_difference_2 l_X11_difference_109 H_md rfl rfl (s_X11_isThing H_md H_a) rfl rfl (Nat.le_of_ble_eq_true rfl) ?_
  refine e_if_eq d_X11_difference_5 (fun c_5 => ?_) (fun c_5 => ?_)
  · refine e_ldc d_X11_difference_39 v_X11_138 ?_
    exact e_iret d_X11_difference_41 rfl (rfl) (⟨rfl, rfl⟩)
  · have g5 : 0 ≤ x1 ∧ x1 ≤ a 1 - 1 := bI_1.mp (bI_z.resolve_left c_5)
    refine e_iloadn d_X11_difference_8 rfl ?_
    refine e_iconst (v := 0) d_X11_difference_9 (by decide) ?_
    refine e_iconst (v := 2) d_X11_difference_10 (by decide) ?_
    refine e_callSI d_X11_difference_11 l_X11_difference_101 (s_X11_in) rfl rfl (Nat.le_of_ble_eq_true rfl) ?_
    refine e_if_eq d_X11_difference_14 (fun c_14 => ?_) (fun c_14 => ?_)
    · refine e_ldc d_X11_difference_39 v_X11_138 ?_
      exact e_iret d_X11_difference_41 rfl (rfl) (⟨rfl, rfl⟩)
    · have g14 : 0 ≤ x2 ∧ x2 ≤ 2 := bI_1.mp (bI_z.resolve_left c_14)
      refine e_iloadn d_X11_difference_17 rfl ?_
      refine e_iconst (v := 0) d_X11_difference_18 (by decide) ?_
      refine e_iconst (v := 2) d_X11_difference_19 (by decide) ?_
      refine e_callSI d_X11_difference_20 l_X11_difference_101 (s_X11_in) rfl rfl (Nat.le_of_ble_eq_true rfl) ?_
      refine e_if_eq d_X11_difference_23 (fun c_23 => ?_) (fun c_23 => ?_)
      · refine e_ldc d_X11_difference_39 v_X11_138 ?_
        exact e_iret d_X11_difference_41 rfl (rfl) (⟨rfl, rfl⟩)
      · have g23 : 0 ≤ x3 ∧ x3 ≤ 2 := bI_1.mp (bI_z.resolve_left c_23)
        exact absurd ⟨g5, g14, g23⟩ hbad

theorem s_X11_deals_bad {h : AH} {a : Nat → Int32} {x1 x2 : Int32} {mtp mfl mfa mln mat mtk mso mto mwr mwp mop mfs mws mst mnc mnk mnr mdn : Int32} {mup mlo mgu mgl : Int64} (H_md : Hs h 66 (oMd mtp mfl mfa mup mlo mln mat mtk mso mto mwr mwp mop mfs mws mst mnc mnk mnr mdn mgu mgl)) (H_a : Hs h 67 (aI 380 a))  (hbad : ¬ ((0 ≤ x1 ∧ x1 ≤ a 2 - 1) ∧ -1 ≤ x2)) : Sp M_X11_deals (0, 0) h [.ref 66, .int x1, .int x2] (pI (-1) h) := by
  refine ⟨Nat.le_of_ble_eq_true rfl, ?_⟩
  show E _ _ _ 0 h [some (.ref 66), some (.int x1), some (.int x2)] []
  refine e_aloadn d_X11_deals_0 rfl ?_
  refine e_iloadn d_X11_deals_1 rfl ?_
  refine e_callVI d_X11_deals_2 l_X11_deals_356 H_md rfl rfl (s_X11_isText H_md H_a) rfl rfl (Nat.le_of_ble_eq_true rfl) ?_
  refine e_if_eq d_X11_deals_5 (fun c_5 => ?_) (fun c_5 => ?_)
  · refine e_iconst (v := -1) d_X11_deals_13 (by decide) ?_
    exact e_iret d_X11_deals_14 rfl (rfl) (⟨rfl, rfl⟩)
  · have g5 : 0 ≤ x1 ∧ x1 ≤ a 2 - 1 := bI_1.mp (bI_z.resolve_left c_5)
    refine e_iloadn d_X11_deals_8 rfl ?_
    refine e_iconst (v := -1) d_X11_deals_9 (by decide) ?_
    refine e_icmp_ge d_X11_deals_10 (fun c_10 => ?_) (fun c_10 => ?_)
    · have g10 : -1 ≤ x2 := c_10
      exact absurd ⟨g5, g10⟩ hbad
    · refine e_iconst (v := -1) d_X11_deals_13 (by decide) ?_
      exact e_iret d_X11_deals_14 rfl (rfl) (⟨rfl, rfl⟩)

theorem s_X11_odds_bad {h : AH} {a : Nat → Int32} {x1 x2 x3 : Int32} {mtp mfl mfa mln mat mtk mso mto mwr mwp mop mfs mws mst mnc mnk mnr mdn : Int32} {mup mlo mgu mgl : Int64} (H_md : Hs h 66 (oMd mtp mfl mfa mup mlo mln mat mtk mso mto mwr mwp mop mfs mws mst mnc mnk mnr mdn mgu mgl)) (H_a : Hs h 67 (aI 380 a))  (hbad : ¬ ((0 ≤ x1 ∧ x1 ≤ a 2 - 1) ∧ (0 ≤ x2 ∧ x2 ≤ a 1 - 1) ∧ ((0 ≤ x3 ∧ x3 ≤ 1) ∨ (1001 ≤ x3 ∧ x3 ≤ 2000)))) : Sp M_X11_odds (0, 0) h [.ref 66, .int x1, .int x2, .int x3] (pI (-1) h) := by
  refine ⟨Nat.le_of_ble_eq_true rfl, ?_⟩
  show E _ _ _ 0 h [some (.ref 66), some (.int x1), some (.int x2), some (.int x3), none] []
  refine e_aloadn d_X11_odds_0 rfl ?_
  refine e_iloadn d_X11_odds_1 rfl ?_
  refine e_callVI d_X11_odds_2 l_X11_odds_356 H_md rfl rfl (s_X11_isText H_md H_a) rfl rfl (Nat.le_of_ble_eq_true rfl) ?_
  refine e_if_eq d_X11_odds_5 (fun c_5 => ?_) (fun c_5 => ?_)
  · refine e_iconst (v := -1) d_X11_odds_38 (by decide) ?_
    exact e_iret d_X11_odds_39 rfl (rfl) (⟨rfl, rfl⟩)
  · have g5 : 0 ≤ x1 ∧ x1 ≤ a 2 - 1 := bI_1.mp (bI_z.resolve_left c_5)
    refine e_aloadn d_X11_odds_8 rfl ?_
    refine e_iloadn d_X11_odds_9 rfl ?_
    refine e_callVI d_X11_odds_10 l_X11_odds_109 H_md rfl rfl (s_X11_isThing H_md H_a) rfl rfl (Nat.le_of_ble_eq_true rfl) ?_
    refine e_if_eq d_X11_odds_13 (fun c_13 => ?_) (fun c_13 => ?_)
    · refine e_iconst (v := -1) d_X11_odds_38 (by decide) ?_
      exact e_iret d_X11_odds_39 rfl (rfl) (⟨rfl, rfl⟩)
    · have g13 : 0 ≤ x2 ∧ x2 ≤ a 1 - 1 := bI_1.mp (bI_z.resolve_left c_13)
      refine e_iloadn d_X11_odds_16 rfl ?_
      refine e_iconst (v := 0) d_X11_odds_17 (by decide) ?_
      refine e_iconst (v := 1) d_X11_odds_18 (by decide) ?_
      refine e_callSI d_X11_odds_19 l_X11_odds_101 (s_X11_in) rfl rfl (Nat.le_of_ble_eq_true rfl) ?_
      refine e_if_ne d_X11_odds_22 (fun c_22 => ?_) (fun c_22 => ?_)
      · have g22 : 0 ≤ x3 ∧ x3 ≤ 1 := bI_1.mp (bI_z.resolve_left c_22)
        first
        | exact (hbad ⟨g5, g13, Or.inl g22⟩).elim
        | exact (hbad ⟨g5, g13, Or.inr g35⟩).elim
      · refine e_iloadn d_X11_odds_25 rfl ?_
        refine e_sipush (v := 1001) d_X11_odds_26 (by decide) ?_
        refine e_sipush (v := 2000) d_X11_odds_29 (by decide) ?_
        refine e_callSI d_X11_odds_32 l_X11_odds_101 (s_X11_in) rfl rfl (Nat.le_of_ble_eq_true rfl) ?_
        refine e_if_ne d_X11_odds_35 (fun c_35 => ?_) (fun c_35 => ?_)
        · have g35 : 1001 ≤ x3 ∧ x3 ≤ 2000 := bI_1.mp (bI_z.resolve_left c_35)
          first
          | exact (hbad ⟨g5, g13, Or.inl g22⟩).elim
          | exact (hbad ⟨g5, g13, Or.inr g35⟩).elim
        · refine e_iconst (v := -1) d_X11_odds_38 (by decide) ?_
          exact e_iret d_X11_odds_39 rfl (rfl) (⟨rfl, rfl⟩)

theorem s_X11_paid_bad {h : AH} {a : Nat → Int32} {x1 x2 x3 : Int32} {mtp mfl mfa mln mat mtk mso mto mwr mwp mop mfs mws mst mnc mnk mnr mdn : Int32} {mup mlo mgu mgl : Int64} (H_md : Hs h 66 (oMd mtp mfl mfa mup mlo mln mat mtk mso mto mwr mwp mop mfs mws mst mnc mnk mnr mdn mgu mgl)) (H_a : Hs h 67 (aI 380 a))  (hbad : ¬ ((0 ≤ x1 ∧ x1 ≤ a 2 - 1) ∧ ¬ x2 < 0 ∧ ¬ (1 : Int32) <<< (a 1 &&& 31) ≤ x2 ∧ (1 ≤ x3 ∧ x3 ≤ 1000))) : Sp M_X11_paid (0, 0) h [.ref 66, .int x1, .int x2, .int x3] (pI (-1) h) := by
  refine ⟨Nat.le_of_ble_eq_true rfl, ?_⟩
  show E _ _ _ 0 h [some (.ref 66), some (.int x1), some (.int x2), some (.int x3), none, none, none, none, none] []
  refine e_aloadn d_X11_paid_0 rfl ?_
  refine e_iloadn d_X11_paid_1 rfl ?_
  refine e_callVI d_X11_paid_2 l_X11_paid_356 H_md rfl rfl (s_X11_isText H_md H_a) rfl rfl (Nat.le_of_ble_eq_true rfl) ?_
  refine e_if_eq d_X11_paid_5 (fun c_5 => ?_) (fun c_5 => ?_)
  · refine e_iconst (v := -1) d_X11_paid_35 (by decide) ?_
    exact e_iret d_X11_paid_36 rfl (rfl) (⟨rfl, rfl⟩)
  · have g5 : 0 ≤ x1 ∧ x1 ≤ a 2 - 1 := bI_1.mp (bI_z.resolve_left c_5)
    refine e_iloadn d_X11_paid_8 rfl ?_
    refine e_if_lt d_X11_paid_9 (fun c_9 => ?_) (fun c_9 => ?_)
    · refine e_iconst (v := -1) d_X11_paid_35 (by decide) ?_
      exact e_iret d_X11_paid_36 rfl (rfl) (⟨rfl, rfl⟩)
    · have g9 := c_9
      refine e_iloadn d_X11_paid_12 rfl ?_
      refine e_iconst (v := 1) d_X11_paid_13 (by decide) ?_
      refine e_aloadn d_X11_paid_14 rfl ?_
      refine e_get d_X11_paid_15 f_X11_7 H_md rfl ?_
      refine e_iconst (v := 1) d_X11_paid_18 (by decide) ?_
      refine e_ialdN (k := 1) d_X11_paid_19 H_a rfl (by decide) (by decide) ?_
      refine e_ishl d_X11_paid_20 ?_
      refine e_icmp_ge d_X11_paid_21 (fun c_21 => ?_) (fun c_21 => ?_)
      · refine e_iconst (v := -1) d_X11_paid_35 (by decide) ?_
        exact e_iret d_X11_paid_36 rfl (rfl) (⟨rfl, rfl⟩)
      · have g21 := c_21
        refine e_iloadn d_X11_paid_24 rfl ?_
        refine e_iconst (v := 1) d_X11_paid_25 (by decide) ?_
        refine e_sipush (v := 1000) d_X11_paid_26 (by decide) ?_
        refine e_callSI d_X11_paid_29 l_X11_paid_101 (s_X11_in) rfl rfl (Nat.le_of_ble_eq_true rfl) ?_
        refine e_if_ne d_X11_paid_32 (fun c_32 => ?_) (fun c_32 => ?_)
        · have g32 : 1 ≤ x3 ∧ x3 ≤ 1000 := bI_1.mp (bI_z.resolve_left c_32)
          exact absurd ⟨g5, g9, g21, g32⟩ hbad
        · refine e_iconst (v := -1) d_X11_paid_35 (by decide) ?_
          exact e_iret d_X11_paid_36 rfl (rfl) (⟨rfl, rfl⟩)

theorem s_X11_few_bad {h : AH} {a : Nat → Int32} {x1 x2 x3 x4 : Int32} {mtp mfl mfa mln mat mtk mso mto mwr mwp mop mfs mws mst mnc mnk mnr mdn : Int32} {mup mlo mgu mgl : Int64} (H_md : Hs h 66 (oMd mtp mfl mfa mup mlo mln mat mtk mso mto mwr mwp mop mfs mws mst mnc mnk mnr mdn mgu mgl)) (H_a : Hs h 67 (aI 380 a))  (hbad : ¬ ((0 ≤ x1 ∧ x1 ≤ a 2 - 1) ∧ (0 ≤ x2 ∧ x2 ≤ a 1 - 1) ∧ (1 ≤ x3 ∧ x3 ≤ 1000) ∧ (0 ≤ x4 ∧ x4 ≤ 2))) : Sp M_X11_few (0, 0) h [.ref 66, .int x1, .int x2, .int x3, .int x4] (pI (-1) h) := by
  refine ⟨Nat.le_of_ble_eq_true rfl, ?_⟩
  show E _ _ _ 0 h [some (.ref 66), some (.int x1), some (.int x2), some (.int x3), some (.int x4), none, none] []
  refine e_aloadn d_X11_few_0 rfl ?_
  refine e_iloadn d_X11_few_1 rfl ?_
  refine e_callVI d_X11_few_2 l_X11_few_356 H_md rfl rfl (s_X11_isText H_md H_a) rfl rfl (Nat.le_of_ble_eq_true rfl) ?_
  refine e_if_eq d_X11_few_5 (fun c_5 => ?_) (fun c_5 => ?_)
  · refine e_iconst (v := -1) d_X11_few_37 (by decide) ?_
    exact e_iret d_X11_few_38 rfl (rfl) (⟨rfl, rfl⟩)
  · have g5 : 0 ≤ x1 ∧ x1 ≤ a 2 - 1 := bI_1.mp (bI_z.resolve_left c_5)
    refine e_aloadn d_X11_few_8 rfl ?_
    refine e_iloadn d_X11_few_9 rfl ?_
    refine e_callVI d_X11_few_10 l_X11_few_109 H_md rfl rfl (s_X11_isThing H_md H_a) rfl rfl (Nat.le_of_ble_eq_true rfl) ?_
    refine e_if_eq d_X11_few_13 (fun c_13 => ?_) (fun c_13 => ?_)
    · refine e_iconst (v := -1) d_X11_few_37 (by decide) ?_
      exact e_iret d_X11_few_38 rfl (rfl) (⟨rfl, rfl⟩)
    · have g13 : 0 ≤ x2 ∧ x2 ≤ a 1 - 1 := bI_1.mp (bI_z.resolve_left c_13)
      refine e_iloadn d_X11_few_16 rfl ?_
      refine e_iconst (v := 1) d_X11_few_17 (by decide) ?_
      refine e_sipush (v := 1000) d_X11_few_18 (by decide) ?_
      refine e_callSI d_X11_few_21 l_X11_few_101 (s_X11_in) rfl rfl (Nat.le_of_ble_eq_true rfl) ?_
      refine e_if_eq d_X11_few_24 (fun c_24 => ?_) (fun c_24 => ?_)
      · refine e_iconst (v := -1) d_X11_few_37 (by decide) ?_
        exact e_iret d_X11_few_38 rfl (rfl) (⟨rfl, rfl⟩)
      · have g24 : 1 ≤ x3 ∧ x3 ≤ 1000 := bI_1.mp (bI_z.resolve_left c_24)
        refine e_iload d_X11_few_27 rfl ?_
        refine e_iconst (v := 0) d_X11_few_29 (by decide) ?_
        refine e_iconst (v := 2) d_X11_few_30 (by decide) ?_
        refine e_callSI d_X11_few_31 l_X11_few_101 (s_X11_in) rfl rfl (Nat.le_of_ble_eq_true rfl) ?_
        refine e_if_ne d_X11_few_34 (fun c_34 => ?_) (fun c_34 => ?_)
        · have g34 : 0 ≤ x4 ∧ x4 ≤ 2 := bI_1.mp (bI_z.resolve_left c_34)
          exact absurd ⟨g5, g13, g24, g34⟩ hbad
        · refine e_iconst (v := -1) d_X11_few_37 (by decide) ?_
          exact e_iret d_X11_few_38 rfl (rfl) (⟨rfl, rfl⟩)

theorem s_X11_changed_bad {h : AH} {a : Nat → Int32} {x1 x2 x3 : Int32} {mtp mfl mfa mln mat mtk mso mto mwr mwp mop mfs mws mst mnc mnk mnr mdn : Int32} {mup mlo mgu mgl : Int64} (H_md : Hs h 66 (oMd mtp mfl mfa mup mlo mln mat mtk mso mto mwr mwp mop mfs mws mst mnc mnk mnr mdn mgu mgl)) (H_a : Hs h 67 (aI 380 a))  (hbad : ¬ ((0 ≤ x1 ∧ x1 ≤ a 2 - 1) ∧ (0 ≤ x2 ∧ x2 ≤ a 1 - 1))) : Sp M_X11_changed (0, 0) h [.ref 66, .int x1, .int x2, .int x3] (pI (-1) h) := by
  refine ⟨Nat.le_of_ble_eq_true rfl, ?_⟩
  show E _ _ _ 0 h [some (.ref 66), some (.int x1), some (.int x2), some (.int x3), none, none, none, none, none, none] []
  refine e_aloadn d_X11_changed_0 rfl ?_
  refine e_iloadn d_X11_changed_1 rfl ?_
  refine e_callVI d_X11_changed_2 l_X11_changed_356 H_md rfl rfl (s_X11_isText H_md H_a) rfl rfl (Nat.le_of_ble_eq_true rfl) ?_
  refine e_if_eq d_X11_changed_5 (fun c_5 => ?_) (fun c_5 => ?_)
  · refine e_iconst (v := -1) d_X11_changed_16 (by decide) ?_
    exact e_iret d_X11_changed_17 rfl (rfl) (⟨rfl, rfl⟩)
  · have g5 : 0 ≤ x1 ∧ x1 ≤ a 2 - 1 := bI_1.mp (bI_z.resolve_left c_5)
    refine e_aloadn d_X11_changed_8 rfl ?_
    refine e_iloadn d_X11_changed_9 rfl ?_
    refine e_callVI d_X11_changed_10 l_X11_changed_109 H_md rfl rfl (s_X11_isThing H_md H_a) rfl rfl (Nat.le_of_ble_eq_true rfl) ?_
    refine e_if_ne d_X11_changed_13 (fun c_13 => ?_) (fun c_13 => ?_)
    · have g13 : 0 ≤ x2 ∧ x2 ≤ a 1 - 1 := bI_1.mp (bI_z.resolve_left c_13)
      exact absurd ⟨g5, g13⟩ hbad
    · refine e_iconst (v := -1) d_X11_changed_16 (by decide) ?_
      exact e_iret d_X11_changed_17 rfl (rfl) (⟨rfl, rfl⟩)

theorem s_X11_lost_bad {h : AH} {a : Nat → Int32} {N S0 : Nat} {x1 x2 : Int32} {mtp mfl mfa mln mat mtk mso mto mwr mwp mop mfs mws mst mnc mnk mnr mdn : Int32} {mup mlo mgu mgl : Int64} (H_md : Hs h 66 (oMd mtp mfl mfa mup mlo mln mat mtk mso mto mwr mwp mop mfs mws mst mnc mnk mnr mdn mgu mgl)) (H_a : Hs h 67 (aI 380 a)) (ha0 : a 0 = nI N) (hN : N ≤ 14) (hbits : bitsOf (fun c => a (80 + c)) N = nI S0) (hS0 : S0 < 16384)  (hbad : ¬ ((0 ≤ x1 ∧ x1 ≤ a 1 - 1))) : Sp M_X11_lost (0, 0) h [.ref 66, .int x1, .int x2] (pI (-1000000) h) := by
  refine ⟨Nat.le_of_ble_eq_true rfl, ?_⟩
  show E _ _ _ 0 h [some (.ref 66), some (.int x1), some (.int x2), none, none, none, none, none, none, none] []
  refine e_aloadn d_X11_lost_0 rfl ?_
  refine e_callVI d_X11_lost_1 l_X11_lost_131 H_md rfl rfl (s_X11_hadBits H_md H_a ha0 hN) rfl rfl (Nat.le_of_ble_eq_true rfl) ?_
  rw [hbits]
  refine e_istoren d_X11_lost_4 (by decide) rfl ?_
  refine e_iloadn d_X11_lost_5 rfl ?_
  refine e_callSI d_X11_lost_6 l_X11_lost_350 (s_X11_ones hS0) rfl rfl (Nat.le_of_ble_eq_true rfl) ?_
  refine e_istore d_X11_lost_9 (by decide) rfl ?_
  refine e_aloadn d_X11_lost_11 rfl ?_
  refine e_iloadn d_X11_lost_12 rfl ?_
  refine e_callVI d_X11_lost_13 l_X11_lost_109 H_md rfl rfl (s_X11_isThing H_md H_a) rfl rfl (Nat.le_of_ble_eq_true rfl) ?_
  refine e_if_eq d_X11_lost_16 (fun c_16 => ?_) (fun c_16 => ?_)
  · refine e_ldc d_X11_lost_35 v_X11_138 ?_
    exact e_iret d_X11_lost_37 rfl (rfl) (⟨rfl, rfl⟩)
  · have g16 : 0 ≤ x1 ∧ x1 ≤ a 1 - 1 := bI_1.mp (bI_z.resolve_left c_16)
    exact absurd g16 hbad

theorem s_X11_back_bad {h : AH} {a : Nat → Int32} {x1 x2 : Int32} {mtp mfl mfa mln mat mtk mso mto mwr mwp mop mfs mws mst mnc mnk mnr mdn : Int32} {mup mlo mgu mgl : Int64} (H_md : Hs h 66 (oMd mtp mfl mfa mup mlo mln mat mtk mso mto mwr mwp mop mfs mws mst mnc mnk mnr mdn mgu mgl)) (H_a : Hs h 67 (aI 380 a))  (hbad : ¬ (¬ x1 < 0 ∧ ¬ (1 : Int32) <<< (a 1 &&& 31) ≤ x1 ∧ (0 ≤ x2 ∧ x2 ≤ 1))) : Sp M_X11_back (0, 0) h [.ref 66, .int x1, .int x2] (pI (-1000000) h) := by
  refine ⟨Nat.le_of_ble_eq_true rfl, ?_⟩
  show E _ _ _ 0 h [some (.ref 66), some (.int x1), some (.int x2), none, none, none, none, none] []
  refine e_iloadn d_X11_back_0 rfl ?_
  refine e_if_lt d_X11_back_1 (fun c_1 => ?_) (fun c_1 => ?_)
  · refine e_ldc d_X11_back_25 v_X11_138 ?_
    exact e_iret d_X11_back_27 rfl (rfl) (⟨rfl, rfl⟩)
  · have g1 := c_1
    refine e_iloadn d_X11_back_4 rfl ?_
    refine e_iconst (v := 1) d_X11_back_5 (by decide) ?_
    refine e_aloadn d_X11_back_6 rfl ?_
    refine e_get d_X11_back_7 f_X11_7 H_md rfl ?_
    refine e_iconst (v := 1) d_X11_back_10 (by decide) ?_
    refine e_ialdN (k := 1) d_X11_back_11 H_a rfl (by decide) (by decide) ?_
    refine e_ishl d_X11_back_12 ?_
    refine e_icmp_ge d_X11_back_13 (fun c_13 => ?_) (fun c_13 => ?_)
    · refine e_ldc d_X11_back_25 v_X11_138 ?_
      exact e_iret d_X11_back_27 rfl (rfl) (⟨rfl, rfl⟩)
    · have g13 := c_13
      refine e_iloadn d_X11_back_16 rfl ?_
      refine e_iconst (v := 0) d_X11_back_17 (by decide) ?_
      refine e_iconst (v := 1) d_X11_back_18 (by decide) ?_
      refine e_callSI d_X11_back_19 l_X11_back_101 (s_X11_in) rfl rfl (Nat.le_of_ble_eq_true rfl) ?_
      refine e_if_ne d_X11_back_22 (fun c_22 => ?_) (fun c_22 => ?_)
      · have g22 : 0 ≤ x2 ∧ x2 ≤ 1 := bI_1.mp (bI_z.resolve_left c_22)
        exact absurd ⟨g1, g13, g22⟩ hbad
      · refine e_ldc d_X11_back_25 v_X11_138 ?_
        exact e_iret d_X11_back_27 rfl (rfl) (⟨rfl, rfl⟩)

theorem s_X11_course_bad {h : AH} {a : Nat → Int32} {x1 x2 x3 x4 : Int32} {mtp mfl mfa mln mat mtk mso mto mwr mwp mop mfs mws mst mnc mnk mnr mdn : Int32} {mup mlo mgu mgl : Int64} (H_md : Hs h 66 (oMd mtp mfl mfa mup mlo mln mat mtk mso mto mwr mwp mop mfs mws mst mnc mnk mnr mdn mgu mgl)) (H_a : Hs h 67 (aI 380 a))  (hbad : ¬ ((0 ≤ x1 ∧ x1 ≤ a 2 - 1) ∧ (0 ≤ x2 ∧ x2 ≤ 3) ∧ (1 ≤ x3 ∧ x3 ≤ 1000) ∧ (0 ≤ x4 ∧ x4 ≤ 2))) : Sp M_X11_course (0, 0) h [.ref 66, .int x1, .int x2, .int x3, .int x4] (pI (-1) h) := by
  refine ⟨Nat.le_of_ble_eq_true rfl, ?_⟩
  show E _ _ _ 0 h [some (.ref 66), some (.int x1), some (.int x2), some (.int x3), some (.int x4), none, none, none, none, none] []
  refine e_aloadn d_X11_course_0 rfl ?_
  refine e_iloadn d_X11_course_1 rfl ?_
  refine e_callVI d_X11_course_2 l_X11_course_356 H_md rfl rfl (s_X11_isText H_md H_a) rfl rfl (Nat.le_of_ble_eq_true rfl) ?_
  refine e_if_eq d_X11_course_5 (fun c_5 => ?_) (fun c_5 => ?_)
  · refine e_iconst (v := -1) d_X11_course_38 (by decide) ?_
    exact e_iret d_X11_course_39 rfl (rfl) (⟨rfl, rfl⟩)
  · have g5 : 0 ≤ x1 ∧ x1 ≤ a 2 - 1 := bI_1.mp (bI_z.resolve_left c_5)
    refine e_iloadn d_X11_course_8 rfl ?_
    refine e_iconst (v := 0) d_X11_course_9 (by decide) ?_
    refine e_iconst (v := 3) d_X11_course_10 (by decide) ?_
    refine e_callSI d_X11_course_11 l_X11_course_101 (s_X11_in) rfl rfl (Nat.le_of_ble_eq_true rfl) ?_
    refine e_if_eq d_X11_course_14 (fun c_14 => ?_) (fun c_14 => ?_)
    · refine e_iconst (v := -1) d_X11_course_38 (by decide) ?_
      exact e_iret d_X11_course_39 rfl (rfl) (⟨rfl, rfl⟩)
    · have g14 : 0 ≤ x2 ∧ x2 ≤ 3 := bI_1.mp (bI_z.resolve_left c_14)
      refine e_iloadn d_X11_course_17 rfl ?_
      refine e_iconst (v := 1) d_X11_course_18 (by decide) ?_
      refine e_sipush (v := 1000) d_X11_course_19 (by decide) ?_
      refine e_callSI d_X11_course_22 l_X11_course_101 (s_X11_in) rfl rfl (Nat.le_of_ble_eq_true rfl) ?_
      refine e_if_eq d_X11_course_25 (fun c_25 => ?_) (fun c_25 => ?_)
      · refine e_iconst (v := -1) d_X11_course_38 (by decide) ?_
        exact e_iret d_X11_course_39 rfl (rfl) (⟨rfl, rfl⟩)
      · have g25 : 1 ≤ x3 ∧ x3 ≤ 1000 := bI_1.mp (bI_z.resolve_left c_25)
        refine e_iload d_X11_course_28 rfl ?_
        refine e_iconst (v := 0) d_X11_course_30 (by decide) ?_
        refine e_iconst (v := 2) d_X11_course_31 (by decide) ?_
        refine e_callSI d_X11_course_32 l_X11_course_101 (s_X11_in) rfl rfl (Nat.le_of_ble_eq_true rfl) ?_
        refine e_if_ne d_X11_course_35 (fun c_35 => ?_) (fun c_35 => ?_)
        · have g35 : 0 ≤ x4 ∧ x4 ≤ 2 := bI_1.mp (bI_z.resolve_left c_35)
          exact absurd ⟨g5, g14, g25, g35⟩ hbad
        · refine e_iconst (v := -1) d_X11_course_38 (by decide) ?_
          exact e_iret d_X11_course_39 rfl (rfl) (⟨rfl, rfl⟩)

theorem s_X11_ways_bad {h : AH} {a : Nat → Int32} {x1 x2 x3 : Int32} {mtp mfl mfa mln mat mtk mso mto mwr mwp mop mfs mws mst mnc mnk mnr mdn : Int32} {mup mlo mgu mgl : Int64} (H_md : Hs h 66 (oMd mtp mfl mfa mup mlo mln mat mtk mso mto mwr mwp mop mfs mws mst mnc mnk mnr mdn mgu mgl)) (H_a : Hs h 67 (aI 380 a))  (hbad : ¬ ((0 ≤ x1 ∧ x1 ≤ a 1 - 1) ∧ (0 ≤ x2 ∧ x2 ≤ a 1 - 1) ∧ (0 ≤ x3 ∧ x3 ≤ 1))) : Sp M_X11_ways (0, 0) h [.ref 66, .int x1, .int x2, .int x3] (pI (-1) h) := by
  refine ⟨Nat.le_of_ble_eq_true rfl, ?_⟩
  show E _ _ _ 0 h [some (.ref 66), some (.int x1), some (.int x2), some (.int x3), none, none, none, none, none] []
  refine e_aloadn d_X11_ways_0 rfl ?_
  refine e_iloadn d_X11_ways_1 rfl ?_
  refine e_callVI d_X11_ways_2 l_X11_ways_109 H_md rfl rfl (s_X11_isThing H_md H_a) rfl rfl (Nat.le_of_ble_eq_true rfl) ?_
  refine e_if_eq d_X11_ways_5 (fun c_5 => ?_) (fun c_5 => ?_)
  · refine e_iconst (v := -1) d_X11_ways_25 (by decide) ?_
    exact e_iret d_X11_ways_26 rfl (rfl) (⟨rfl, rfl⟩)
  · have g5 : 0 ≤ x1 ∧ x1 ≤ a 1 - 1 := bI_1.mp (bI_z.resolve_left c_5)
    refine e_aloadn d_X11_ways_8 rfl ?_
    refine e_iloadn d_X11_ways_9 rfl ?_
    refine e_callVI d_X11_ways_10 l_X11_ways_109 H_md rfl rfl (s_X11_isThing H_md H_a) rfl rfl (Nat.le_of_ble_eq_true rfl) ?_
    refine e_if_eq d_X11_ways_13 (fun c_13 => ?_) (fun c_13 => ?_)
    · refine e_iconst (v := -1) d_X11_ways_25 (by decide) ?_
      exact e_iret d_X11_ways_26 rfl (rfl) (⟨rfl, rfl⟩)
    · have g13 : 0 ≤ x2 ∧ x2 ≤ a 1 - 1 := bI_1.mp (bI_z.resolve_left c_13)
      refine e_iloadn d_X11_ways_16 rfl ?_
      refine e_iconst (v := 0) d_X11_ways_17 (by decide) ?_
      refine e_iconst (v := 1) d_X11_ways_18 (by decide) ?_
      refine e_callSI d_X11_ways_19 l_X11_ways_101 (s_X11_in) rfl rfl (Nat.le_of_ble_eq_true rfl) ?_
      refine e_if_ne d_X11_ways_22 (fun c_22 => ?_) (fun c_22 => ?_)
      · have g22 : 0 ≤ x3 ∧ x3 ≤ 1 := bI_1.mp (bI_z.resolve_left c_22)
        exact absurd ⟨g5, g13, g22⟩ hbad
      · refine e_iconst (v := -1) d_X11_ways_25 (by decide) ?_
        exact e_iret d_X11_ways_26 rfl (rfl) (⟨rfl, rfl⟩)

theorem s_X11_gap_bad {h : AH} {a : Nat → Int32} {x1 x2 : Int32} {mtp mfl mfa mln mat mtk mso mto mwr mwp mop mfs mws mst mnc mnk mnr mdn : Int32} {mup mlo mgu mgl : Int64} (H_md : Hs h 66 (oMd mtp mfl mfa mup mlo mln mat mtk mso mto mwr mwp mop mfs mws mst mnc mnk mnr mdn mgu mgl)) (H_a : Hs h 67 (aI 380 a))  (hbad : ¬ ((0 ≤ x1 ∧ x1 ≤ a 2 - 1) ∧ (0 ≤ x2 ∧ x2 ≤ a 1 - 1))) : Sp M_X11_gap (0, 0) h [.ref 66, .int x1, .int x2] (pI (-1) h) := by
  refine ⟨Nat.le_of_ble_eq_true rfl, ?_⟩
  show E _ _ _ 0 h [some (.ref 66), some (.int x1), some (.int x2), none, none, none, none, none, none] []
  refine e_aloadn d_X11_gap_0 rfl ?_
  refine e_iloadn d_X11_gap_1 rfl ?_
  refine e_callVI d_X11_gap_2 l_X11_gap_356 H_md rfl rfl (s_X11_isText H_md H_a) rfl rfl (Nat.le_of_ble_eq_true rfl) ?_
  refine e_if_eq d_X11_gap_5 (fun c_5 => ?_) (fun c_5 => ?_)
  · refine e_iconst (v := -1) d_X11_gap_16 (by decide) ?_
    exact e_iret d_X11_gap_17 rfl (rfl) (⟨rfl, rfl⟩)
  · have g5 : 0 ≤ x1 ∧ x1 ≤ a 2 - 1 := bI_1.mp (bI_z.resolve_left c_5)
    refine e_aloadn d_X11_gap_8 rfl ?_
    refine e_iloadn d_X11_gap_9 rfl ?_
    refine e_callVI d_X11_gap_10 l_X11_gap_109 H_md rfl rfl (s_X11_isThing H_md H_a) rfl rfl (Nat.le_of_ble_eq_true rfl) ?_
    refine e_if_ne d_X11_gap_13 (fun c_13 => ?_) (fun c_13 => ?_)
    · have g13 : 0 ≤ x2 ∧ x2 ≤ a 1 - 1 := bI_1.mp (bI_z.resolve_left c_13)
      exact absurd ⟨g5, g13⟩ hbad
    · refine e_iconst (v := -1) d_X11_gap_16 (by decide) ?_
      exact e_iret d_X11_gap_17 rfl (rfl) (⟨rfl, rfl⟩)

theorem s_X11_land_bad {h : AH} {a : Nat → Int32} {x1 x2 : Int32} {mtp mfl mfa mln mat mtk mso mto mwr mwp mop mfs mws mst mnc mnk mnr mdn : Int32} {mup mlo mgu mgl : Int64} (H_md : Hs h 66 (oMd mtp mfl mfa mup mlo mln mat mtk mso mto mwr mwp mop mfs mws mst mnc mnk mnr mdn mgu mgl)) (H_a : Hs h 67 (aI 380 a))  (hbad : ¬ ((0 ≤ x1 ∧ x1 ≤ a 1 - 1))) : Sp M_X11_land (0, 0) h [.ref 66, .int x1, .int x2] (pI (-1000000) h) := by
  refine ⟨Nat.le_of_ble_eq_true rfl, ?_⟩
  show E _ _ _ 0 h [some (.ref 66), some (.int x1), some (.int x2), none, none, none, none, none, none, none, none, none] []
  refine e_aloadn d_X11_land_0 rfl ?_
  refine e_iloadn d_X11_land_1 rfl ?_
  refine e_callVI d_X11_land_2 l_X11_land_109 H_md rfl rfl (s_X11_isThing H_md H_a) rfl rfl (Nat.le_of_ble_eq_true rfl) ?_
  refine e_if_eq d_X11_land_5 (fun c_5 => ?_) (fun c_5 => ?_)
  · refine e_ldc d_X11_land_21 v_X11_138 ?_
    exact e_iret d_X11_land_23 rfl (rfl) (⟨rfl, rfl⟩)
  · have g5 : 0 ≤ x1 ∧ x1 ≤ a 1 - 1 := bI_1.mp (bI_z.resolve_left c_5)
    exact absurd g5 hbad

theorem s_X11_live_bad {h : AH} {a : Nat → Int32} {x1 x2 x3 : Int32} {mtp mfl mfa mln mat mtk mso mto mwr mwp mop mfs mws mst mnc mnk mnr mdn : Int32} {mup mlo mgu mgl : Int64} (H_md : Hs h 66 (oMd mtp mfl mfa mup mlo mln mat mtk mso mto mwr mwp mop mfs mws mst mnc mnk mnr mdn mgu mgl)) (H_a : Hs h 67 (aI 380 a))  (hbad : ¬ ((0 ≤ x1 ∧ x1 ≤ a 2 - 1) ∧ (0 ≤ x2 ∧ x2 ≤ a 1 - 1) ∧ (0 ≤ x3 ∧ x3 ≤ 9999))) : Sp M_X11_live (0, 0) h [.ref 66, .int x1, .int x2, .int x3] (pI (-1) h) := by
  refine ⟨Nat.le_of_ble_eq_true rfl, ?_⟩
  show E _ _ _ 0 h [some (.ref 66), some (.int x1), some (.int x2), some (.int x3), none, none, none, none, none, none, none] []
  refine e_aloadn d_X11_live_0 rfl ?_
  refine e_iloadn d_X11_live_1 rfl ?_
  refine e_callVI d_X11_live_2 l_X11_live_356 H_md rfl rfl (s_X11_isText H_md H_a) rfl rfl (Nat.le_of_ble_eq_true rfl) ?_
  refine e_if_eq d_X11_live_5 (fun c_5 => ?_) (fun c_5 => ?_)
  · refine e_iconst (v := -1) d_X11_live_27 (by decide) ?_
    exact e_iret d_X11_live_28 rfl (rfl) (⟨rfl, rfl⟩)
  · have g5 : 0 ≤ x1 ∧ x1 ≤ a 2 - 1 := bI_1.mp (bI_z.resolve_left c_5)
    refine e_aloadn d_X11_live_8 rfl ?_
    refine e_iloadn d_X11_live_9 rfl ?_
    refine e_callVI d_X11_live_10 l_X11_live_109 H_md rfl rfl (s_X11_isThing H_md H_a) rfl rfl (Nat.le_of_ble_eq_true rfl) ?_
    refine e_if_eq d_X11_live_13 (fun c_13 => ?_) (fun c_13 => ?_)
    · refine e_iconst (v := -1) d_X11_live_27 (by decide) ?_
      exact e_iret d_X11_live_28 rfl (rfl) (⟨rfl, rfl⟩)
    · have g13 : 0 ≤ x2 ∧ x2 ≤ a 1 - 1 := bI_1.mp (bI_z.resolve_left c_13)
      refine e_iloadn d_X11_live_16 rfl ?_
      refine e_iconst (v := 0) d_X11_live_17 (by decide) ?_
      refine e_sipush (v := 9999) d_X11_live_18 (by decide) ?_
      refine e_callSI d_X11_live_21 l_X11_live_101 (s_X11_in) rfl rfl (Nat.le_of_ble_eq_true rfl) ?_
      refine e_if_ne d_X11_live_24 (fun c_24 => ?_) (fun c_24 => ?_)
      · have g24 : 0 ≤ x3 ∧ x3 ≤ 9999 := bI_1.mp (bI_z.resolve_left c_24)
        exact absurd ⟨g5, g13, g24⟩ hbad
      · refine e_iconst (v := -1) d_X11_live_27 (by decide) ?_
        exact e_iret d_X11_live_28 rfl (rfl) (⟨rfl, rfl⟩)

theorem s_X11_text_bad {h : AH} {a : Nat → Int32} {mtp mfl mfa mln mat mtk mso mto mwr mwp mop mfs mws mst mnc mnk mnr mdn : Int32} {mup mlo mgu mgl : Int64} (H_md : Hs h 66 (oMd mtp mfl mfa mup mlo mln mat mtk mso mto mwr mwp mop mfs mws mst mnc mnk mnr mdn mgu mgl)) (H_a : Hs h 67 (aI 380 a)) (hbad : a 2 = 6) : Sp M_X11_text (0, 0) h [.ref 66] (pI (-1) h) := by
  refine ⟨Nat.le_of_ble_eq_true rfl, ?_⟩
  show E _ _ _ 0 h [some (.ref 66)] []
  refine e_aloadn d_X11_text_0 rfl ?_
  refine e_get d_X11_text_1 f_X11_7 H_md rfl ?_
  refine e_iconst (v := 2) d_X11_text_4 (by decide) ?_
  refine e_ialdN (k := 2) d_X11_text_5 H_a rfl (by decide) (by decide) ?_
  rw [hbad]
  refine e_bipush (v := 6) d_X11_text_6 (by decide) ?_
  refine e_icmp_ne d_X11_text_8 (fun z => by first | exact absurd (fun z => z rfl) z | exact absurd z (fun z => z rfl)) (fun _ => ?_)
  refine e_iconst (v := -1) d_X11_text_11 (by decide) ?_
  exact e_iret d_X11_text_12 rfl (rfl) (⟨rfl, rfl⟩)
