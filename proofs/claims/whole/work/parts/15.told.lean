/-! CHILDREN, THINGS, ANSWERS and what is told one by one: the class -/
theorem s_X0_add {h : AH} {cnt co ha : Int32} {sexes wits homes works : Nat → Int32} {s w hh k c : Int32} (H_ch : Hs h 1 (oCh cnt co ha)) (H_sx : Hs h 2 (aI 14 sexes)) (H_wt : Hs h 3 (aI 14 wits)) (H_hm : Hs h 4 (aI 14 homes)) (H_wk : Hs h 5 (aI 14 works)) (h0 : 0 ≤ cnt) : Sp M_X0_add (0, 0) h [.ref 1, .int s, .int w, .int hh, .int k, .int c] (pO (cnt < 14) cnt (-1) (up (up (up (up (up (h) 2 (aI 14 (va_up sexes cnt.toNatClampNeg s))) 3 (aI 14 (va_up wits cnt.toNatClampNeg w))) 4 (aI 14 (va_up homes cnt.toNatClampNeg hh))) 5 (aI 14 (va_up works cnt.toNatClampNeg (k)))) 1 (oCh (cnt + 1) (co ||| (if c = 0 then (0 : Int32) else (1 : Int32) <<< (cnt &&& 31))) (ha ||| (if c = 0 then (0 : Int32) else (1 : Int32) <<< (cnt &&& 31))))) h) := by
  refine ⟨Nat.le_of_ble_eq_true rfl, ?_⟩
  show E _ _ _ 0 h [some (.ref 1), some (.int s), some (.int w), some (.int hh), some (.int k), some (.int c)] []
  refine e_aloadn d_X0_add_0 rfl ?_
  refine e_get d_X0_add_1 f_X0_24 H_ch rfl ?_
  refine e_bipush (v := 14) d_X0_add_4 (by decide) ?_
  refine e_icmp_lt d_X0_add_6 (fun c_6 => ?_) (fun c_6 => ?_)
  · refine e_aloadn d_X0_add_11 rfl ?_
    refine e_get d_X0_add_12 f_X0_9 H_ch rfl ?_
    refine e_aloadn d_X0_add_15 rfl ?_
    refine e_get d_X0_add_16 f_X0_24 H_ch rfl ?_
    refine e_iloadn d_X0_add_19 rfl ?_
    refine e_iast d_X0_add_20 H_sx (by first | assumption | exact vp_of (v := 14) (by grind) (by grind) (by decide)) ?_
    refine e_aloadn d_X0_add_21 rfl ?_
    refine e_get d_X0_add_22 f_X0_15 (H_ch.n (by decide)) rfl ?_
    refine e_aloadn d_X0_add_25 rfl ?_
    refine e_get d_X0_add_26 f_X0_24 (H_ch.n (by decide)) rfl ?_
    refine e_iloadn d_X0_add_29 rfl ?_
    refine e_iast d_X0_add_30 (H_wt.n (by decide)) (by first | assumption | exact vp_of (v := 14) (by grind) (by grind) (by decide)) ?_
    refine e_aloadn d_X0_add_31 rfl ?_
    refine e_get d_X0_add_32 f_X0_18 ((H_ch.n (by decide)).n (by decide)) rfl ?_
    refine e_aloadn d_X0_add_35 rfl ?_
    refine e_get d_X0_add_36 f_X0_24 ((H_ch.n (by decide)).n (by decide)) rfl ?_
    refine e_iloadn d_X0_add_39 rfl ?_
    refine e_iast d_X0_add_40 ((H_hm.n (by decide)).n (by decide)) (by first | assumption | exact vp_of (v := 14) (by grind) (by grind) (by decide)) ?_
    refine e_aloadn d_X0_add_41 rfl ?_
    refine e_get d_X0_add_42 f_X0_21 (((H_ch.n (by decide)).n (by decide)).n (by decide)) rfl ?_
    refine e_aloadn d_X0_add_45 rfl ?_
    refine e_get d_X0_add_46 f_X0_24 (((H_ch.n (by decide)).n (by decide)).n (by decide)) rfl ?_
    refine e_iload d_X0_add_49 rfl ?_
    refine e_iast d_X0_add_51 (((H_wk.n (by decide)).n (by decide)).n (by decide)) (by first | assumption | exact vp_of (v := 14) (by grind) (by grind) (by decide)) ?_
    refine e_aloadn d_X0_add_52 rfl ?_
    refine e_dup d_X0_add_53 rfl ?_
    refine e_get d_X0_add_54 f_X0_28 ((((H_ch.n (by decide)).n (by decide)).n (by decide)).n (by decide)) rfl ?_
    refine e_iload d_X0_add_57 rfl ?_
    refine e_dia 72 (0) (1 <<< (cnt &&& 31)) (fun kt kf => e_if_eq d_X0_add_59 kt kf) (fun c_59 K_59 => ?_) (fun c_59 K_59 => ?_) (fun z_59 hz_59 => ?_)
    · refine e_iconst (v := 0) d_X0_add_71 (by decide) ?_
      exact K_59
    · refine e_iconst (v := 1) d_X0_add_62 (by decide) ?_
      refine e_aloadn d_X0_add_63 rfl ?_
      refine e_get d_X0_add_64 f_X0_24 ((((H_ch.n (by decide)).n (by decide)).n (by decide)).n (by decide)) rfl ?_
      refine e_ishl d_X0_add_67 ?_
      refine e_gt d_X0_add_68 ?_
      exact K_59
    · refine e_ior d_X0_add_72 ?_
      refine e_puti d_X0_add_73 f_X0_28 ((((H_ch.n (by decide)).n (by decide)).n (by decide)).n (by decide)) (Nat.le_of_ble_eq_true rfl) ?_
      refine e_aloadn d_X0_add_76 rfl ?_
      refine e_dup d_X0_add_77 rfl ?_
      refine e_get d_X0_add_78 f_X0_31 (((((H_ch.n (by decide)).n (by decide)).n (by decide)).n (by decide)).s) rfl ?_
      refine e_iload d_X0_add_81 rfl ?_
      refine e_dia 96 (0) (1 <<< (cnt &&& 31)) (fun kt kf => e_if_eq d_X0_add_83 kt kf) (fun c_83 K_83 => ?_) (fun c_83 K_83 => ?_) (fun z_83 hz_83 => ?_)
      · refine e_iconst (v := 0) d_X0_add_95 (by decide) ?_
        exact K_83
      · refine e_iconst (v := 1) d_X0_add_86 (by decide) ?_
        refine e_aloadn d_X0_add_87 rfl ?_
        refine e_get d_X0_add_88 f_X0_24 (((((H_ch.n (by decide)).n (by decide)).n (by decide)).n (by decide)).s) rfl ?_
        refine e_ishl d_X0_add_91 ?_
        refine e_gt d_X0_add_92 ?_
        exact K_83
      · refine e_ior d_X0_add_96 ?_
        refine e_puti d_X0_add_97 f_X0_31 (((((H_ch.n (by decide)).n (by decide)).n (by decide)).n (by decide)).s) (Nat.le_of_ble_eq_true rfl) ?_
        refine e_aloadn d_X0_add_100 rfl ?_
        refine e_dup d_X0_add_101 rfl ?_
        refine e_get d_X0_add_102 f_X0_24 ((((((H_ch.n (by decide)).n (by decide)).n (by decide)).n (by decide)).s).s) rfl ?_
        refine e_iconst (v := 1) d_X0_add_105 (by decide) ?_
        refine e_iadd d_X0_add_106 ?_
        refine e_puti d_X0_add_107 f_X0_24 ((((((H_ch.n (by decide)).n (by decide)).n (by decide)).n (by decide)).s).s) (Nat.le_of_ble_eq_true rfl) ?_
        refine e_aloadn d_X0_add_110 rfl ?_
        refine e_get d_X0_add_111 f_X0_24 (((((((H_ch.n (by decide)).n (by decide)).n (by decide)).n (by decide)).s).s).s) rfl ?_
        refine e_iconst (v := 1) d_X0_add_114 (by decide) ?_
        refine e_isub d_X0_add_115 ?_
        exact e_iret d_X0_add_116 rfl (rfl) (Or.inl ⟨by grind, by rw [show cnt + 1 - 1 = cnt by grind], by simp only [up_up]; grind⟩)
  · refine e_iconst (v := -1) d_X0_add_9 (by decide) ?_
    exact e_iret d_X0_add_10 rfl (rfl) (Or.inr ⟨by grind [bI_0], rfl, rfl⟩)

theorem s_X10_child {h : AH} {tc tl lf lp cost dcnt dtext cnt co ha : Int32} {drow : Nat} {sexes wits homes works : Nat → Int32} {s w hh k c : Int32} (H_mc : Hs h 0 (oMC tc tl lf lp cost)) (H_de : Hs h 27 (oDe drow dcnt dtext)) (H_ch : Hs h 1 (oCh cnt co ha)) (H_sx : Hs h 2 (aI 14 sexes)) (H_wt : Hs h 3 (aI 14 wits)) (H_hm : Hs h 4 (aI 14 homes)) (H_wk : Hs h 5 (aI 14 works)) (h0 : 0 ≤ cnt) : Sp M_X10_child (0, 0) h [.ref 0, .int s, .int w, .int hh, .int k, .int c] (pO (0 ≤ s ∧ s ≤ 1 ∧ 0 ≤ w ∧ w ≤ 99 ∧ 0 ≤ hh ∧ hh ≤ 9 ∧ cnt < 14) cnt (-1) (up (up (up (up (up (up h 27 (oDe drow dcnt (-1))) 2 (aI 14 (va_up sexes cnt.toNatClampNeg s))) 3 (aI 14 (va_up wits cnt.toNatClampNeg w))) 4 (aI 14 (va_up homes cnt.toNatClampNeg hh))) 5 (aI 14 (va_up works cnt.toNatClampNeg (if k = 0 then 0 else 1)))) 1 (oCh (cnt + 1) (co ||| (if c = 0 then (0 : Int32) else (1 : Int32) <<< (cnt &&& 31))) (ha ||| (if c = 0 then (0 : Int32) else (1 : Int32) <<< (cnt &&& 31))))) h) := by
  refine ⟨Nat.le_of_ble_eq_true rfl, ?_⟩
  show E _ _ _ 0 h [some (.ref 0), some (.int s), some (.int w), some (.int hh), some (.int k), some (.int c)] []
  refine e_iloadn d_X10_child_0 rfl ?_
  refine e_iconst (v := 1) d_X10_child_1 (by decide) ?_
  refine e_callSI d_X10_child_2 l_X10_child_99 (s_X10_within  ) rfl rfl (Nat.le_of_ble_eq_true rfl) ?_
  refine e_if_eq d_X10_child_5 (fun c_5 => ?_) (fun c_5 => ?_)
  · refine e_iconst (v := -1) d_X10_child_38 (by decide) ?_
    exact e_iret d_X10_child_39 rfl (rfl) (Or.inr ⟨by grind [bI_0], rfl, rfl⟩)
  · refine e_iloadn d_X10_child_8 rfl ?_
    refine e_bipush (v := 99) d_X10_child_9 (by decide) ?_
    refine e_callSI d_X10_child_11 l_X10_child_99 (s_X10_within  ) rfl rfl (Nat.le_of_ble_eq_true rfl) ?_
    refine e_if_eq d_X10_child_14 (fun c_14 => ?_) (fun c_14 => ?_)
    · refine e_iconst (v := -1) d_X10_child_38 (by decide) ?_
      exact e_iret d_X10_child_39 rfl (rfl) (Or.inr ⟨by grind [bI_0], rfl, rfl⟩)
    · refine e_iloadn d_X10_child_17 rfl ?_
      refine e_bipush (v := 9) d_X10_child_18 (by decide) ?_
      refine e_callSI d_X10_child_20 l_X10_child_99 (s_X10_within  ) rfl rfl (Nat.le_of_ble_eq_true rfl) ?_
      refine e_if_eq d_X10_child_23 (fun c_23 => ?_) (fun c_23 => ?_)
      · refine e_iconst (v := -1) d_X10_child_38 (by decide) ?_
        exact e_iret d_X10_child_39 rfl (rfl) (Or.inr ⟨by grind [bI_0], rfl, rfl⟩)
      · refine e_aloadn d_X10_child_26 rfl ?_
        refine e_get d_X10_child_27 f_X10_10 H_mc rfl ?_
        refine e_get d_X10_child_30 f_X10_103 H_ch rfl ?_
        refine e_bipush (v := 14) d_X10_child_33 (by decide) ?_
        refine e_icmp_lt d_X10_child_35 (fun c_35 => ?_) (fun c_35 => ?_)
        · refine e_aloadn d_X10_child_40 rfl ?_
          refine e_get d_X10_child_41 f_X10_74 H_mc rfl ?_
          refine e_callVV d_X10_child_44 l_X10_child_106 H_de rfl rfl (s_X1_forget H_de ) rfl rfl (Nat.le_of_ble_eq_true rfl) ?_
          refine e_aloadn d_X10_child_47 rfl ?_
          refine e_get d_X10_child_48 f_X10_10 (H_mc.n (by decide)) rfl ?_
          refine e_iloadn d_X10_child_51 rfl ?_
          refine e_iloadn d_X10_child_52 rfl ?_
          refine e_iloadn d_X10_child_53 rfl ?_
          refine e_iload d_X10_child_54 rfl ?_
          refine e_dia 64 (0) (1) (fun kt kf => e_if_eq d_X10_child_56 kt kf) (fun c_56 K_56 => ?_) (fun c_56 K_56 => ?_) (fun z_56 hz_56 => ?_)
          · refine e_iconst (v := 0) d_X10_child_63 (by decide) ?_
            exact K_56
          · refine e_iconst (v := 1) d_X10_child_59 (by decide) ?_
            refine e_gt d_X10_child_60 ?_
            exact K_56
          · obtain rfl : z_56 = if k = 0 then (0 : Int32) else 1 := by grind
            refine e_iload d_X10_child_64 rfl ?_
            refine e_callVI d_X10_child_66 l_X10_child_109 (H_ch.n (by decide)) rfl rfl (pO_t (s_X0_add (H_ch.n (by decide)) (H_sx.n (by decide)) (H_wt.n (by decide)) (H_hm.n (by decide)) (H_wk.n (by decide)) (by assumption)) (by grind)) rfl rfl (Nat.le_of_ble_eq_true rfl) ?_
            exact e_iret d_X10_child_69 rfl (rfl) (Or.inl ⟨by grind [bI_0], rfl, rfl⟩)
        · refine e_iconst (v := -1) d_X10_child_38 (by decide) ?_
          exact e_iret d_X10_child_39 rfl (rfl) (Or.inr ⟨by grind [bI_0], rfl, rfl⟩)

theorem s_X10_had {h : AH} {tc tl lf lp cost cnt co ha : Int32} {x b : Int32} (H_mc : Hs h 0 (oMC tc tl lf lp cost)) (H_ch : Hs h 1 (oCh cnt co ha)) : Sp M_X10_had (0, 0) h [.ref 0, .int x, .int b] (pO (0 ≤ x ∧ x < cnt) 1 0 (up h 1 (oCh cnt co (if b = 0 then ha &&& (((1 : Int32) <<< (x &&& 31)) ^^^ (-1)) else ha ||| ((1 : Int32) <<< (x &&& 31))))) h) := by
  refine ⟨Nat.le_of_ble_eq_true rfl, ?_⟩
  show E _ _ _ 0 h [some (.ref 0), some (.int x), some (.int b)] []
  refine e_aloadn d_X10_had_0 rfl ?_
  refine e_get d_X10_had_1 f_X10_10 H_mc rfl ?_
  refine e_iloadn d_X10_had_4 rfl ?_
  refine e_callVI d_X10_had_5 l_X10_had_113 H_ch rfl rfl (s_X0_has2 H_ch ) rfl rfl (Nat.le_of_ble_eq_true rfl) ?_
  refine e_if_ne d_X10_had_8 (fun c_8 => ?_) (fun c_8 => ?_)
  · refine e_aloadn d_X10_had_13 rfl ?_
    refine e_get d_X10_had_14 f_X10_10 H_mc rfl ?_
    refine e_iloadn d_X10_had_17 rfl ?_
    refine e_dia 48 (ha &&& (((1 : Int32) <<< (x &&& 31)) ^^^ (-1))) (ha ||| ((1 : Int32) <<< (x &&& 31))) (fun kt kf => e_if_eq d_X10_had_18 kt kf) (fun c_18 K_18 => ?_) (fun c_18 K_18 => ?_) (fun z_18 hz_18 => ?_)
    · refine e_aloadn d_X10_had_35 rfl ?_
      refine e_get d_X10_had_36 f_X10_10 H_mc rfl ?_
      refine e_get d_X10_had_39 f_X10_117 H_ch rfl ?_
      refine e_iconst (v := 1) d_X10_had_42 (by decide) ?_
      refine e_iloadn d_X10_had_43 rfl ?_
      refine e_ishl d_X10_had_44 ?_
      refine e_iconst (v := -1) d_X10_had_45 (by decide) ?_
      refine e_ixor d_X10_had_46 ?_
      refine e_iand d_X10_had_47 ?_
      exact K_18
    · refine e_aloadn d_X10_had_21 rfl ?_
      refine e_get d_X10_had_22 f_X10_10 H_mc rfl ?_
      refine e_get d_X10_had_25 f_X10_117 H_ch rfl ?_
      refine e_iconst (v := 1) d_X10_had_28 (by decide) ?_
      refine e_iloadn d_X10_had_29 rfl ?_
      refine e_ishl d_X10_had_30 ?_
      refine e_ior d_X10_had_31 ?_
      refine e_gt d_X10_had_32 ?_
      exact K_18
    · obtain rfl : z_18 = if b = 0 then ha &&& (((1 : Int32) <<< (x &&& 31)) ^^^ (-1)) else ha ||| ((1 : Int32) <<< (x &&& 31)) := by grind
      refine e_puti d_X10_had_48 f_X10_117 H_ch (Nat.le_of_ble_eq_true rfl) ?_
      refine e_iconst (v := 1) d_X10_had_51 (by decide) ?_
      exact e_iret d_X10_had_52 rfl (rfl) (Or.inl ⟨by grind [bI_0], rfl, rfl⟩)
  · refine e_iconst (v := 0) d_X10_had_11 (by decide) ?_
    exact e_iret d_X10_had_12 rfl (rfl) (Or.inr ⟨by grind [bI_0], rfl, rfl⟩)

theorem s_X9_add {h : AH} {nt : Int32} {kinds ages less prices : Nat → Int32} {k g l p : Int32} (H_th : Hs h 6 (oTh nt)) (H_tk : Hs h 7 (aI 12 kinds)) (H_tg : Hs h 8 (aI 12 ages)) (H_tl_ : Hs h 9 (aZ 12 less)) (H_tp : Hs h 10 (aI 12 prices)) (h0 : 0 ≤ nt) (hl : l = 0 ∨ l = 1) : Sp M_X9_add (0, 0) h [.ref 6, .int k, .int g, .int l, .int p] (pO (nt < 12) nt (-1) (up (up (up (up (up h 7 (aI 12 (va_up kinds nt.toNatClampNeg k))) 8 (aI 12 (va_up ages nt.toNatClampNeg g))) 9 (aZ 12 (va_up less nt.toNatClampNeg l))) 10 (aI 12 (va_up prices nt.toNatClampNeg p))) 6 (oTh (nt + 1))) h) := by
  refine ⟨Nat.le_of_ble_eq_true rfl, ?_⟩
  show E _ _ _ 0 h [some (.ref 6), some (.int k), some (.int g), some (.int l), some (.int p)] []
  refine e_aloadn d_X9_add_0 rfl ?_
  refine e_get d_X9_add_1 f_X9_34 H_th rfl ?_
  refine e_bipush (v := 12) d_X9_add_4 (by decide) ?_
  refine e_icmp_lt d_X9_add_6 (fun c_6 => ?_) (fun c_6 => ?_)
  · refine e_aloadn d_X9_add_11 rfl ?_
    refine e_get d_X9_add_12 f_X9_9 H_th rfl ?_
    refine e_aloadn d_X9_add_15 rfl ?_
    refine e_get d_X9_add_16 f_X9_34 H_th rfl ?_
    refine e_iloadn d_X9_add_19 rfl ?_
    refine e_iast d_X9_add_20 H_tk (by first | assumption | exact vp_of (v := 12) (by grind) (by grind) (by decide)) ?_
    refine e_aloadn d_X9_add_21 rfl ?_
    refine e_get d_X9_add_22 f_X9_15 (H_th.n (by decide)) rfl ?_
    refine e_aloadn d_X9_add_25 rfl ?_
    refine e_get d_X9_add_26 f_X9_34 (H_th.n (by decide)) rfl ?_
    refine e_iloadn d_X9_add_29 rfl ?_
    refine e_iast d_X9_add_30 (H_tg.n (by decide)) (by first | assumption | exact vp_of (v := 12) (by grind) (by grind) (by decide)) ?_
    refine e_aloadn d_X9_add_31 rfl ?_
    refine e_get d_X9_add_32 f_X9_18 ((H_th.n (by decide)).n (by decide)) rfl ?_
    refine e_aloadn d_X9_add_35 rfl ?_
    refine e_get d_X9_add_36 f_X9_34 ((H_th.n (by decide)).n (by decide)) rfl ?_
    refine e_iloadn d_X9_add_39 rfl ?_
    refine e_zast d_X9_add_40 ((H_tl_.n (by decide)).n (by decide)) (by first | assumption | exact vp_of (v := 12) (by grind) (by grind) (by decide)) (hl) ?_
    refine e_aloadn d_X9_add_41 rfl ?_
    refine e_get d_X9_add_42 f_X9_22 (((H_th.n (by decide)).n (by decide)).n (by decide)) rfl ?_
    refine e_aloadn d_X9_add_45 rfl ?_
    refine e_get d_X9_add_46 f_X9_34 (((H_th.n (by decide)).n (by decide)).n (by decide)) rfl ?_
    refine e_iload d_X9_add_49 rfl ?_
    refine e_iast d_X9_add_51 (((H_tp.n (by decide)).n (by decide)).n (by decide)) (by first | assumption | exact vp_of (v := 12) (by grind) (by grind) (by decide)) ?_
    refine e_aloadn d_X9_add_52 rfl ?_
    refine e_dup d_X9_add_53 rfl ?_
    refine e_get d_X9_add_54 f_X9_34 ((((H_th.n (by decide)).n (by decide)).n (by decide)).n (by decide)) rfl ?_
    refine e_iconst (v := 1) d_X9_add_57 (by decide) ?_
    refine e_iadd d_X9_add_58 ?_
    refine e_puti d_X9_add_59 f_X9_34 ((((H_th.n (by decide)).n (by decide)).n (by decide)).n (by decide)) (Nat.le_of_ble_eq_true rfl) ?_
    refine e_aloadn d_X9_add_62 rfl ?_
    refine e_get d_X9_add_63 f_X9_34 (((((H_th.n (by decide)).n (by decide)).n (by decide)).n (by decide)).s) rfl ?_
    refine e_iconst (v := 1) d_X9_add_66 (by decide) ?_
    refine e_isub d_X9_add_67 ?_
    exact e_iret d_X9_add_68 rfl (rfl) (Or.inl ⟨by grind, by rw [show nt + 1 - 1 = nt by grind], rfl⟩)
  · refine e_iconst (v := -1) d_X9_add_9 (by decide) ?_
    exact e_iret d_X9_add_10 rfl (rfl) (Or.inr ⟨by grind [bI_0], rfl, rfl⟩)

theorem s_X10_thing {h : AH} {tc tl lf lp cost nt : Int32} {kinds ages less prices : Nat → Int32} {k g l p : Int32} (H_mc : Hs h 0 (oMC tc tl lf lp cost)) (H_th : Hs h 6 (oTh nt)) (H_tk : Hs h 7 (aI 12 kinds)) (H_tg : Hs h 8 (aI 12 ages)) (H_tl_ : Hs h 9 (aZ 12 less)) (H_tp : Hs h 10 (aI 12 prices)) (h0 : 0 ≤ nt) (hl : l = 0 ∨ l = 1) : Sp M_X10_thing (0, 0) h [.ref 0, .int k, .int g, .int l, .int p] (pO (0 ≤ k ∧ k ≤ 3 ∧ 0 ≤ g ∧ g ≤ 99 ∧ 0 ≤ p ∧ p ≤ 999 ∧ nt < 12) nt (-1) (up (up (up (up (up h 7 (aI 12 (va_up kinds nt.toNatClampNeg k))) 8 (aI 12 (va_up ages nt.toNatClampNeg g))) 9 (aZ 12 (va_up less nt.toNatClampNeg l))) 10 (aI 12 (va_up prices nt.toNatClampNeg p))) 6 (oTh (nt + 1))) h) := by
  refine ⟨Nat.le_of_ble_eq_true rfl, ?_⟩
  show E _ _ _ 0 h [some (.ref 0), some (.int k), some (.int g), some (.int l), some (.int p)] []
  refine e_iloadn d_X10_thing_0 rfl ?_
  refine e_iconst (v := 3) d_X10_thing_1 (by decide) ?_
  refine e_callSI d_X10_thing_2 l_X10_thing_99 (s_X10_within  ) rfl rfl (Nat.le_of_ble_eq_true rfl) ?_
  refine e_if_eq d_X10_thing_5 (fun c_5 => ?_) (fun c_5 => ?_)
  · refine e_iconst (v := -1) d_X10_thing_40 (by decide) ?_
    exact e_iret d_X10_thing_41 rfl (rfl) (Or.inr ⟨by grind [bI_0], rfl, rfl⟩)
  · refine e_iloadn d_X10_thing_8 rfl ?_
    refine e_bipush (v := 99) d_X10_thing_9 (by decide) ?_
    refine e_callSI d_X10_thing_11 l_X10_thing_99 (s_X10_within  ) rfl rfl (Nat.le_of_ble_eq_true rfl) ?_
    refine e_if_eq d_X10_thing_14 (fun c_14 => ?_) (fun c_14 => ?_)
    · refine e_iconst (v := -1) d_X10_thing_40 (by decide) ?_
      exact e_iret d_X10_thing_41 rfl (rfl) (Or.inr ⟨by grind [bI_0], rfl, rfl⟩)
    · refine e_iload d_X10_thing_17 rfl ?_
      refine e_sipush (v := 999) d_X10_thing_19 (by decide) ?_
      refine e_callSI d_X10_thing_22 l_X10_thing_99 (s_X10_within  ) rfl rfl (Nat.le_of_ble_eq_true rfl) ?_
      refine e_if_eq d_X10_thing_25 (fun c_25 => ?_) (fun c_25 => ?_)
      · refine e_iconst (v := -1) d_X10_thing_40 (by decide) ?_
        exact e_iret d_X10_thing_41 rfl (rfl) (Or.inr ⟨by grind [bI_0], rfl, rfl⟩)
      · refine e_aloadn d_X10_thing_28 rfl ?_
        refine e_get d_X10_thing_29 f_X10_19 H_mc rfl ?_
        refine e_get d_X10_thing_32 f_X10_120 H_th rfl ?_
        refine e_bipush (v := 12) d_X10_thing_35 (by decide) ?_
        refine e_icmp_lt d_X10_thing_37 (fun c_37 => ?_) (fun c_37 => ?_)
        · refine e_aloadn d_X10_thing_42 rfl ?_
          refine e_get d_X10_thing_43 f_X10_19 H_mc rfl ?_
          refine e_iloadn d_X10_thing_46 rfl ?_
          refine e_iloadn d_X10_thing_47 rfl ?_
          refine e_iloadn d_X10_thing_48 rfl ?_
          refine e_iload d_X10_thing_49 rfl ?_
          refine e_callVI d_X10_thing_51 l_X10_thing_121 H_th rfl rfl (pO_t (s_X9_add H_th H_tk H_tg H_tl_ H_tp h0 hl) (by grind)) rfl rfl (Nat.le_of_ble_eq_true rfl) ?_
          exact e_iret d_X10_thing_54 rfl (rfl) (Or.inl ⟨by grind [bI_0], rfl, rfl⟩)
        · refine e_iconst (v := -1) d_X10_thing_40 (by decide) ?_
          exact e_iret d_X10_thing_41 rfl (rfl) (Or.inr ⟨by grind [bI_0], rfl, rfl⟩)

theorem s_X9_tell {h : AH} {nt : Int32} {ans : Nat → Int32} {x y v : Int32} (H_th : Hs h 6 (oTh nt)) (H_an : Hs h 11 (aI 168 ans)) : Sp M_X9_tell (0, 0) h [.ref 6, .int x, .int y, .int v] (pV (if 0 ≤ x * 14 + y ∧ x * 14 + y < 168 then up h 11 (aI 168 (va_up ans (x * 14 + y).toNatClampNeg v)) else h)) := by
  refine ⟨Nat.le_of_ble_eq_true rfl, ?_⟩
  show E _ _ _ 0 h [some (.ref 6), some (.int x), some (.int y), some (.int v), none] []
  refine e_iloadn d_X9_tell_0 rfl ?_
  refine e_bipush (v := 14) d_X9_tell_1 (by decide) ?_
  refine e_imul d_X9_tell_3 ?_
  refine e_iloadn d_X9_tell_4 rfl ?_
  refine e_iadd d_X9_tell_5 ?_
  refine e_istore d_X9_tell_6 (by decide) rfl ?_
  refine e_iload d_X9_tell_8 rfl ?_
  refine e_if_lt d_X9_tell_10 (fun c_10 => ?_) (fun c_10 => ?_)
  · exact e_vret d_X9_tell_31 rfl (⟨rfl, by grind⟩)
  · refine e_iload d_X9_tell_13 rfl ?_
    refine e_aloadn d_X9_tell_15 rfl ?_
    refine e_get d_X9_tell_16 f_X9_25 H_th rfl ?_
    refine e_alenL (v := 168) d_X9_tell_19 H_an rfl ?_
    refine e_icmp_ge d_X9_tell_20 (fun c_20 => ?_) (fun c_20 => ?_)
    · exact e_vret d_X9_tell_31 rfl (⟨rfl, by grind⟩)
    · refine e_aloadn d_X9_tell_23 rfl ?_
      refine e_get d_X9_tell_24 f_X9_25 H_th rfl ?_
      refine e_iload d_X9_tell_27 rfl ?_
      refine e_iloadn d_X9_tell_29 rfl ?_
      refine e_iast d_X9_tell_30 H_an (by first | assumption | exact vp_of (v := 168) (by grind) (by grind) (by decide)) ?_
      exact e_vret d_X9_tell_31 rfl (⟨rfl, by grind⟩)

theorem s_X9_tell2 {h : AH} {nt : Int32} {ans : Nat → Int32} {x y v : Int32} (H_th : Hs h 6 (oTh nt)) (H_an : Hs h 11 (aI 168 ans)) (h1 : 0 ≤ x) (h2 : x < 12) (h3 : 0 ≤ y) (h4 : y < 14) : Sp M_X9_tell (0, 0) h [.ref 6, .int x, .int y, .int v] (pV (up h 11 (aI 168 (va_up ans (x * 14 + y).toNatClampNeg v)))) := by
  have := s_X9_tell (x := x) (y := y) (v := v) H_th H_an
  rwa [if_pos (ix14 h1 h2 h3 h4)] at this
theorem s_X9_told2 {h : AH} {nt : Int32} {ans : Nat → Int32} {x y : Int32} (H_th : Hs h 6 (oTh nt)) (H_an : Hs h 11 (aI 168 ans)) (h1 : 0 ≤ x) (h2 : x < 12) (h3 : 0 ≤ y) (h4 : y < 14) : Sp M_X9_told (0, 0) h [.ref 6, .int x, .int y] (pI (ans (x * 14 + y).toNatClampNeg) h) := by
  have := s_X9_told (x := x) (y := y) H_th H_an
  rwa [if_pos (ix14 h1 h2 h3 h4)] at this

theorem s_X10_answer {h : AH} {tc tl lf lp cost nt cnt co ha : Int32} {ans : Nat → Int32} {x y v : Int32} (H_mc : Hs h 0 (oMC tc tl lf lp cost)) (H_th : Hs h 6 (oTh nt)) (H_ch : Hs h 1 (oCh cnt co ha)) (H_an : Hs h 11 (aI 168 ans)) (hn : nt ≤ 12) (hc : cnt ≤ 14) : Sp M_X10_answer (0, 0) h [.ref 0, .int x, .int y, .int v] (pO (0 ≤ x ∧ x < nt ∧ 0 ≤ y ∧ y < cnt ∧ -1 ≤ v ∧ v ≤ 99) 1 0 (up h 11 (aI 168 (va_up ans (x * 14 + y).toNatClampNeg v))) h) := by
  refine ⟨Nat.le_of_ble_eq_true rfl, ?_⟩
  show E _ _ _ 0 h [some (.ref 0), some (.int x), some (.int y), some (.int v)] []
  refine e_aloadn d_X10_answer_0 rfl ?_
  refine e_get d_X10_answer_1 f_X10_19 H_mc rfl ?_
  refine e_iloadn d_X10_answer_4 rfl ?_
  refine e_callVI d_X10_answer_5 l_X10_answer_124 H_th rfl rfl (s_X9_has H_th ) rfl rfl (Nat.le_of_ble_eq_true rfl) ?_
  refine e_if_eq d_X10_answer_8 (fun c_8 => ?_) (fun c_8 => ?_)
  · refine e_iconst (v := 0) d_X10_answer_36 (by decide) ?_
    exact e_iret d_X10_answer_37 rfl (rfl) (Or.inr ⟨by grind [bI_0], rfl, rfl⟩)
  · refine e_aloadn d_X10_answer_11 rfl ?_
    refine e_get d_X10_answer_12 f_X10_10 H_mc rfl ?_
    refine e_iloadn d_X10_answer_15 rfl ?_
    refine e_callVI d_X10_answer_16 l_X10_answer_113 H_ch rfl rfl (s_X0_has2 H_ch ) rfl rfl (Nat.le_of_ble_eq_true rfl) ?_
    refine e_if_eq d_X10_answer_19 (fun c_19 => ?_) (fun c_19 => ?_)
    · refine e_iconst (v := 0) d_X10_answer_36 (by decide) ?_
      exact e_iret d_X10_answer_37 rfl (rfl) (Or.inr ⟨by grind [bI_0], rfl, rfl⟩)
    · refine e_iloadn d_X10_answer_22 rfl ?_
      refine e_iconst (v := -1) d_X10_answer_23 (by decide) ?_
      refine e_icmp_eq d_X10_answer_24 (fun c_24 => ?_) (fun c_24 => ?_)
      · refine e_aloadn d_X10_answer_38 rfl ?_
        refine e_get d_X10_answer_39 f_X10_19 H_mc rfl ?_
        refine e_iloadn d_X10_answer_42 rfl ?_
        refine e_iloadn d_X10_answer_43 rfl ?_
        refine e_iloadn d_X10_answer_44 rfl ?_
        refine e_callVV d_X10_answer_45 l_X10_answer_125 H_th rfl rfl (s_X9_tell2 H_th H_an (by grind [bI_0]) (by grind [bI_0]) (by grind [bI_0]) (by grind [bI_0])) rfl rfl (Nat.le_of_ble_eq_true rfl) ?_
        refine e_iconst (v := 1) d_X10_answer_48 (by decide) ?_
        exact e_iret d_X10_answer_49 rfl (rfl) (Or.inl ⟨by grind [bI_0], rfl, rfl⟩)
      · refine e_iloadn d_X10_answer_27 rfl ?_
        refine e_bipush (v := 99) d_X10_answer_28 (by decide) ?_
        refine e_callSI d_X10_answer_30 l_X10_answer_99 (s_X10_within  ) rfl rfl (Nat.le_of_ble_eq_true rfl) ?_
        refine e_if_ne d_X10_answer_33 (fun c_33 => ?_) (fun c_33 => ?_)
        · refine e_aloadn d_X10_answer_38 rfl ?_
          refine e_get d_X10_answer_39 f_X10_19 H_mc rfl ?_
          refine e_iloadn d_X10_answer_42 rfl ?_
          refine e_iloadn d_X10_answer_43 rfl ?_
          refine e_iloadn d_X10_answer_44 rfl ?_
          refine e_callVV d_X10_answer_45 l_X10_answer_125 H_th rfl rfl (s_X9_tell2 H_th H_an (by grind [bI_0]) (by grind [bI_0]) (by grind [bI_0]) (by grind [bI_0])) rfl rfl (Nat.le_of_ble_eq_true rfl) ?_
          refine e_iconst (v := 1) d_X10_answer_48 (by decide) ?_
          exact e_iret d_X10_answer_49 rfl (rfl) (Or.inl ⟨by grind [bI_0], rfl, rfl⟩)
        · refine e_iconst (v := 0) d_X10_answer_36 (by decide) ?_
          exact e_iret d_X10_answer_37 rfl (rfl) (Or.inr ⟨by grind [bI_0], rfl, rfl⟩)

theorem s_X10_answered {h : AH} {tc tl lf lp cost nt cnt co ha : Int32} {ans : Nat → Int32} {x y : Int32} (H_mc : Hs h 0 (oMC tc tl lf lp cost)) (H_th : Hs h 6 (oTh nt)) (H_ch : Hs h 1 (oCh cnt co ha)) (H_an : Hs h 11 (aI 168 ans)) (hn : nt ≤ 12) (hc : cnt ≤ 14) : Sp M_X10_answered (0, 0) h [.ref 0, .int x, .int y] (pI (if 0 ≤ x ∧ x < nt ∧ 0 ≤ y ∧ y < cnt then ans (x * 14 + y).toNatClampNeg else -1) h) := by
  refine ⟨Nat.le_of_ble_eq_true rfl, ?_⟩
  show E _ _ _ 0 h [some (.ref 0), some (.int x), some (.int y)] []
  refine e_aloadn d_X10_answered_0 rfl ?_
  refine e_get d_X10_answered_1 f_X10_19 H_mc rfl ?_
  refine e_iloadn d_X10_answered_4 rfl ?_
  refine e_callVI d_X10_answered_5 l_X10_answered_124 H_th rfl rfl (s_X9_has H_th ) rfl rfl (Nat.le_of_ble_eq_true rfl) ?_
  refine e_if_eq d_X10_answered_8 (fun c_8 => ?_) (fun c_8 => ?_)
  · refine e_iconst (v := -1) d_X10_answered_34 (by decide) ?_
    exact e_iret d_X10_answered_35 rfl (rfl) (⟨by grind [bI_0], rfl⟩)
  · refine e_aloadn d_X10_answered_11 rfl ?_
    refine e_get d_X10_answered_12 f_X10_10 H_mc rfl ?_
    refine e_iloadn d_X10_answered_15 rfl ?_
    refine e_callVI d_X10_answered_16 l_X10_answered_113 H_ch rfl rfl (s_X0_has2 H_ch ) rfl rfl (Nat.le_of_ble_eq_true rfl) ?_
    refine e_if_eq d_X10_answered_19 (fun c_19 => ?_) (fun c_19 => ?_)
    · refine e_iconst (v := -1) d_X10_answered_34 (by decide) ?_
      exact e_iret d_X10_answered_35 rfl (rfl) (⟨by grind [bI_0], rfl⟩)
    · refine e_aloadn d_X10_answered_22 rfl ?_
      refine e_get d_X10_answered_23 f_X10_19 H_mc rfl ?_
      refine e_iloadn d_X10_answered_26 rfl ?_
      refine e_iloadn d_X10_answered_27 rfl ?_
      refine e_callVI d_X10_answered_28 l_X10_answered_129 H_th rfl rfl (s_X9_told2 H_th H_an (by grind [bI_0]) (by grind [bI_0]) (by grind [bI_0]) (by grind [bI_0])) rfl rfl (Nat.le_of_ble_eq_true rfl) ?_
      refine e_gt d_X10_answered_31 ?_
      exact e_iret d_X10_answered_35 rfl (rfl) (⟨by grind [bI_0], rfl⟩)

theorem s_X10_end {h : AH} {tc tl lf lp cost : Int32} {n : Int32} (H_mc : Hs h 0 (oMC tc tl lf lp cost)) : Sp M_X10_end (0, 0) h [.ref 0, .int n] (pO (0 ≤ n ∧ n ≤ tl) n (-1) (up h 0 (oMC tc n lf lp cost)) h) := by
  refine ⟨Nat.le_of_ble_eq_true rfl, ?_⟩
  show E _ _ _ 0 h [some (.ref 0), some (.int n)] []
  refine e_iloadn d_X10_end_0 rfl ?_
  refine e_if_lt d_X10_end_1 (fun c_1 => ?_) (fun c_1 => ?_)
  · refine e_iconst (v := -1) d_X10_end_12 (by decide) ?_
    exact e_iret d_X10_end_13 rfl (rfl) (Or.inr ⟨by grind [bI_0], rfl, rfl⟩)
  · refine e_iloadn d_X10_end_4 rfl ?_
    refine e_aloadn d_X10_end_5 rfl ?_
    refine e_get d_X10_end_6 f_X10_152 H_mc rfl ?_
    refine e_icmp_le d_X10_end_9 (fun c_9 => ?_) (fun c_9 => ?_)
    · refine e_aloadn d_X10_end_14 rfl ?_
      refine e_iloadn d_X10_end_15 rfl ?_
      refine e_puti d_X10_end_16 f_X10_152 H_mc (Nat.le_of_ble_eq_true rfl) ?_
      refine e_iloadn d_X10_end_19 rfl ?_
      exact e_iret d_X10_end_20 rfl (rfl) (Or.inl ⟨by grind [bI_0], rfl, rfl⟩)
    · refine e_iconst (v := -1) d_X10_end_12 (by decide) ?_
      exact e_iret d_X10_end_13 rfl (rfl) (Or.inr ⟨by grind [bI_0], rfl, rfl⟩)

theorem s_X10_fault {h : AH} {tc tl lf lp cost : Int32} {w : Int32} (H_mc : Hs h 0 (oMC tc tl lf lp cost)) : Sp M_X10_fault (0, 0) h [.ref 0, .int w] (pI (if w = 0 then lf else if w = 1 then lp else -1) h) := by
  refine ⟨Nat.le_of_ble_eq_true rfl, ?_⟩
  show E _ _ _ 0 h [some (.ref 0), some (.int w)] []
  refine e_iloadn d_X10_fault_0 rfl ?_
  refine e_if_ne d_X10_fault_1 (fun c_1 => ?_) (fun c_1 => ?_)
  · refine e_iloadn d_X10_fault_9 rfl ?_
    refine e_iconst (v := 1) d_X10_fault_10 (by decide) ?_
    refine e_icmp_ne d_X10_fault_11 (fun c_11 => ?_) (fun c_11 => ?_)
    · refine e_iconst (v := -1) d_X10_fault_21 (by decide) ?_
      exact e_iret d_X10_fault_22 rfl (rfl) (⟨by grind, rfl⟩)
    · refine e_aloadn d_X10_fault_14 rfl ?_
      refine e_get d_X10_fault_15 f_X10_58 H_mc rfl ?_
      refine e_gt d_X10_fault_18 ?_
      exact e_iret d_X10_fault_22 rfl (rfl) (⟨by grind, rfl⟩)
  · refine e_aloadn d_X10_fault_4 rfl ?_
    refine e_get d_X10_fault_5 f_X10_54 H_mc rfl ?_
    exact e_iret d_X10_fault_8 rfl (rfl) (⟨by grind, rfl⟩)

theorem s_X10_costs {h : AH} {tc tl lf lp cost : Int32} {v : Int32} (H_mc : Hs h 0 (oMC tc tl lf lp cost)) : Sp M_X10_costs (0, 0) h [.ref 0, .int v] (pO (1 ≤ v ∧ v ≤ 9999) 1 0 (up h 0 (oMC tc tl lf lp v)) h) := by
  refine ⟨Nat.le_of_ble_eq_true rfl, ?_⟩
  show E _ _ _ 0 h [some (.ref 0), some (.int v)] []
  refine e_iloadn d_X10_costs_0 rfl ?_
  refine e_iconst (v := 1) d_X10_costs_1 (by decide) ?_
  refine e_icmp_lt d_X10_costs_2 (fun c_2 => ?_) (fun c_2 => ?_)
  · refine e_iconst (v := 0) d_X10_costs_12 (by decide) ?_
    exact e_iret d_X10_costs_13 rfl (rfl) (Or.inr ⟨by grind [bI_0], rfl, rfl⟩)
  · refine e_iloadn d_X10_costs_5 rfl ?_
    refine e_sipush (v := 9999) d_X10_costs_6 (by decide) ?_
    refine e_icmp_le d_X10_costs_9 (fun c_9 => ?_) (fun c_9 => ?_)
    · refine e_aloadn d_X10_costs_14 rfl ?_
      refine e_iloadn d_X10_costs_15 rfl ?_
      refine e_puti d_X10_costs_16 f_X10_61 H_mc (Nat.le_of_ble_eq_true rfl) ?_
      refine e_iconst (v := 1) d_X10_costs_19 (by decide) ?_
      exact e_iret d_X10_costs_20 rfl (rfl) (Or.inl ⟨by grind [bI_0], rfl, rfl⟩)
    · refine e_iconst (v := 0) d_X10_costs_12 (by decide) ?_
      exact e_iret d_X10_costs_13 rfl (rfl) (Or.inr ⟨by grind [bI_0], rfl, rfl⟩)

theorem s_X4_add {h : AH} {ns : Int32} {lows highs : Nat → Int32} {x y : Int32} (H_ld : Hs h 17 (oLd ns)) (H_lo : Hs h 18 (aI 8 lows)) (H_hi : Hs h 19 (aI 8 highs)) (h0 : 0 ≤ ns) : Sp M_X4_add (0, 0) h [.ref 17, .int x, .int y] (pO (ns < 8) (ns + 1) (-1) (up (up (up h 18 (aI 8 (va_up lows ns.toNatClampNeg x))) 19 (aI 8 (va_up highs ns.toNatClampNeg y))) 17 (oLd (ns + 1))) h) := by
  refine ⟨Nat.le_of_ble_eq_true rfl, ?_⟩
  show E _ _ _ 0 h [some (.ref 17), some (.int x), some (.int y)] []
  refine e_aloadn d_X4_add_0 rfl ?_
  refine e_get d_X4_add_1 f_X4_18 H_ld rfl ?_
  refine e_bipush (v := 8) d_X4_add_4 (by decide) ?_
  refine e_icmp_lt d_X4_add_6 (fun c_6 => ?_) (fun c_6 => ?_)
  · refine e_aloadn d_X4_add_11 rfl ?_
    refine e_get d_X4_add_12 f_X4_9 H_ld rfl ?_
    refine e_aloadn d_X4_add_15 rfl ?_
    refine e_get d_X4_add_16 f_X4_18 H_ld rfl ?_
    refine e_iloadn d_X4_add_19 rfl ?_
    refine e_iast d_X4_add_20 H_lo (by first | assumption | exact vp_of (v := 8) (by grind) (by grind) (by decide)) ?_
    refine e_aloadn d_X4_add_21 rfl ?_
    refine e_get d_X4_add_22 f_X4_15 (H_ld.n (by decide)) rfl ?_
    refine e_aloadn d_X4_add_25 rfl ?_
    refine e_get d_X4_add_26 f_X4_18 (H_ld.n (by decide)) rfl ?_
    refine e_iloadn d_X4_add_29 rfl ?_
    refine e_iast d_X4_add_30 (H_hi.n (by decide)) (by first | assumption | exact vp_of (v := 8) (by grind) (by grind) (by decide)) ?_
    refine e_aloadn d_X4_add_31 rfl ?_
    refine e_dup d_X4_add_32 rfl ?_
    refine e_get d_X4_add_33 f_X4_18 ((H_ld.n (by decide)).n (by decide)) rfl ?_
    refine e_iconst (v := 1) d_X4_add_36 (by decide) ?_
    refine e_iadd d_X4_add_37 ?_
    refine e_puti d_X4_add_38 f_X4_18 ((H_ld.n (by decide)).n (by decide)) (Nat.le_of_ble_eq_true rfl) ?_
    refine e_aloadn d_X4_add_41 rfl ?_
    refine e_get d_X4_add_42 f_X4_18 (((H_ld.n (by decide)).n (by decide)).s) rfl ?_
    exact e_iret d_X4_add_45 rfl (rfl) (Or.inl ⟨by grind [bI_0], rfl, rfl⟩)
  · refine e_iconst (v := -1) d_X4_add_9 (by decide) ?_
    exact e_iret d_X4_add_10 rfl (rfl) (Or.inr ⟨by grind [bI_0], rfl, rfl⟩)

theorem s_X10_step {h : AH} {tc tl lf lp cost ns : Int32} {lows highs : Nat → Int32} {x y : Int32} (H_mc : Hs h 0 (oMC tc tl lf lp cost)) (H_ld : Hs h 17 (oLd ns)) (H_lo : Hs h 18 (aI 8 lows)) (H_hi : Hs h 19 (aI 8 highs)) (h0 : 0 ≤ ns) : Sp M_X10_step (0, 0) h [.ref 0, .int x, .int y] (pO (-100 ≤ x ∧ y ≤ 200 ∧ x ≤ y ∧ ns < 8) (ns + 1) (-1) (up (up (up h 18 (aI 8 (va_up lows ns.toNatClampNeg x))) 19 (aI 8 (va_up highs ns.toNatClampNeg y))) 17 (oLd (ns + 1))) h) := by
  refine ⟨Nat.le_of_ble_eq_true rfl, ?_⟩
  show E _ _ _ 0 h [some (.ref 0), some (.int x), some (.int y)] []
  refine e_iloadn d_X10_step_0 rfl ?_
  refine e_bipush (v := -100) d_X10_step_1 (by decide) ?_
  refine e_icmp_lt d_X10_step_3 (fun c_3 => ?_) (fun c_3 => ?_)
  · refine e_iconst (v := -1) d_X10_step_18 (by decide) ?_
    exact e_iret d_X10_step_19 rfl (rfl) (Or.inr ⟨by grind [bI_0], rfl, rfl⟩)
  · refine e_iloadn d_X10_step_6 rfl ?_
    refine e_sipush (v := 200) d_X10_step_7 (by decide) ?_
    refine e_icmp_gt d_X10_step_10 (fun c_10 => ?_) (fun c_10 => ?_)
    · refine e_iconst (v := -1) d_X10_step_18 (by decide) ?_
      exact e_iret d_X10_step_19 rfl (rfl) (Or.inr ⟨by grind [bI_0], rfl, rfl⟩)
    · refine e_iloadn d_X10_step_13 rfl ?_
      refine e_iloadn d_X10_step_14 rfl ?_
      refine e_icmp_le d_X10_step_15 (fun c_15 => ?_) (fun c_15 => ?_)
      · refine e_aloadn d_X10_step_20 rfl ?_
        refine e_get d_X10_step_21 f_X10_33 H_mc rfl ?_
        refine e_iloadn d_X10_step_24 rfl ?_
        refine e_iloadn d_X10_step_25 rfl ?_
        by_cases hp : ns < 8
        · refine e_callVI d_X10_step_26 l_X10_step_261 H_ld rfl rfl (pO_t (s_X4_add H_ld H_lo H_hi h0) (hp)) rfl rfl (Nat.le_of_ble_eq_true rfl) ?_
          exact e_iret d_X10_step_29 rfl (rfl) (Or.inl ⟨by grind [bI_0], rfl, rfl⟩)
        · refine e_callVI d_X10_step_26 l_X10_step_261 H_ld rfl rfl (pO_f (s_X4_add H_ld H_lo H_hi h0) (hp)) rfl rfl (Nat.le_of_ble_eq_true rfl) ?_
          exact e_iret d_X10_step_29 rfl (rfl) (Or.inr ⟨by grind [bI_0], rfl, rfl⟩)
      · refine e_iconst (v := -1) d_X10_step_18 (by decide) ?_
        exact e_iret d_X10_step_19 rfl (rfl) (Or.inr ⟨by grind [bI_0], rfl, rfl⟩)

theorem s_X5_add {h : AH} {lnow lnext : Nat} {lfew lways : Int32} {froms tos : Nat → Int32} {x y : Int32} {m : Nat} (H_lk : Hs h 12 (oLk lnow lnext (nI m) lfew lways)) (H_lf_ : Hs h 13 (aI 20 froms)) (H_lt : Hs h 14 (aI 20 tos)) (hm : m ≤ 20) : Sp M_X5_add (0, 0) h [.ref 12, .int x, .int y] (pO (nI m < 20 ∧ ∀ j, j < m → ¬ (froms j = x ∧ tos j = y)) (nI m + 1) (-1) (up (up (up h 13 (aI 20 (va_up froms (nI m).toNatClampNeg x))) 14 (aI 20 (va_up tos (nI m).toNatClampNeg y))) 12 (oLk lnow lnext (nI m + 1) lfew lways)) h) := by
  refine ⟨Nat.le_of_ble_eq_true rfl, ?_⟩
  show E _ _ _ 0 h [some (.ref 12), some (.int x), some (.int y), none] []
  have hA : nI m < 20 → ∀ i, i ≤ m → ∀ (z : Int32), z = nI i → (∀ j, j < i → ¬ (froms j = x ∧ tos j = y)) → E M_X5_add (0, 0) (pO (nI m < 20 ∧ ∀ j, j < m → ¬ (froms j = x ∧ tos j = y)) (nI m + 1) (-1) (up (up (up h 13 (aI 20 (va_up froms (nI m).toNatClampNeg x))) 14 (aI 20 (va_up tos (nI m).toNatClampNeg y))) 12 (oLk lnow lnext (nI m + 1) lfew lways)) h) 13 h [some (.ref 12), some (.int x), some (.int y), some (.int z)] [] := by
    intro hlt
    refine loop_ind (n := m) ?_
    intro i hi ih z hx hs
    refine e_iloadn d_X5_add_13 rfl ?_
    refine e_aloadn d_X5_add_14 rfl ?_
    refine e_get d_X5_add_15 f_X5_24 H_lk rfl ?_
    subst hx
    refine e_icmp_ge d_X5_add_18 (fun c => ?_) (fun c => ?_)
    · have c := i_le (by omega) (by omega) c
      obtain rfl : i = m := by omega
      refine e_aloadn d_X5_add_49 rfl ?_
      refine e_get d_X5_add_50 f_X5_9 H_lk rfl ?_
      refine e_aloadn d_X5_add_53 rfl ?_
      refine e_get d_X5_add_54 f_X5_24 H_lk rfl ?_
      refine e_iloadn d_X5_add_57 rfl ?_
      refine e_iast d_X5_add_58 H_lf_ (vp_in_nI (i_lt (b := 20) (by omega) (by decide) hlt) (by decide)) ?_
      refine e_aloadn d_X5_add_59 rfl ?_
      refine e_get d_X5_add_60 f_X5_15 (H_lk.n (by decide)) rfl ?_
      refine e_aloadn d_X5_add_63 rfl ?_
      refine e_get d_X5_add_64 f_X5_24 (H_lk.n (by decide)) rfl ?_
      refine e_iloadn d_X5_add_67 rfl ?_
      refine e_iast d_X5_add_68 (H_lt.n (by decide)) (vp_in_nI (i_lt (b := 20) (by omega) (by decide) hlt) (by decide)) ?_
      refine e_aloadn d_X5_add_69 rfl ?_
      refine e_dup d_X5_add_70 rfl ?_
      refine e_get d_X5_add_71 f_X5_24 ((H_lk.n (by decide)).n (by decide)) rfl ?_
      refine e_iconst (v := 1) d_X5_add_74 (by decide) ?_
      refine e_iadd d_X5_add_75 ?_
      refine e_puti d_X5_add_76 f_X5_24 ((H_lk.n (by decide)).n (by decide)) (Nat.le_of_ble_eq_true rfl) ?_
      refine e_aloadn d_X5_add_79 rfl ?_
      refine e_get d_X5_add_80 f_X5_24 (((H_lk.n (by decide)).n (by decide)).s) rfl ?_
      exact e_iret d_X5_add_83 rfl (rfl) (Or.inl ⟨⟨by grind, hs⟩, rfl, rfl⟩)
    · have c := i_nle (by omega) (by omega) c
      refine e_aloadn d_X5_add_21 rfl ?_
      refine e_get d_X5_add_22 f_X5_9 H_lk rfl ?_
      refine e_iloadn d_X5_add_25 rfl ?_
      refine e_ialdN (k := i) d_X5_add_26 H_lf_ rfl (by omega) (by omega) ?_
      refine e_iloadn d_X5_add_27 rfl ?_
      refine e_icmp_ne d_X5_add_28 (fun c_28 => ?_) (fun c_28 => ?_)
      · refine e_iincw (w := 1) d_X5_add_43 rfl (by decide) (by decide) rfl ?_
        refine e_gt d_X5_add_46 ?_
        refine ih (i + 1) (by omega) (by omega) _ ?_ (fun j hj => ?_)
        · exact nI_1 i
        · by_cases e : j = i
          · subst e; grind
          · exact hs j (by omega)
      · refine e_aloadn d_X5_add_31 rfl ?_
        refine e_get d_X5_add_32 f_X5_15 H_lk rfl ?_
        refine e_iloadn d_X5_add_35 rfl ?_
        refine e_ialdN (k := i) d_X5_add_36 H_lt rfl (by omega) (by omega) ?_
        refine e_iloadn d_X5_add_37 rfl ?_
        refine e_icmp_ne d_X5_add_38 (fun c_38 => ?_) (fun c_38 => ?_)
        · refine e_iincw (w := 1) d_X5_add_43 rfl (by decide) (by decide) rfl ?_
          refine e_gt d_X5_add_46 ?_
          refine ih (i + 1) (by omega) (by omega) _ ?_ (fun j hj => ?_)
          · exact nI_1 i
          · by_cases e : j = i
            · subst e; grind
            · exact hs j (by omega)
        · refine e_iconst (v := -1) d_X5_add_41 (by decide) ?_
          exact e_iret d_X5_add_42 rfl (rfl) (Or.inr ⟨fun z => z.2 i c (by grind), rfl, rfl⟩)
  refine e_aloadn d_X5_add_0 rfl ?_
  refine e_get d_X5_add_1 f_X5_24 H_lk rfl ?_
  refine e_bipush (v := 20) d_X5_add_4 (by decide) ?_
  refine e_icmp_lt d_X5_add_6 (fun c_6 => ?_) (fun c_6 => ?_)
  · refine e_iconst (v := 0) d_X5_add_11 (by decide) ?_
    refine e_istoren d_X5_add_12 (by decide) rfl ?_
    exact hA c_6 0 (Nat.zero_le _) 0 rfl (fun j hj => absurd hj (Nat.not_lt_zero _))
  · refine e_iconst (v := -1) d_X5_add_9 (by decide) ?_
    exact e_iret d_X5_add_10 rfl (rfl) (Or.inr ⟨by grind, rfl, rfl⟩)

theorem s_X10_link {h : AH} {tc tl lf lp cost nt lfew lways : Int32} {ages froms tos : Nat → Int32} {lnow lnext : Nat} {x y : Int32} {m : Nat} (H_mc : Hs h 0 (oMC tc tl lf lp cost)) (H_th : Hs h 6 (oTh nt)) (H_tg : Hs h 8 (aI 12 ages)) (H_lk : Hs h 12 (oLk lnow lnext (nI m) lfew lways)) (H_lf_ : Hs h 13 (aI 20 froms)) (H_lt : Hs h 14 (aI 20 tos)) (hm : m ≤ 20) (hn : nt ≤ 12) : Sp M_X10_link (0, 0) h [.ref 0, .int x, .int y] (pO (0 ≤ x ∧ x < nt ∧ 0 ≤ y ∧ y < nt ∧ ages x.toNatClampNeg < ages y.toNatClampNeg ∧ (nI m < 20 ∧ ∀ j, j < m → ¬ (froms j = x ∧ tos j = y))) (nI m + 1) (-1) (up (up (up h 13 (aI 20 (va_up froms (nI m).toNatClampNeg x))) 14 (aI 20 (va_up tos (nI m).toNatClampNeg y))) 12 (oLk lnow lnext (nI m + 1) lfew lways)) h) := by
  refine ⟨Nat.le_of_ble_eq_true rfl, ?_⟩
  show E _ _ _ 0 h [some (.ref 0), some (.int x), some (.int y)] []
  refine e_aloadn d_X10_link_0 rfl ?_
  refine e_get d_X10_link_1 f_X10_19 H_mc rfl ?_
  refine e_iloadn d_X10_link_4 rfl ?_
  refine e_callVI d_X10_link_5 l_X10_link_124 H_th rfl rfl (s_X9_has H_th ) rfl rfl (Nat.le_of_ble_eq_true rfl) ?_
  refine e_if_eq d_X10_link_8 (fun c_8 => ?_) (fun c_8 => ?_)
  · refine e_iconst (v := -1) d_X10_link_43 (by decide) ?_
    exact e_iret d_X10_link_44 rfl (rfl) (Or.inr ⟨by grind [bI_0], rfl, rfl⟩)
  · refine e_aloadn d_X10_link_11 rfl ?_
    refine e_get d_X10_link_12 f_X10_19 H_mc rfl ?_
    refine e_iloadn d_X10_link_15 rfl ?_
    refine e_callVI d_X10_link_16 l_X10_link_124 H_th rfl rfl (s_X9_has H_th ) rfl rfl (Nat.le_of_ble_eq_true rfl) ?_
    refine e_if_eq d_X10_link_19 (fun c_19 => ?_) (fun c_19 => ?_)
    · refine e_iconst (v := -1) d_X10_link_43 (by decide) ?_
      exact e_iret d_X10_link_44 rfl (rfl) (Or.inr ⟨by grind [bI_0], rfl, rfl⟩)
    · refine e_aloadn d_X10_link_22 rfl ?_
      refine e_get d_X10_link_23 f_X10_19 H_mc rfl ?_
      refine e_get d_X10_link_26 f_X10_231 H_th rfl ?_
      refine e_iloadn d_X10_link_29 rfl ?_
      refine e_iald d_X10_link_30 H_tg (vp_of (v := 12) (by grind [bI_0]) (by grind [bI_0]) rfl) ?_
      refine e_aloadn d_X10_link_31 rfl ?_
      refine e_get d_X10_link_32 f_X10_19 H_mc rfl ?_
      refine e_get d_X10_link_35 f_X10_231 H_th rfl ?_
      refine e_iloadn d_X10_link_38 rfl ?_
      refine e_iald d_X10_link_39 H_tg (vp_of (v := 12) (by grind [bI_0]) (by grind [bI_0]) rfl) ?_
      refine e_icmp_gt d_X10_link_40 (fun c_40 => ?_) (fun c_40 => ?_)
      · refine e_aloadn d_X10_link_45 rfl ?_
        refine e_get d_X10_link_46 f_X10_26 H_mc rfl ?_
        refine e_iloadn d_X10_link_49 rfl ?_
        refine e_iloadn d_X10_link_50 rfl ?_
        by_cases hp : nI m < 20 ∧ ∀ j, j < m → ¬ (froms j = x ∧ tos j = y)
        · refine e_callVI d_X10_link_51 l_X10_link_237 H_lk rfl rfl (pO_t (s_X5_add H_lk H_lf_ H_lt hm) (hp)) rfl rfl (Nat.le_of_ble_eq_true rfl) ?_
          exact e_iret d_X10_link_54 rfl (rfl) (Or.inl ⟨by grind [bI_0], rfl, rfl⟩)
        · refine e_callVI d_X10_link_51 l_X10_link_237 H_lk rfl rfl (pO_f (s_X5_add H_lk H_lf_ H_lt hm) (hp)) rfl rfl (Nat.le_of_ble_eq_true rfl) ?_
          exact e_iret d_X10_link_54 rfl (rfl) (Or.inr ⟨fun z => hp z.2.2.2.2.2, rfl, rfl⟩)
      · refine e_iconst (v := -1) d_X10_link_43 (by decide) ?_
        exact e_iret d_X10_link_44 rfl (rfl) (Or.inr ⟨by grind [bI_0], rfl, rfl⟩)

theorem s_X10_about {h : AH} {tc tl lf lp cost cnt co ha nt nl lfew lways ns : Int32} {lnow lnext : Nat} {w : Int32} (H_mc : Hs h 0 (oMC tc tl lf lp cost)) (H_ch : Hs h 1 (oCh cnt co ha)) (H_th : Hs h 6 (oTh nt)) (H_lk : Hs h 12 (oLk lnow lnext nl lfew lways)) (H_ld : Hs h 17 (oLd ns)) : Sp M_X10_about (0, 0) h [.ref 0, .int w] (pI (if w = 0 then cnt else if w = 1 then nt else if w = 2 then tc else if w = 3 then nl else if w = 4 then ns else if w = 5 then cost else if w = 6 then tl else if w = 7 then ha else if w = 8 then co else -1) h) := by
  refine ⟨Nat.le_of_ble_eq_true rfl, ?_⟩
  show E _ _ _ 0 h [some (.ref 0), some (.int w)] []
  refine e_iloadn d_X10_about_0 rfl ?_
  by_cases hw : 0 ≤ w ∧ w ≤ 8
  · obtain ⟨k, hk, rfl⟩ := vp_in_of (vp_of (x := w) (v := 9) (n := 9) hw.1 (by grind) rfl) (by decide)
    match k, hk with
    | 0, _ =>
      refine e_tab d_X10_about_1 51 52 (by decide) (by decide) (by decide) (by decide) ?_
      refine e_aloadn d_X10_about_52 rfl ?_
      refine e_get d_X10_about_53 f_X10_10 H_mc rfl ?_
      refine e_get d_X10_about_56 f_X10_103 H_ch rfl ?_
      exact e_iret d_X10_about_59 rfl (rfl) (⟨rfl, rfl⟩)
    | 1, _ =>
      refine e_tab d_X10_about_1 59 60 (by decide) (by decide) (by decide) (by decide) ?_
      refine e_aloadn d_X10_about_60 rfl ?_
      refine e_get d_X10_about_61 f_X10_19 H_mc rfl ?_
      refine e_get d_X10_about_64 f_X10_120 H_th rfl ?_
      exact e_iret d_X10_about_67 rfl (rfl) (⟨rfl, rfl⟩)
    | 2, _ =>
      refine e_tab d_X10_about_1 67 68 (by decide) (by decide) (by decide) (by decide) ?_
      refine e_aloadn d_X10_about_68 rfl ?_
      refine e_get d_X10_about_69 f_X10_159 H_mc rfl ?_
      exact e_iret d_X10_about_72 rfl (rfl) (⟨rfl, rfl⟩)
    | 3, _ =>
      refine e_tab d_X10_about_1 72 73 (by decide) (by decide) (by decide) (by decide) ?_
      refine e_aloadn d_X10_about_73 rfl ?_
      refine e_get d_X10_about_74 f_X10_26 H_mc rfl ?_
      refine e_get d_X10_about_77 f_X10_292 H_lk rfl ?_
      exact e_iret d_X10_about_80 rfl (rfl) (⟨rfl, rfl⟩)
    | 4, _ =>
      refine e_tab d_X10_about_1 80 81 (by decide) (by decide) (by decide) (by decide) ?_
      refine e_aloadn d_X10_about_81 rfl ?_
      refine e_get d_X10_about_82 f_X10_33 H_mc rfl ?_
      refine e_get d_X10_about_85 f_X10_295 H_ld rfl ?_
      exact e_iret d_X10_about_88 rfl (rfl) (⟨rfl, rfl⟩)
    | 5, _ =>
      refine e_tab d_X10_about_1 88 89 (by decide) (by decide) (by decide) (by decide) ?_
      refine e_aloadn d_X10_about_89 rfl ?_
      refine e_get d_X10_about_90 f_X10_61 H_mc rfl ?_
      exact e_iret d_X10_about_93 rfl (rfl) (⟨rfl, rfl⟩)
    | 6, _ =>
      refine e_tab d_X10_about_1 93 94 (by decide) (by decide) (by decide) (by decide) ?_
      refine e_aloadn d_X10_about_94 rfl ?_
      refine e_get d_X10_about_95 f_X10_152 H_mc rfl ?_
      exact e_iret d_X10_about_98 rfl (rfl) (⟨rfl, rfl⟩)
    | 7, _ =>
      refine e_tab d_X10_about_1 98 99 (by decide) (by decide) (by decide) (by decide) ?_
      refine e_aloadn d_X10_about_99 rfl ?_
      refine e_get d_X10_about_100 f_X10_10 H_mc rfl ?_
      refine e_get d_X10_about_103 f_X10_117 H_ch rfl ?_
      exact e_iret d_X10_about_106 rfl (rfl) (⟨rfl, rfl⟩)
    | 8, _ =>
      refine e_tab d_X10_about_1 106 107 (by decide) (by decide) (by decide) (by decide) ?_
      refine e_aloadn d_X10_about_107 rfl ?_
      refine e_get d_X10_about_108 f_X10_10 H_mc rfl ?_
      refine e_get d_X10_about_111 f_X10_213 H_ch rfl ?_
      exact e_iret d_X10_about_114 rfl (rfl) (⟨rfl, rfl⟩)
    | n + 9, hk => omega
  · refine e_tabD d_X10_about_1 115 (by simp only [Int32.le_iff_toInt_le] at hw; simp at hw; omega) (by decide) ?_
    refine e_iconst (v := -1) d_X10_about_115 (by decide) ?_
    exact e_iret d_X10_about_116 rfl (rfl) (⟨by grind (splits := 20), rfl⟩)
