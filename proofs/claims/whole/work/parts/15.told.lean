/-! CHILDREN, THINGS, ANSWERS: both sides -/
theorem s_X0_add {h : AH} {cnt co ha : Int32} {sexes wits homes works : Nat → Int32} {s w hh k c : Int32} (H_ch : Hs h 1 (oCh cnt co ha)) (H_sx : Hs h 2 (aI 14 sexes)) (H_wt : Hs h 3 (aI 14 wits)) (H_hm : Hs h 4 (aI 14 homes)) (H_wk : Hs h 5 (aI 14 works)) (h0 : 0 ≤ cnt) : Sp M_X0_add (0, 0) h [.ref 1, .int s, .int w, .int hh, .int k, .int c] (pO (cnt < 14) cnt (-1) (up (up (up (up (up h 2 (aI 14 (va_up sexes cnt.toNatClampNeg s))) 3 (aI 14 (va_up wits cnt.toNatClampNeg w))) 4 (aI 14 (va_up homes cnt.toNatClampNeg hh))) 5 (aI 14 (va_up works cnt.toNatClampNeg k))) 1 (oCh (cnt + 1) (co ||| (if c = 0 then (0 : Int32) else (1 : Int32) <<< (cnt &&& 31))) (ha ||| (if c = 0 then (0 : Int32) else (1 : Int32) <<< (cnt &&& 31))))) h) := by
  refine ⟨Nat.le_of_ble_eq_true rfl, ?_⟩
  show E _ _ _ 0 h [some (.ref 1), some (.int s), some (.int w), some (.int hh), some (.int k), some (.int c)] []
  refine e_aloadn d_X0_add_0 rfl ?_
  refine e_get d_X0_add_1 f_X0_24 H_ch rfl ?_
  refine e_bipush (v := 14) d_X0_add_4 (by decide) ?_
  refine e_icmp_lt d_X0_add_6 (fun c_6 => ?_) (fun c_6 => ?_)
  · refine e_aloadn d_X0_add_11 rfl ?_
    refine e_get d_X0_add_12 f_X0_9 H_ch rfl ?_
    refine e_aloadn d_X0_add_15 rfl ?_
    refine e_get d_X0_add_16 f_X0_24 H_ch rfl ?_
    refine e_iloadn d_X0_add_19 rfl ?_
    refine e_iast d_X0_add_20 H_sx (by first | assumption | exact vp_of (v := 14) (by grind) (by grind) (by decide)) ?_
    refine e_aloadn d_X0_add_21 rfl ?_
    refine e_get d_X0_add_22 f_X0_15 (H_ch.n (by decide)) rfl ?_
    refine e_aloadn d_X0_add_25 rfl ?_
    refine e_get d_X0_add_26 f_X0_24 (H_ch.n (by decide)) rfl ?_
    refine e_iloadn d_X0_add_29 rfl ?_
    refine e_iast d_X0_add_30 (H_wt.n (by decide)) (by first | assumption | exact vp_of (v := 14) (by grind) (by grind) (by decide)) ?_
    refine e_aloadn d_X0_add_31 rfl ?_
    refine e_get d_X0_add_32 f_X0_18 ((H_ch.n (by decide)).n (by decide)) rfl ?_
    refine e_aloadn d_X0_add_35 rfl ?_
    refine e_get d_X0_add_36 f_X0_24 ((H_ch.n (by decide)).n (by decide)) rfl ?_
    refine e_iloadn d_X0_add_39 rfl ?_
    refine e_iast d_X0_add_40 ((H_hm.n (by decide)).n (by decide)) (by first | assumption | exact vp_of (v := 14) (by grind) (by grind) (by decide)) ?_
    refine e_aloadn d_X0_add_41 rfl ?_
    refine e_get d_X0_add_42 f_X0_21 (((H_ch.n (by decide)).n (by decide)).n (by decide)) rfl ?_
    refine e_aloadn d_X0_add_45 rfl ?_
    refine e_get d_X0_add_46 f_X0_24 (((H_ch.n (by decide)).n (by decide)).n (by decide)) rfl ?_
    refine e_iload d_X0_add_49 rfl ?_
    refine e_iast d_X0_add_51 (((H_wk.n (by decide)).n (by decide)).n (by decide)) (by first | assumption | exact vp_of (v := 14) (by grind) (by grind) (by decide)) ?_
    refine e_aloadn d_X0_add_52 rfl ?_
    refine e_dup d_X0_add_53 rfl ?_
    refine e_get d_X0_add_54 f_X0_28 ((((H_ch.n (by decide)).n (by decide)).n (by decide)).n (by decide)) rfl ?_
    refine e_iload d_X0_add_57 rfl ?_
    refine e_dia 72 (0) (1 <<< (cnt &&& 31)) (fun kt kf => e_if_eq d_X0_add_59 kt kf) (fun c_59 K_59 => ?_) (fun c_59 K_59 => ?_) (fun z_59 hz_59 => ?_)
    · refine e_iconst (v := 0) d_X0_add_71 (by decide) ?_
      exact K_59
    · refine e_iconst (v := 1) d_X0_add_62 (by decide) ?_
      refine e_aloadn d_X0_add_63 rfl ?_
      refine e_get d_X0_add_64 f_X0_24 ((((H_ch.n (by decide)).n (by decide)).n (by decide)).n (by decide)) rfl ?_
      refine e_ishl d_X0_add_67 ?_
      refine e_gt d_X0_add_68 ?_
      exact K_59
    · refine e_ior d_X0_add_72 ?_
      refine e_puti d_X0_add_73 f_X0_28 ((((H_ch.n (by decide)).n (by decide)).n (by decide)).n (by decide)) (Nat.le_of_ble_eq_true rfl) ?_
      refine e_aloadn d_X0_add_76 rfl ?_
      refine e_dup d_X0_add_77 rfl ?_
      refine e_get d_X0_add_78 f_X0_31 (((((H_ch.n (by decide)).n (by decide)).n (by decide)).n (by decide)).s) rfl ?_
      refine e_iload d_X0_add_81 rfl ?_
      refine e_dia 96 (0) (1 <<< (cnt &&& 31)) (fun kt kf => e_if_eq d_X0_add_83 kt kf) (fun c_83 K_83 => ?_) (fun c_83 K_83 => ?_) (fun z_83 hz_83 => ?_)
      · refine e_iconst (v := 0) d_X0_add_95 (by decide) ?_
        exact K_83
      · refine e_iconst (v := 1) d_X0_add_86 (by decide) ?_
        refine e_aloadn d_X0_add_87 rfl ?_
        refine e_get d_X0_add_88 f_X0_24 (((((H_ch.n (by decide)).n (by decide)).n (by decide)).n (by decide)).s) rfl ?_
        refine e_ishl d_X0_add_91 ?_
        refine e_gt d_X0_add_92 ?_
        exact K_83
      · refine e_ior d_X0_add_96 ?_
        refine e_puti d_X0_add_97 f_X0_31 (((((H_ch.n (by decide)).n (by decide)).n (by decide)).n (by decide)).s) (Nat.le_of_ble_eq_true rfl) ?_
        refine e_aloadn d_X0_add_100 rfl ?_
        refine e_dup d_X0_add_101 rfl ?_
        refine e_get d_X0_add_102 f_X0_24 ((((((H_ch.n (by decide)).n (by decide)).n (by decide)).n (by decide)).s).s) rfl ?_
        refine e_iconst (v := 1) d_X0_add_105 (by decide) ?_
        refine e_iadd d_X0_add_106 ?_
        refine e_puti d_X0_add_107 f_X0_24 ((((((H_ch.n (by decide)).n (by decide)).n (by decide)).n (by decide)).s).s) (Nat.le_of_ble_eq_true rfl) ?_
        refine e_aloadn d_X0_add_110 rfl ?_
        refine e_get d_X0_add_111 f_X0_24 (((((((H_ch.n (by decide)).n (by decide)).n (by decide)).n (by decide)).s).s).s) rfl ?_
        refine e_iconst (v := 1) d_X0_add_114 (by decide) ?_
        refine e_isub d_X0_add_115 ?_
        exact e_iret d_X0_add_116 rfl (rfl) (Or.inl ⟨by grind, by rw [show cnt + 1 - 1 = cnt by grind], by simp only [up_up]; grind⟩)
  · refine e_iconst (v := -1) d_X0_add_9 (by decide) ?_
    exact e_iret d_X0_add_10 rfl (rfl) (Or.inr ⟨by grind [bI_0], rfl, rfl⟩)
