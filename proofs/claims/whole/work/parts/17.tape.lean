/-! THE TAPE, both sides; the model's reads -/
theorem s_X10_feed {h : AH} {tc lf lp cost : Int32} {tape : Nat → Int32} {p q r s u : Int32} {t : Nat} (H_mc : Hs h 0 (oMC tc (nI t) lf lp cost)) (H_tape : Hs h 21 (aI 300 tape)) (ht : t ≤ 300) : Sp M_X10_feed (0, 0) h [.ref 0, .int p, .int q, .int r, .int s, .int u] (pO (t + 20 ≤ 300) (nI (t + 20)) (-1) (up (up h 21 (aI 300 (tape4 (tape4 (tape4 (tape4 (tape4 tape t p) (t + 4) q) (t + 4 + 4) r) (t + 4 + 4 + 4) s) (t + 4 + 4 + 4 + 4) u))) 0 (oMC tc (nI (t + 20)) lf lp cost)) h) := by
  refine ⟨Nat.le_of_ble_eq_true rfl, ?_⟩
  show E _ _ _ 0 h [some (.ref 0), some (.int p), some (.int q), some (.int r), some (.int s), some (.int u)] []
  refine e_aloadn d_X10_feed_0 rfl ?_
  refine e_get d_X10_feed_1 f_X10_152 H_mc rfl ?_
  refine e_bipush (v := 20) d_X10_feed_4 (by decide) ?_
  refine e_iadd d_X10_feed_6 ?_
  refine e_sipush (v := 300) d_X10_feed_7 (by decide) ?_
  refine e_icmp_le d_X10_feed_10 (fun c_10 => ?_) (fun c_10 => ?_)
  · have c := (i_le (a := t + 20) (b := 300) (by omega) (by decide) (by rw [← nI_add]; exact c_10))
    refine e_aloadn d_X10_feed_15 rfl ?_
    refine e_iloadn d_X10_feed_16 rfl ?_
    refine e_callVV d_X10_feed_17 l_X10_feed_155 H_mc rfl rfl (s_X10_putFour H_mc H_tape (by omega)) rfl rfl (Nat.le_of_ble_eq_true rfl) ?_
    refine e_aloadn d_X10_feed_20 rfl ?_
    refine e_iloadn d_X10_feed_21 rfl ?_
    refine e_callVV d_X10_feed_22 l_X10_feed_155 ((H_mc.n (by decide)).s) rfl rfl (s_X10_putFour ((H_mc.n (by decide)).s) (H_tape.s.n (by decide)) (by omega)) rfl rfl (Nat.le_of_ble_eq_true rfl) ?_
    refine e_aloadn d_X10_feed_25 rfl ?_
    refine e_iloadn d_X10_feed_26 rfl ?_
    refine e_callVV d_X10_feed_27 l_X10_feed_155 ((((H_mc.n (by decide)).s).n (by decide)).s) rfl rfl (s_X10_putFour ((((H_mc.n (by decide)).s).n (by decide)).s) (((H_tape.s.n (by decide)).s).n (by decide)) (by omega)) rfl rfl (Nat.le_of_ble_eq_true rfl) ?_
    refine e_aloadn d_X10_feed_30 rfl ?_
    refine e_iload d_X10_feed_31 rfl ?_
    refine e_callVV d_X10_feed_33 l_X10_feed_155 ((((((H_mc.n (by decide)).s).n (by decide)).s).n (by decide)).s) rfl rfl (s_X10_putFour ((((((H_mc.n (by decide)).s).n (by decide)).s).n (by decide)).s) (((((H_tape.s.n (by decide)).s).n (by decide)).s).n (by decide)) (by omega)) rfl rfl (Nat.le_of_ble_eq_true rfl) ?_
    refine e_aloadn d_X10_feed_36 rfl ?_
    refine e_iload d_X10_feed_37 rfl ?_
    refine e_callVV d_X10_feed_39 l_X10_feed_155 ((((((((H_mc.n (by decide)).s).n (by decide)).s).n (by decide)).s).n (by decide)).s) rfl rfl (s_X10_putFour ((((((((H_mc.n (by decide)).s).n (by decide)).s).n (by decide)).s).n (by decide)).s) (((((((H_tape.s.n (by decide)).s).n (by decide)).s).n (by decide)).s).n (by decide)) (by omega)) rfl rfl (Nat.le_of_ble_eq_true rfl) ?_
    refine e_aloadn d_X10_feed_42 rfl ?_
    refine e_get d_X10_feed_43 f_X10_152 ((((((((((H_mc.n (by decide)).s).n (by decide)).s).n (by decide)).s).n (by decide)).s).n (by decide)).s) rfl ?_
    exact e_iret d_X10_feed_46 rfl (rfl) (Or.inl ⟨c, rfl, by simp only [up_4 (show 21 ≠ 0 by decide)]⟩)
  · have c : ¬ t + 20 ≤ 300 := fun z => c_10 (by rw [show (20 : Int32) = nI 20 from rfl, nI_add]; exact nI_le z (by decide))
    refine e_iconst (v := -1) d_X10_feed_13 (by decide) ?_
    exact e_iret d_X10_feed_14 rfl (rfl) (Or.inr ⟨c, rfl, rfl⟩)

theorem b_idem (x : Int32) : x.toInt8.toInt32.toInt8.toInt32 = x.toInt8.toInt32 := by simp

theorem s_X11_put_raw {h : AH} {mfl mfa mln mat mtk mso mto mwr mwp mop mfs mws mst mnc mnk mnr mdn : Int32} {mup mlo mgu mgl : Int64} {mt : Nat → Int32} {w : Int32} {t : Nat} (H_md : Hs h 66 (oMd (nI t) mfl mfa mup mlo mln mat mtk mso mto mwr mwp mop mfs mws mst mnc mnk mnr mdn mgu mgl)) (H_mtape : Hs h 69 (aB 300 mt)) (ht : t + 4 ≤ 300) : Sp M_X11_put (0, 0) h [.ref 66, .int w] (pV (up (up (up (up (up (up (up (up (h) 69 (aB 300 (va_up mt t (byteM w 24)))) 66 (oMd (nI (t + 1)) mfl mfa mup mlo mln mat mtk mso mto mwr mwp mop mfs mws mst mnc mnk mnr mdn mgu mgl)) 69 (aB 300 (va_up (va_up mt t (byteM w 24)) (t + 1) (byteM w 16)))) 66 (oMd (nI (t + 2)) mfl mfa mup mlo mln mat mtk mso mto mwr mwp mop mfs mws mst mnc mnk mnr mdn mgu mgl)) 69 (aB 300 (va_up (va_up (va_up mt t (byteM w 24)) (t + 1) (byteM w 16)) (t + 2) (byteM w 8)))) 66 (oMd (nI (t + 3)) mfl mfa mup mlo mln mat mtk mso mto mwr mwp mop mfs mws mst mnc mnk mnr mdn mgu mgl)) 69 (aB 300 (mtape4 mt t w))) 66 (oMd (nI (t + 4)) mfl mfa mup mlo mln mat mtk mso mto mwr mwp mop mfs mws mst mnc mnk mnr mdn mgu mgl))) := by
  refine ⟨Nat.le_of_ble_eq_true rfl, ?_⟩
  show E _ _ _ 0 h [some (.ref 66), some (.int w), none] []
  refine e_bipush (v := 24) d_X11_put_0 (by decide) ?_
  refine e_istoren d_X11_put_2 (by decide) rfl ?_
  refine e_iloadn d_X11_put_3 rfl ?_
  refine e_if_lt d_X11_put_4 (fun z => by first | exact absurd (by decide) z | exact absurd z (by decide)) (fun _ => ?_)
  refine e_aloadn d_X11_put_7 rfl ?_
  refine e_get d_X11_put_8 f_X11_16 H_md rfl ?_
  refine e_aloadn d_X11_put_11 rfl ?_
  refine e_get d_X11_put_12 f_X11_142 H_md rfl ?_
  refine e_iloadn d_X11_put_15 rfl ?_
  refine e_iloadn d_X11_put_16 rfl ?_
  refine e_ishr d_X11_put_17 ?_
  refine e_i2b d_X11_put_18 ?_
  refine e_bastN (k := t + 0) d_X11_put_19 H_mtape (by first | rfl | simp only [nI_1]) (by omega) (by decide) ?_
  refine e_aloadn d_X11_put_20 rfl ?_
  refine e_dup d_X11_put_21 rfl ?_
  refine e_get d_X11_put_22 f_X11_142 (H_md.n (by decide)) rfl ?_
  refine e_iconst (v := 1) d_X11_put_25 (by decide) ?_
  refine e_iadd d_X11_put_26 ?_
  refine e_puti d_X11_put_27 f_X11_142 (H_md.n (by decide)) (Nat.le_of_ble_eq_true rfl) ?_
  refine e_iloadn d_X11_put_30 rfl ?_
  refine e_bipush (v := 8) d_X11_put_31 (by decide) ?_
  refine e_isub d_X11_put_33 ?_
  refine e_istoren d_X11_put_34 (by decide) rfl ?_
  refine e_gt d_X11_put_35 ?_
  refine e_iloadn d_X11_put_3 rfl ?_
  refine e_if_lt d_X11_put_4 (fun z => by first | exact absurd (by decide) z | exact absurd z (by decide)) (fun _ => ?_)
  refine e_aloadn d_X11_put_7 rfl ?_
  refine e_get d_X11_put_8 f_X11_16 ((H_md.n (by decide)).s) rfl ?_
  refine e_aloadn d_X11_put_11 rfl ?_
  refine e_get d_X11_put_12 f_X11_142 ((H_md.n (by decide)).s) rfl ?_
  refine e_iloadn d_X11_put_15 rfl ?_
  refine e_iloadn d_X11_put_16 rfl ?_
  refine e_ishr d_X11_put_17 ?_
  refine e_i2b d_X11_put_18 ?_
  refine e_bastN (k := t + 1) d_X11_put_19 (H_mtape.s.n (by decide)) (by first | rfl | simp only [nI_1]) (by omega) (by decide) ?_
  refine e_aloadn d_X11_put_20 rfl ?_
  refine e_dup d_X11_put_21 rfl ?_
  refine e_get d_X11_put_22 f_X11_142 (((H_md.n (by decide)).s).n (by decide)) rfl ?_
  refine e_iconst (v := 1) d_X11_put_25 (by decide) ?_
  refine e_iadd d_X11_put_26 ?_
  refine e_puti d_X11_put_27 f_X11_142 (((H_md.n (by decide)).s).n (by decide)) (Nat.le_of_ble_eq_true rfl) ?_
  refine e_iloadn d_X11_put_30 rfl ?_
  refine e_bipush (v := 8) d_X11_put_31 (by decide) ?_
  refine e_isub d_X11_put_33 ?_
  refine e_istoren d_X11_put_34 (by decide) rfl ?_
  refine e_gt d_X11_put_35 ?_
  refine e_iloadn d_X11_put_3 rfl ?_
  refine e_if_lt d_X11_put_4 (fun z => by first | exact absurd (by decide) z | exact absurd z (by decide)) (fun _ => ?_)
  refine e_aloadn d_X11_put_7 rfl ?_
  refine e_get d_X11_put_8 f_X11_16 ((((H_md.n (by decide)).s).n (by decide)).s) rfl ?_
  refine e_aloadn d_X11_put_11 rfl ?_
  refine e_get d_X11_put_12 f_X11_142 ((((H_md.n (by decide)).s).n (by decide)).s) rfl ?_
  refine e_iloadn d_X11_put_15 rfl ?_
  refine e_iloadn d_X11_put_16 rfl ?_
  refine e_ishr d_X11_put_17 ?_
  refine e_i2b d_X11_put_18 ?_
  refine e_bastN (k := t + 2) d_X11_put_19 (((H_mtape.s.n (by decide)).s).n (by decide)) (by first | rfl | simp only [nI_1]) (by omega) (by decide) ?_
  refine e_aloadn d_X11_put_20 rfl ?_
  refine e_dup d_X11_put_21 rfl ?_
  refine e_get d_X11_put_22 f_X11_142 (((((H_md.n (by decide)).s).n (by decide)).s).n (by decide)) rfl ?_
  refine e_iconst (v := 1) d_X11_put_25 (by decide) ?_
  refine e_iadd d_X11_put_26 ?_
  refine e_puti d_X11_put_27 f_X11_142 (((((H_md.n (by decide)).s).n (by decide)).s).n (by decide)) (Nat.le_of_ble_eq_true rfl) ?_
  refine e_iloadn d_X11_put_30 rfl ?_
  refine e_bipush (v := 8) d_X11_put_31 (by decide) ?_
  refine e_isub d_X11_put_33 ?_
  refine e_istoren d_X11_put_34 (by decide) rfl ?_
  refine e_gt d_X11_put_35 ?_
  refine e_iloadn d_X11_put_3 rfl ?_
  refine e_if_lt d_X11_put_4 (fun z => by first | exact absurd (by decide) z | exact absurd z (by decide)) (fun _ => ?_)
  refine e_aloadn d_X11_put_7 rfl ?_
  refine e_get d_X11_put_8 f_X11_16 ((((((H_md.n (by decide)).s).n (by decide)).s).n (by decide)).s) rfl ?_
  refine e_aloadn d_X11_put_11 rfl ?_
  refine e_get d_X11_put_12 f_X11_142 ((((((H_md.n (by decide)).s).n (by decide)).s).n (by decide)).s) rfl ?_
  refine e_iloadn d_X11_put_15 rfl ?_
  refine e_iloadn d_X11_put_16 rfl ?_
  refine e_ishr d_X11_put_17 ?_
  refine e_i2b d_X11_put_18 ?_
  refine e_bastN (k := t + 3) d_X11_put_19 (((((H_mtape.s.n (by decide)).s).n (by decide)).s).n (by decide)) (by first | rfl | simp only [nI_1]) (by omega) (by decide) ?_
  refine e_aloadn d_X11_put_20 rfl ?_
  refine e_dup d_X11_put_21 rfl ?_
  refine e_get d_X11_put_22 f_X11_142 (((((((H_md.n (by decide)).s).n (by decide)).s).n (by decide)).s).n (by decide)) rfl ?_
  refine e_iconst (v := 1) d_X11_put_25 (by decide) ?_
  refine e_iadd d_X11_put_26 ?_
  refine e_puti d_X11_put_27 f_X11_142 (((((((H_md.n (by decide)).s).n (by decide)).s).n (by decide)).s).n (by decide)) (Nat.le_of_ble_eq_true rfl) ?_
  refine e_iloadn d_X11_put_30 rfl ?_
  refine e_bipush (v := 8) d_X11_put_31 (by decide) ?_
  refine e_isub d_X11_put_33 ?_
  refine e_istoren d_X11_put_34 (by decide) rfl ?_
  refine e_gt d_X11_put_35 ?_
  refine e_iloadn d_X11_put_3 rfl ?_
  refine e_if_lt d_X11_put_4 (fun _ => ?_) (fun z => by first | exact absurd (by decide) z | exact absurd z (by decide))
  exact e_vret d_X11_put_38 rfl (⟨rfl, by simp only [nI_1, mtape4, byteM, b_idem, show (24 : Int32) - 8 = 16 from rfl, show (16 : Int32) - 8 = 8 from rfl, show (8 : Int32) - 8 = 0 from rfl]; rfl⟩)

theorem s_X11_put {h : AH} {mfl mfa mln mat mtk mso mto mwr mwp mop mfs mws mst mnc mnk mnr mdn : Int32} {mup mlo mgu mgl : Int64} {mt : Nat → Int32} {w : Int32} {t : Nat} (H_md : Hs h 66 (oMd (nI t) mfl mfa mup mlo mln mat mtk mso mto mwr mwp mop mfs mws mst mnc mnk mnr mdn mgu mgl)) (H_mtape : Hs h 69 (aB 300 mt)) (ht : t + 4 ≤ 300) : Sp M_X11_put (0, 0) h [.ref 66, .int w] (pV (up (up h 69 (aB 300 (mtape4 mt t w))) 66 (oMd (nI (t + 4)) mfl mfa mup mlo mln mat mtk mso mto mwr mwp mop mfs mws mst mnc mnk mnr mdn mgu mgl))) := by
  have := s_X11_put_raw (w := w) H_md H_mtape ht
  simp only [up_4 (show 69 ≠ 66 by decide)] at this
  exact this
