/-! THE IMAGE, THE TAPE: the class; the model's simple methods -/
theorem s_X10_image {h : AH} {tc tl lf lp cost cnt co ha nt nl lfew lways ns ich ico iha ith ite ili ist icost : Int32} {lnow lnext : Nat} {ans ians : Nat → Int32} (H_mc : Hs h 0 (oMC tc tl lf lp cost)) (H_ch : Hs h 1 (oCh cnt co ha)) (H_th : Hs h 6 (oTh nt)) (H_lk : Hs h 12 (oLk lnow lnext nl lfew lways)) (H_ld : Hs h 17 (oLd ns)) (H_im : Hs h 40 (oIm ich ico iha ith ite ili ist icost)) (H_an : Hs h 11 (aI 168 ans)) (H_ia : Hs h 41 (aI 168 ians)) : Sp M_X10_image (0, 0) h [.ref 0] (pI cnt (up (up h 40 (oIm cnt co ha nt tc nl ns cost)) 41 (aI 168 (va_cpy ans ians 0 0 168)))) := by
  refine ⟨Nat.le_of_ble_eq_true rfl, ?_⟩
  show E _ _ _ 0 h [some (.ref 0)] []
  refine e_aloadn d_X10_image_0 rfl ?_
  refine e_get d_X10_image_1 f_X10_94 H_mc rfl ?_
  refine e_aloadn d_X10_image_4 rfl ?_
  refine e_get d_X10_image_5 f_X10_10 H_mc rfl ?_
  refine e_get d_X10_image_8 f_X10_103 H_ch rfl ?_
  refine e_puti d_X10_image_11 f_X10_284 H_im (Nat.le_of_ble_eq_true rfl) ?_
  refine e_aloadn d_X10_image_14 rfl ?_
  refine e_get d_X10_image_15 f_X10_94 (H_mc.n (by decide)) rfl ?_
  refine e_aloadn d_X10_image_18 rfl ?_
  refine e_get d_X10_image_19 f_X10_10 (H_mc.n (by decide)) rfl ?_
  refine e_get d_X10_image_22 f_X10_213 (H_ch.n (by decide)) rfl ?_
  refine e_puti d_X10_image_25 f_X10_286 H_im.s (Nat.le_of_ble_eq_true rfl) ?_
  refine e_aloadn d_X10_image_28 rfl ?_
  refine e_get d_X10_image_29 f_X10_94 ((H_mc.n (by decide)).n (by decide)) rfl ?_
  refine e_aloadn d_X10_image_32 rfl ?_
  refine e_get d_X10_image_33 f_X10_10 ((H_mc.n (by decide)).n (by decide)) rfl ?_
  refine e_get d_X10_image_36 f_X10_117 ((H_ch.n (by decide)).n (by decide)) rfl ?_
  refine e_puti d_X10_image_39 f_X10_287 H_im.s.s (Nat.le_of_ble_eq_true rfl) ?_
  refine e_aloadn d_X10_image_42 rfl ?_
  refine e_get d_X10_image_43 f_X10_94 (((H_mc.n (by decide)).n (by decide)).n (by decide)) rfl ?_
  refine e_aloadn d_X10_image_46 rfl ?_
  refine e_get d_X10_image_47 f_X10_19 (((H_mc.n (by decide)).n (by decide)).n (by decide)) rfl ?_
  refine e_get d_X10_image_50 f_X10_120 (((H_th.n (by decide)).n (by decide)).n (by decide)) rfl ?_
  refine e_puti d_X10_image_53 f_X10_288 H_im.s.s.s (Nat.le_of_ble_eq_true rfl) ?_
  refine e_aloadn d_X10_image_56 rfl ?_
  refine e_get d_X10_image_57 f_X10_94 ((((H_mc.n (by decide)).n (by decide)).n (by decide)).n (by decide)) rfl ?_
  refine e_aloadn d_X10_image_60 rfl ?_
  refine e_get d_X10_image_61 f_X10_159 ((((H_mc.n (by decide)).n (by decide)).n (by decide)).n (by decide)) rfl ?_
  refine e_puti d_X10_image_64 f_X10_290 H_im.s.s.s.s (Nat.le_of_ble_eq_true rfl) ?_
  refine e_aloadn d_X10_image_67 rfl ?_
  refine e_get d_X10_image_68 f_X10_94 (((((H_mc.n (by decide)).n (by decide)).n (by decide)).n (by decide)).n (by decide)) rfl ?_
  refine e_aloadn d_X10_image_71 rfl ?_
  refine e_get d_X10_image_72 f_X10_26 (((((H_mc.n (by decide)).n (by decide)).n (by decide)).n (by decide)).n (by decide)) rfl ?_
  refine e_get d_X10_image_75 f_X10_292 (((((H_lk.n (by decide)).n (by decide)).n (by decide)).n (by decide)).n (by decide)) rfl ?_
  refine e_puti d_X10_image_78 f_X10_293 H_im.s.s.s.s.s (Nat.le_of_ble_eq_true rfl) ?_
  refine e_aloadn d_X10_image_81 rfl ?_
  refine e_get d_X10_image_82 f_X10_94 ((((((H_mc.n (by decide)).n (by decide)).n (by decide)).n (by decide)).n (by decide)).n (by decide)) rfl ?_
  refine e_aloadn d_X10_image_85 rfl ?_
  refine e_get d_X10_image_86 f_X10_33 ((((((H_mc.n (by decide)).n (by decide)).n (by decide)).n (by decide)).n (by decide)).n (by decide)) rfl ?_
  refine e_get d_X10_image_89 f_X10_295 ((((((H_ld.n (by decide)).n (by decide)).n (by decide)).n (by decide)).n (by decide)).n (by decide)) rfl ?_
  refine e_puti d_X10_image_92 f_X10_296 H_im.s.s.s.s.s.s (Nat.le_of_ble_eq_true rfl) ?_
  refine e_aloadn d_X10_image_95 rfl ?_
  refine e_get d_X10_image_96 f_X10_94 (((((((H_mc.n (by decide)).n (by decide)).n (by decide)).n (by decide)).n (by decide)).n (by decide)).n (by decide)) rfl ?_
  refine e_aloadn d_X10_image_99 rfl ?_
  refine e_get d_X10_image_100 f_X10_61 (((((((H_mc.n (by decide)).n (by decide)).n (by decide)).n (by decide)).n (by decide)).n (by decide)).n (by decide)) rfl ?_
  refine e_puti d_X10_image_103 f_X10_299 H_im.s.s.s.s.s.s.s (Nat.le_of_ble_eq_true rfl) ?_
  refine e_aloadn d_X10_image_106 rfl ?_
  refine e_get d_X10_image_107 f_X10_19 ((((((((H_mc.n (by decide)).n (by decide)).n (by decide)).n (by decide)).n (by decide)).n (by decide)).n (by decide)).n (by decide)) rfl ?_
  refine e_get d_X10_image_110 f_X10_300 ((((((((H_th.n (by decide)).n (by decide)).n (by decide)).n (by decide)).n (by decide)).n (by decide)).n (by decide)).n (by decide)) rfl ?_
  refine e_iconst (v := 0) d_X10_image_113 (by decide) ?_
  refine e_aloadn d_X10_image_114 rfl ?_
  refine e_get d_X10_image_115 f_X10_94 ((((((((H_mc.n (by decide)).n (by decide)).n (by decide)).n (by decide)).n (by decide)).n (by decide)).n (by decide)).n (by decide)) rfl ?_
  refine e_get d_X10_image_118 f_X10_303 H_im.s.s.s.s.s.s.s.s rfl ?_
  refine e_iconst (v := 0) d_X10_image_121 (by decide) ?_
  refine e_aloadn d_X10_image_122 rfl ?_
  refine e_get d_X10_image_123 f_X10_94 ((((((((H_mc.n (by decide)).n (by decide)).n (by decide)).n (by decide)).n (by decide)).n (by decide)).n (by decide)).n (by decide)) rfl ?_
  refine e_get d_X10_image_126 f_X10_303 H_im.s.s.s.s.s.s.s.s rfl ?_
  refine e_alenL (v := 168) d_X10_image_129 ((((((((H_ia.n (by decide)).n (by decide)).n (by decide)).n (by decide)).n (by decide)).n (by decide)).n (by decide)).n (by decide)) rfl ?_
  refine e_copy d_X10_image_130 ⟨lw_in 974 (by decide +kernel) rfl, lw_in 976 (by decide +kernel) rfl, lw_in 975 (by decide +kernel) rfl, lw_in 99 (by decide +kernel) rfl⟩ (by decide) (Nat.le_of_ble_eq_true rfl) ((((((((H_an.n (by decide)).n (by decide)).n (by decide)).n (by decide)).n (by decide)).n (by decide)).n (by decide)).n (by decide)) ((((((((H_ia.n (by decide)).n (by decide)).n (by decide)).n (by decide)).n (by decide)).n (by decide)).n (by decide)).n (by decide)) (by decide) (by decide) (by decide) (by decide) (by decide) ?_
  refine e_aloadn d_X10_image_133 rfl ?_
  refine e_get d_X10_image_134 f_X10_10 (((((((((H_mc.n (by decide)).n (by decide)).n (by decide)).n (by decide)).n (by decide)).n (by decide)).n (by decide)).n (by decide)).n (by decide)) rfl ?_
  refine e_get d_X10_image_137 f_X10_103 (((((((((H_ch.n (by decide)).n (by decide)).n (by decide)).n (by decide)).n (by decide)).n (by decide)).n (by decide)).n (by decide)).n (by decide)) rfl ?_
  exact e_iret d_X10_image_140 rfl (rfl) (⟨rfl, by simp only [up_up]; rfl⟩)

theorem s_X10_again {h : AH} {tc tl lf lp cost cnt co ha nt nl lfew lways ns ich ico iha ith ite ili ist icost dcnt dtext : Int32} {lnow lnext drow : Nat} {ans ians : Nat → Int32} (H_mc : Hs h 0 (oMC tc tl lf lp cost)) (H_ch : Hs h 1 (oCh cnt co ha)) (H_th : Hs h 6 (oTh nt)) (H_lk : Hs h 12 (oLk lnow lnext nl lfew lways)) (H_ld : Hs h 17 (oLd ns)) (H_im : Hs h 40 (oIm ich ico iha ith ite ili ist icost)) (H_an : Hs h 11 (aI 168 ans)) (H_ia : Hs h 41 (aI 168 ians)) (H_de : Hs h 27 (oDe drow dcnt dtext)) : Sp M_X10_again (0, 0) h [.ref 0] (pI ich (up (up (up (up (up (up (up (up h 1 (oCh ich ico iha)) 6 (oTh ith)) 0 (oMC ite tl lf lp cost)) 12 (oLk lnow lnext ili lfew lways)) 17 (oLd ist)) 0 (oMC ite tl lf lp icost)) 11 (aI 168 (va_cpy ians ans 0 0 168))) 27 (oDe drow dcnt (-1)))) := by
  refine ⟨Nat.le_of_ble_eq_true rfl, ?_⟩
  show E _ _ _ 0 h [some (.ref 0)] []
  refine e_aloadn d_X10_again_0 rfl ?_
  refine e_get d_X10_again_1 f_X10_10 H_mc rfl ?_
  refine e_aloadn d_X10_again_4 rfl ?_
  refine e_get d_X10_again_5 f_X10_94 H_mc rfl ?_
  refine e_get d_X10_again_8 f_X10_284 H_im rfl ?_
  refine e_puti d_X10_again_11 f_X10_103 H_ch (Nat.le_of_ble_eq_true rfl) ?_
  refine e_aloadn d_X10_again_14 rfl ?_
  refine e_get d_X10_again_15 f_X10_10 (H_mc.n (by decide)) rfl ?_
  refine e_aloadn d_X10_again_18 rfl ?_
  refine e_get d_X10_again_19 f_X10_94 (H_mc.n (by decide)) rfl ?_
  refine e_get d_X10_again_22 f_X10_286 (H_im.n (by decide)) rfl ?_
  refine e_puti d_X10_again_25 f_X10_213 H_ch.s (Nat.le_of_ble_eq_true rfl) ?_
  refine e_aloadn d_X10_again_28 rfl ?_
  refine e_get d_X10_again_29 f_X10_10 ((H_mc.n (by decide)).n (by decide)) rfl ?_
  refine e_aloadn d_X10_again_32 rfl ?_
  refine e_get d_X10_again_33 f_X10_94 ((H_mc.n (by decide)).n (by decide)) rfl ?_
  refine e_get d_X10_again_36 f_X10_287 ((H_im.n (by decide)).n (by decide)) rfl ?_
  refine e_puti d_X10_again_39 f_X10_117 H_ch.s.s (Nat.le_of_ble_eq_true rfl) ?_
  refine e_aloadn d_X10_again_42 rfl ?_
  refine e_get d_X10_again_43 f_X10_19 (((H_mc.n (by decide)).n (by decide)).n (by decide)) rfl ?_
  refine e_aloadn d_X10_again_46 rfl ?_
  refine e_get d_X10_again_47 f_X10_94 (((H_mc.n (by decide)).n (by decide)).n (by decide)) rfl ?_
  refine e_get d_X10_again_50 f_X10_288 (((H_im.n (by decide)).n (by decide)).n (by decide)) rfl ?_
  refine e_puti d_X10_again_53 f_X10_120 (((H_th.n (by decide)).n (by decide)).n (by decide)) (Nat.le_of_ble_eq_true rfl) ?_
  refine e_aloadn d_X10_again_56 rfl ?_
  refine e_aloadn d_X10_again_57 rfl ?_
  refine e_get d_X10_again_58 f_X10_94 ((((H_mc.n (by decide)).n (by decide)).n (by decide)).n (by decide)) rfl ?_
  refine e_get d_X10_again_61 f_X10_290 ((((H_im.n (by decide)).n (by decide)).n (by decide)).n (by decide)) rfl ?_
  refine e_puti d_X10_again_64 f_X10_159 ((((H_mc.n (by decide)).n (by decide)).n (by decide)).n (by decide)) (Nat.le_of_ble_eq_true rfl) ?_
  refine e_aloadn d_X10_again_67 rfl ?_
  refine e_get d_X10_again_68 f_X10_26 (((((H_mc.n (by decide)).n (by decide)).n (by decide)).n (by decide)).s) rfl ?_
  refine e_aloadn d_X10_again_71 rfl ?_
  refine e_get d_X10_again_72 f_X10_94 (((((H_mc.n (by decide)).n (by decide)).n (by decide)).n (by decide)).s) rfl ?_
  refine e_get d_X10_again_75 f_X10_293 (((((H_im.n (by decide)).n (by decide)).n (by decide)).n (by decide)).n (by decide)) rfl ?_
  refine e_puti d_X10_again_78 f_X10_292 (((((H_lk.n (by decide)).n (by decide)).n (by decide)).n (by decide)).n (by decide)) (Nat.le_of_ble_eq_true rfl) ?_
  refine e_aloadn d_X10_again_81 rfl ?_
  refine e_get d_X10_again_82 f_X10_33 ((((((H_mc.n (by decide)).n (by decide)).n (by decide)).n (by decide)).s).n (by decide)) rfl ?_
  refine e_aloadn d_X10_again_85 rfl ?_
  refine e_get d_X10_again_86 f_X10_94 ((((((H_mc.n (by decide)).n (by decide)).n (by decide)).n (by decide)).s).n (by decide)) rfl ?_
  refine e_get d_X10_again_89 f_X10_296 ((((((H_im.n (by decide)).n (by decide)).n (by decide)).n (by decide)).n (by decide)).n (by decide)) rfl ?_
  refine e_puti d_X10_again_92 f_X10_295 ((((((H_ld.n (by decide)).n (by decide)).n (by decide)).n (by decide)).n (by decide)).n (by decide)) (Nat.le_of_ble_eq_true rfl) ?_
  refine e_aloadn d_X10_again_95 rfl ?_
  refine e_aloadn d_X10_again_96 rfl ?_
  refine e_get d_X10_again_97 f_X10_94 (((((((H_mc.n (by decide)).n (by decide)).n (by decide)).n (by decide)).s).n (by decide)).n (by decide)) rfl ?_
  refine e_get d_X10_again_100 f_X10_299 (((((((H_im.n (by decide)).n (by decide)).n (by decide)).n (by decide)).n (by decide)).n (by decide)).n (by decide)) rfl ?_
  refine e_puti d_X10_again_103 f_X10_61 (((((((H_mc.n (by decide)).n (by decide)).n (by decide)).n (by decide)).s).n (by decide)).n (by decide)) (Nat.le_of_ble_eq_true rfl) ?_
  refine e_aloadn d_X10_again_106 rfl ?_
  refine e_get d_X10_again_107 f_X10_94 ((((((((H_mc.n (by decide)).n (by decide)).n (by decide)).n (by decide)).s).n (by decide)).n (by decide)).s) rfl ?_
  refine e_get d_X10_again_110 f_X10_303 ((((((((H_im.n (by decide)).n (by decide)).n (by decide)).n (by decide)).n (by decide)).n (by decide)).n (by decide)).n (by decide)) rfl ?_
  refine e_iconst (v := 0) d_X10_again_113 (by decide) ?_
  refine e_aloadn d_X10_again_114 rfl ?_
  refine e_get d_X10_again_115 f_X10_19 ((((((((H_mc.n (by decide)).n (by decide)).n (by decide)).n (by decide)).s).n (by decide)).n (by decide)).s) rfl ?_
  refine e_get d_X10_again_118 f_X10_300 ((((((((H_th.n (by decide)).n (by decide)).n (by decide)).s).n (by decide)).n (by decide)).n (by decide)).n (by decide)) rfl ?_
  refine e_iconst (v := 0) d_X10_again_121 (by decide) ?_
  refine e_aloadn d_X10_again_122 rfl ?_
  refine e_get d_X10_again_123 f_X10_94 ((((((((H_mc.n (by decide)).n (by decide)).n (by decide)).n (by decide)).s).n (by decide)).n (by decide)).s) rfl ?_
  refine e_get d_X10_again_126 f_X10_303 ((((((((H_im.n (by decide)).n (by decide)).n (by decide)).n (by decide)).n (by decide)).n (by decide)).n (by decide)).n (by decide)) rfl ?_
  refine e_alenL (v := 168) d_X10_again_129 ((((((((H_ia.n (by decide)).n (by decide)).n (by decide)).n (by decide)).n (by decide)).n (by decide)).n (by decide)).n (by decide)) rfl ?_
  refine e_copy d_X10_again_130 ⟨lw_in 974 (by decide +kernel) rfl, lw_in 976 (by decide +kernel) rfl, lw_in 975 (by decide +kernel) rfl, lw_in 99 (by decide +kernel) rfl⟩ (by decide) (Nat.le_of_ble_eq_true rfl) ((((((((H_ia.n (by decide)).n (by decide)).n (by decide)).n (by decide)).n (by decide)).n (by decide)).n (by decide)).n (by decide)) ((((((((H_an.n (by decide)).n (by decide)).n (by decide)).n (by decide)).n (by decide)).n (by decide)).n (by decide)).n (by decide)) (by decide) (by decide) (by decide) (by decide) (by decide) ?_
  refine e_aloadn d_X10_again_133 rfl ?_
  refine e_get d_X10_again_134 f_X10_74 (((((((((H_mc.n (by decide)).n (by decide)).n (by decide)).n (by decide)).s).n (by decide)).n (by decide)).s).n (by decide)) rfl ?_
  refine e_callVV d_X10_again_137 l_X10_again_106 (((((((((H_de.n (by decide)).n (by decide)).n (by decide)).n (by decide)).n (by decide)).n (by decide)).n (by decide)).n (by decide)).n (by decide)) rfl rfl (s_X1_forget (((((((((H_de.n (by decide)).n (by decide)).n (by decide)).n (by decide)).n (by decide)).n (by decide)).n (by decide)).n (by decide)).n (by decide)) ) rfl rfl (Nat.le_of_ble_eq_true rfl) ?_
  refine e_aloadn d_X10_again_140 rfl ?_
  refine e_get d_X10_again_141 f_X10_10 ((((((((((H_mc.n (by decide)).n (by decide)).n (by decide)).n (by decide)).s).n (by decide)).n (by decide)).s).n (by decide)).n (by decide)) rfl ?_
  refine e_get d_X10_again_144 f_X10_103 (((((((H_ch.s.s.s.n (by decide)).n (by decide)).n (by decide)).n (by decide)).n (by decide)).n (by decide)).n (by decide)) rfl ?_
  exact e_iret d_X10_again_147 rfl (rfl) (⟨rfl, by simp only [up_up]; rfl⟩)

def byteC (w : Int32) (k : Int32) : Int32 := w >>> (k &&& 31) &&& 255
def tape4 (f : Nat → Int32) (t : Nat) (w : Int32) : Nat → Int32 := va_up (va_up (va_up (va_up f t (byteC w 24)) (t + 1) (byteC w 16)) (t + 2) (byteC w 8)) (t + 3) (byteC w 0)
def byteM (w : Int32) (k : Int32) : Int32 := (w >>> (k &&& 31)).toInt8.toInt32
def mtape4 (f : Nat → Int32) (t : Nat) (w : Int32) : Nat → Int32 := va_up (va_up (va_up (va_up f t (byteM w 24)) (t + 1) (byteM w 16)) (t + 2) (byteM w 8)) (t + 3) (byteM w 0)
theorem nI_s1 (t : Nat) : nI t + 1 = nI (t + 1) := nI_1 t

theorem s_X10_putFour_raw {h : AH} {tc lf lp cost : Int32} {tape : Nat → Int32} {w : Int32} {t : Nat} (H_mc : Hs h 0 (oMC tc (nI t) lf lp cost)) (H_tape : Hs h 21 (aI 300 tape)) (ht : t + 4 ≤ 300) : Sp M_X10_putFour (0, 0) h [.ref 0, .int w] (pV (up (up (up (up (up (up (up (up h 21 (aI 300 (va_up tape t (byteC w 24)))) 0 (oMC tc (nI (t + 1)) lf lp cost)) 21 (aI 300 (va_up (va_up tape t (byteC w 24)) (t + 1) (byteC w 16)))) 0 (oMC tc (nI (t + 2)) lf lp cost)) 21 (aI 300 (va_up (va_up (va_up tape t (byteC w 24)) (t + 1) (byteC w 16)) (t + 2) (byteC w 8)))) 0 (oMC tc (nI (t + 3)) lf lp cost)) 21 (aI 300 (tape4 tape t w))) 0 (oMC tc (nI (t + 4)) lf lp cost))) := by
  refine ⟨Nat.le_of_ble_eq_true rfl, ?_⟩
  show E _ _ _ 0 h [some (.ref 0), some (.int w), none] []
  refine e_bipush (v := 24) d_X10_putFour_0 (by decide) ?_
  refine e_istoren d_X10_putFour_2 (by decide) rfl ?_
  refine e_iloadn d_X10_putFour_3 rfl ?_
  refine e_if_lt d_X10_putFour_4 (fun z => by first | exact absurd (by decide) z | exact absurd z (by decide)) (fun _ => ?_)
  refine e_aloadn d_X10_putFour_7 rfl ?_
  refine e_get d_X10_putFour_8 f_X10_152 H_mc rfl ?_
  refine e_aloadn d_X10_putFour_11 rfl ?_
  refine e_get d_X10_putFour_12 f_X10_43 H_mc rfl ?_
  refine e_alenL (v := 300) d_X10_putFour_15 H_tape rfl ?_
  refine e_icmp_ge d_X10_putFour_16 (fun z => absurd (i_le (a := 300) (b := t + 0) (by decide) (by omega) (by (try simp only [nI_1] at z); exact z)) (by omega)) (fun _ => ?_)
  refine e_aloadn d_X10_putFour_19 rfl ?_
  refine e_get d_X10_putFour_20 f_X10_43 H_mc rfl ?_
  refine e_aloadn d_X10_putFour_23 rfl ?_
  refine e_get d_X10_putFour_24 f_X10_152 H_mc rfl ?_
  refine e_iloadn d_X10_putFour_27 rfl ?_
  refine e_iloadn d_X10_putFour_28 rfl ?_
  refine e_ishr d_X10_putFour_29 ?_
  refine e_sipush (v := 255) d_X10_putFour_30 (by decide) ?_
  refine e_iand d_X10_putFour_33 ?_
  refine e_iastN (k := t + 0) d_X10_putFour_34 H_tape (by first | rfl | simp only [nI_1]) (by omega) (by decide) ?_
  refine e_aloadn d_X10_putFour_35 rfl ?_
  refine e_dup d_X10_putFour_36 rfl ?_
  refine e_get d_X10_putFour_37 f_X10_152 (H_mc.n (by decide)) rfl ?_
  refine e_iconst (v := 1) d_X10_putFour_40 (by decide) ?_
  refine e_iadd d_X10_putFour_41 ?_
  refine e_puti d_X10_putFour_42 f_X10_152 (H_mc.n (by decide)) (Nat.le_of_ble_eq_true rfl) ?_
  refine e_iincw (w := -8) d_X10_putFour_45 rfl (by decide) (by decide) rfl ?_
  refine e_gt d_X10_putFour_48 ?_
  refine e_iloadn d_X10_putFour_3 rfl ?_
  refine e_if_lt d_X10_putFour_4 (fun z => by first | exact absurd (by decide) z | exact absurd z (by decide)) (fun _ => ?_)
  refine e_aloadn d_X10_putFour_7 rfl ?_
  refine e_get d_X10_putFour_8 f_X10_152 ((H_mc.n (by decide)).s) rfl ?_
  refine e_aloadn d_X10_putFour_11 rfl ?_
  refine e_get d_X10_putFour_12 f_X10_43 ((H_mc.n (by decide)).s) rfl ?_
  refine e_alenL (v := 300) d_X10_putFour_15 (H_tape.s.n (by decide)) rfl ?_
  refine e_icmp_ge d_X10_putFour_16 (fun z => absurd (i_le (a := 300) (b := t + 1) (by decide) (by omega) (by (try simp only [nI_1] at z); exact z)) (by omega)) (fun _ => ?_)
  refine e_aloadn d_X10_putFour_19 rfl ?_
  refine e_get d_X10_putFour_20 f_X10_43 ((H_mc.n (by decide)).s) rfl ?_
  refine e_aloadn d_X10_putFour_23 rfl ?_
  refine e_get d_X10_putFour_24 f_X10_152 ((H_mc.n (by decide)).s) rfl ?_
  refine e_iloadn d_X10_putFour_27 rfl ?_
  refine e_iloadn d_X10_putFour_28 rfl ?_
  refine e_ishr d_X10_putFour_29 ?_
  refine e_sipush (v := 255) d_X10_putFour_30 (by decide) ?_
  refine e_iand d_X10_putFour_33 ?_
  refine e_iastN (k := t + 1) d_X10_putFour_34 (H_tape.s.n (by decide)) (by first | rfl | simp only [nI_1]) (by omega) (by decide) ?_
  refine e_aloadn d_X10_putFour_35 rfl ?_
  refine e_dup d_X10_putFour_36 rfl ?_
  refine e_get d_X10_putFour_37 f_X10_152 (((H_mc.n (by decide)).s).n (by decide)) rfl ?_
  refine e_iconst (v := 1) d_X10_putFour_40 (by decide) ?_
  refine e_iadd d_X10_putFour_41 ?_
  refine e_puti d_X10_putFour_42 f_X10_152 (((H_mc.n (by decide)).s).n (by decide)) (Nat.le_of_ble_eq_true rfl) ?_
  refine e_iincw (w := -8) d_X10_putFour_45 rfl (by decide) (by decide) rfl ?_
  refine e_gt d_X10_putFour_48 ?_
  refine e_iloadn d_X10_putFour_3 rfl ?_
  refine e_if_lt d_X10_putFour_4 (fun z => by first | exact absurd (by decide) z | exact absurd z (by decide)) (fun _ => ?_)
  refine e_aloadn d_X10_putFour_7 rfl ?_
  refine e_get d_X10_putFour_8 f_X10_152 ((((H_mc.n (by decide)).s).n (by decide)).s) rfl ?_
  refine e_aloadn d_X10_putFour_11 rfl ?_
  refine e_get d_X10_putFour_12 f_X10_43 ((((H_mc.n (by decide)).s).n (by decide)).s) rfl ?_
  refine e_alenL (v := 300) d_X10_putFour_15 (((H_tape.s.n (by decide)).s).n (by decide)) rfl ?_
  refine e_icmp_ge d_X10_putFour_16 (fun z => absurd (i_le (a := 300) (b := t + 2) (by decide) (by omega) (by (try simp only [nI_1] at z); exact z)) (by omega)) (fun _ => ?_)
  refine e_aloadn d_X10_putFour_19 rfl ?_
  refine e_get d_X10_putFour_20 f_X10_43 ((((H_mc.n (by decide)).s).n (by decide)).s) rfl ?_
  refine e_aloadn d_X10_putFour_23 rfl ?_
  refine e_get d_X10_putFour_24 f_X10_152 ((((H_mc.n (by decide)).s).n (by decide)).s) rfl ?_
  refine e_iloadn d_X10_putFour_27 rfl ?_
  refine e_iloadn d_X10_putFour_28 rfl ?_
  refine e_ishr d_X10_putFour_29 ?_
  refine e_sipush (v := 255) d_X10_putFour_30 (by decide) ?_
  refine e_iand d_X10_putFour_33 ?_
  refine e_iastN (k := t + 2) d_X10_putFour_34 (((H_tape.s.n (by decide)).s).n (by decide)) (by first | rfl | simp only [nI_1]) (by omega) (by decide) ?_
  refine e_aloadn d_X10_putFour_35 rfl ?_
  refine e_dup d_X10_putFour_36 rfl ?_
  refine e_get d_X10_putFour_37 f_X10_152 (((((H_mc.n (by decide)).s).n (by decide)).s).n (by decide)) rfl ?_
  refine e_iconst (v := 1) d_X10_putFour_40 (by decide) ?_
  refine e_iadd d_X10_putFour_41 ?_
  refine e_puti d_X10_putFour_42 f_X10_152 (((((H_mc.n (by decide)).s).n (by decide)).s).n (by decide)) (Nat.le_of_ble_eq_true rfl) ?_
  refine e_iincw (w := -8) d_X10_putFour_45 rfl (by decide) (by decide) rfl ?_
  refine e_gt d_X10_putFour_48 ?_
  refine e_iloadn d_X10_putFour_3 rfl ?_
  refine e_if_lt d_X10_putFour_4 (fun z => by first | exact absurd (by decide) z | exact absurd z (by decide)) (fun _ => ?_)
  refine e_aloadn d_X10_putFour_7 rfl ?_
  refine e_get d_X10_putFour_8 f_X10_152 ((((((H_mc.n (by decide)).s).n (by decide)).s).n (by decide)).s) rfl ?_
  refine e_aloadn d_X10_putFour_11 rfl ?_
  refine e_get d_X10_putFour_12 f_X10_43 ((((((H_mc.n (by decide)).s).n (by decide)).s).n (by decide)).s) rfl ?_
  refine e_alenL (v := 300) d_X10_putFour_15 (((((H_tape.s.n (by decide)).s).n (by decide)).s).n (by decide)) rfl ?_
  refine e_icmp_ge d_X10_putFour_16 (fun z => absurd (i_le (a := 300) (b := t + 3) (by decide) (by omega) (by (try simp only [nI_1] at z); exact z)) (by omega)) (fun _ => ?_)
  refine e_aloadn d_X10_putFour_19 rfl ?_
  refine e_get d_X10_putFour_20 f_X10_43 ((((((H_mc.n (by decide)).s).n (by decide)).s).n (by decide)).s) rfl ?_
  refine e_aloadn d_X10_putFour_23 rfl ?_
  refine e_get d_X10_putFour_24 f_X10_152 ((((((H_mc.n (by decide)).s).n (by decide)).s).n (by decide)).s) rfl ?_
  refine e_iloadn d_X10_putFour_27 rfl ?_
  refine e_iloadn d_X10_putFour_28 rfl ?_
  refine e_ishr d_X10_putFour_29 ?_
  refine e_sipush (v := 255) d_X10_putFour_30 (by decide) ?_
  refine e_iand d_X10_putFour_33 ?_
  refine e_iastN (k := t + 3) d_X10_putFour_34 (((((H_tape.s.n (by decide)).s).n (by decide)).s).n (by decide)) (by first | rfl | simp only [nI_1]) (by omega) (by decide) ?_
  refine e_aloadn d_X10_putFour_35 rfl ?_
  refine e_dup d_X10_putFour_36 rfl ?_
  refine e_get d_X10_putFour_37 f_X10_152 (((((((H_mc.n (by decide)).s).n (by decide)).s).n (by decide)).s).n (by decide)) rfl ?_
  refine e_iconst (v := 1) d_X10_putFour_40 (by decide) ?_
  refine e_iadd d_X10_putFour_41 ?_
  refine e_puti d_X10_putFour_42 f_X10_152 (((((((H_mc.n (by decide)).s).n (by decide)).s).n (by decide)).s).n (by decide)) (Nat.le_of_ble_eq_true rfl) ?_
  refine e_iincw (w := -8) d_X10_putFour_45 rfl (by decide) (by decide) rfl ?_
  refine e_gt d_X10_putFour_48 ?_
  refine e_iloadn d_X10_putFour_3 rfl ?_
  refine e_if_lt d_X10_putFour_4 (fun _ => ?_) (fun z => by first | exact absurd (by decide) z | exact absurd z (by decide))
  exact e_vret d_X10_putFour_51 rfl (⟨rfl, by simp only [nI_1]; rfl⟩)

theorem up_4 {h : AH} {a b : Nat} {c1 c2 d1 d2 : AC} (hne : a ≠ b) : up (up (up (up h a c1) b d1) a c2) b d2 = up (up h a c2) b d2 := by
  rw [up_comm (h := up h a c1) (a := b) (b := a) (Ne.symm hne), up_up, up_up]
theorem s_X10_putFour {h : AH} {tc lf lp cost : Int32} {tape : Nat → Int32} {w : Int32} {t : Nat} (H_mc : Hs h 0 (oMC tc (nI t) lf lp cost)) (H_tape : Hs h 21 (aI 300 tape)) (ht : t + 4 ≤ 300) : Sp M_X10_putFour (0, 0) h [.ref 0, .int w] (pV (up (up h 21 (aI 300 (tape4 tape t w))) 0 (oMC tc (nI (t + 4)) lf lp cost))) := by
  have := s_X10_putFour_raw (w := w) H_mc H_tape ht
  simp only [up_4 (show 21 ≠ 0 by decide)] at this
  exact this
