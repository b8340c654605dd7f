/-! paid, changed, course, live -/
theorem s_X8_has {h : AH} {tp nc k : Nat} {kd : Nat → Nat} {many near : Int32} {kinds : Nat → Int32} (H_tx : Hs h (42 + 4 * tp) (oTx tp (nI nc) many near)) (H_tkk : Hs h (43 + 4 * tp) (aI 10 kinds)) (hnc : nc ≤ 10) (hk : k < 100) (hkd : ∀ i, i < nc → kinds i = nI (kd i) ∧ kd i < 100) : Sp M_X8_has (0, 0) h [.ref (42 + 4 * tp), .int (nI k)] (pI (bI (hasK nc kd k = true)) h) := by
  refine ⟨Nat.le_of_ble_eq_true rfl, ?_⟩
  show E _ _ _ 0 h [some (.ref (42 + 4 * tp)), some (.int (nI k)), none] []
  refine e_iconst (v := 0) d_X8_has_0 (by decide) ?_
  refine e_istoren d_X8_has_1 (by decide) rfl ?_
  have hA_2 : ∀ i, i ≤ nc → ∀ (u : Unit) (y : Int32), (∀ j, j < i → (fun i => decide (kd i = k)) j = false) → (y = nI i) → E M_X8_has (0, 0) (pI (bI (hasK nc kd k = true)) h) 2 (h) [some (.ref (42 + 4 * tp)), some (.int (nI k)), some (.int y)] [] := by
    refine loop_ind (n := nc) ?_
    intro i hi_i ih_2 u y h_u h_y
    subst h_y
    refine e_iloadn d_X8_has_2 rfl ?_
    refine e_aloadn d_X8_has_3 rfl ?_
    refine e_get d_X8_has_4 f_X8_21 H_tx rfl ?_
    refine e_icmp_ge d_X8_has_7 (fun c => ?_) (fun c => ?_)
    · have c := i_le (by omega) (by omega) c
      obtain rfl : nc = i := by omega
      refine e_iconst (v := 0) d_X8_has_28 (by decide) ?_
      exact e_iret d_X8_has_29 rfl (rfl) (⟨by rw [hasK, anyN_f h_u]; rfl, rfl⟩)
    · have c := i_nle (by omega) (by omega) c
      refine e_aloadn d_X8_has_10 rfl ?_
      refine e_get d_X8_has_11 f_X8_9 H_tx rfl ?_
      refine e_iloadn d_X8_has_14 rfl ?_
      refine e_ialdN (k := i) d_X8_has_15 H_tkk rfl (by omega) (by omega) ?_
      refine e_iloadn d_X8_has_16 rfl ?_
      rw [(hkd i c).1]
      refine e_icmp_ne d_X8_has_17 (fun c_17 => ?_) (fun c_17 => ?_)
      · have hb : (fun i => decide (kd i = k)) i = false := by simp [show ¬ kd i = k from fun z => c_17 (by rw [z])]
        refine e_iincw (w := 1) d_X8_has_22 rfl (by decide) (by decide) rfl ?_
        refine e_gt d_X8_has_25 ?_
        refine ih_2 (i + 1) (by omega) (by omega) () _ ?_ ?_
        · intro j hj
          by_cases e : j = i
          · subst e; exact hb
          · exact h_u j (by omega)
        · exact nI_1 i
      · have hk2 : kd i = k := (nI_eq (by have := (hkd i c).2; omega) (by omega)).mp c_17
        refine e_iconst (v := 1) d_X8_has_20 (by decide) ?_
        exact e_iret d_X8_has_21 rfl (rfl) (⟨by rw [hasK, anyN_t c (by simp [hk2])]; rfl, rfl⟩)
  exact hA_2 0 (by omega) () _ (fun j hj => absurd hj (by omega)) (rfl)

theorem s_X10_paid {h : AH} {κ : Nat × Nat} {tp nc : Nat} {kd : Nat → Nat} {cd : Nat → List Nat} {many near : Int32} {nms : Nat → Int32} {N : Nat} {ca : Nat → Nat → Nat} {co : Int32} {S0 tcn : Nat} {tl lf lp cost dtext : Int32} {texts : Nat → Option Nat} {drn : Nat} {L0 : List Nat} {S : Nat} {t : Int32} {fars : Nat → Int32} {n : Nat} {less ans : Nat → Int32} (H_mc : Hs h 0 (oMC (nI tcn) tl lf lp cost)) (H_txs : Hs h 20 (aT 6 texts)) (htx : ∀ t, t < 6 → texts t = some (42 + 4 * t)) (hC : ChC h N ca co (nI S0)) (hT : TxC h tp nc kd cd many near) (hJ : JuC h nms) (hok : okT nc kd cd) (hD : DeX h dtext drn L0) (hL0 : dtext = nI tp → L0 = (DLs ca N nc kd cd many near)) (htp : tp < tcn) (htc : tcn ≤ 6) (hsz : 92 < h.2.1) (hS0 : S0 < 2 ^ N) (hκ : ¬ dtext = nI tp → drn < 2 ^ N → 1 ≤ κ.1 ∧ 2 ^ N ≤ κ.2) (H_th : Hs h 6 (oTh (nI n))) (H_tl_ : Hs h 9 (aZ 12 less)) (H_an : Hs h 11 (aI 168 ans)) (hn : n ≤ 12) (hV : ∀ t, t < 12 → ∀ c, c < 14 → ans (t * 14 + c) = -1 ∨ ∃ v, v ≤ 99 ∧ ans (t * 14 + c) = nI v) (H_fars : Hs h 39 (aI 12 fars)) (hTa : TaOK h) (hS : S < 2 ^ n) (ht1 : 1 ≤ t ∧ t ≤ 1000) : Sp M_X10_paid κ h [.ref 0, .int (nI tp), .int (nI S), .int t] (rI (fun x h' => x = nI (paidA (fun j => farC ans less (2 ^ N - 1) (dlF (DLs ca N nc kd cd many near)) j S0 (DLs ca N nc kd cd many near).length) t (DLs ca N nc kd cd many near).length (pc (bs (fun t => bt S t && decide (farC ans less (2 ^ N - 1) (dlF (DLs ca N nc kd cd many near)) t S0 (DLs ca N nc kd cd many near).length ≠ -1)) n) 14) (bs (fun t => bt S t && decide (farC ans less (2 ^ N - 1) (dlF (DLs ca N nc kd cd many near)) t S0 (DLs ca N nc kd cd many near).length ≠ -1)) n) 0) ∧ TaOK h' ∧ (∃ fs : Nat → Int32, Hs h' 39 (aI 12 fs)) ∧ Dd FSp h h' tp (if dtext = nI tp then drn else max drn (2 ^ N)) (DLs ca N nc kd cd many near))) := by
  refine ⟨Nat.le_of_ble_eq_true rfl, ?_⟩
  show E _ _ _ 0 h [some (.ref 0), some (.int (nI tp)), some (.int (nI S)), some (.int t), none, none, none, none] []
  have hC9 := hC
  obtain ⟨hN, hca, sexes, wits, homes, works, H_ch, H_sx, H_wt, H_hm, H_wk, hc4⟩ := hC9
  have hS1 : S0 < 16384 := Nat.lt_of_lt_of_le hS0 (pw_31 N hN)
  have hA2 : 2 ^ N - 1 < 2 ^ 31 := by have := Nat.pow_le_pow_right (n := 2) (by decide) hN; omega
  obtain ⟨drow, row0, w0, a0, H_de, -⟩ := id hD
  have hS12 := p12 hS hn
  refine e_aloadn d_X10_paid_0 rfl ?_
  refine e_iloadn d_X10_paid_1 rfl ?_
  refine e_callVI d_X10_paid_2 l_X10_paid_172 H_mc rfl rfl (s_X10_isText H_mc) rfl rfl (Nat.le_of_ble_eq_true rfl) ?_
  refine e_if_eq d_X10_paid_5 (fun z => by first | exact absurd (fun z => bI_0.mp z ⟨(nI_leI (a := 0) (by decide) (by omega)).mpr (by omega), (nI_ltI (by omega) (by omega)).mpr (by omega)⟩) z | exact absurd z (fun z => bI_0.mp z ⟨(nI_leI (a := 0) (by decide) (by omega)).mpr (by omega), (nI_ltI (by omega) (by omega)).mpr (by omega)⟩)) (fun _ => ?_)
  refine e_aloadn d_X10_paid_8 rfl ?_
  refine e_get d_X10_paid_9 f_X10_19 H_mc rfl ?_
  refine e_iloadn d_X10_paid_12 rfl ?_
  refine e_callVI d_X10_paid_13 l_X10_paid_192 H_th rfl rfl (s_X9_hasAll H_th) rfl rfl (Nat.le_of_ble_eq_true rfl) ?_
  refine e_if_eq d_X10_paid_16 (fun z => by first | exact absurd (fun z => bI_0.mp z ((hasAll_N (by omega) hn).mpr hS)) z | exact absurd z (fun z => bI_0.mp z ((hasAll_N (by omega) hn).mpr hS))) (fun _ => ?_)
  refine e_iloadn d_X10_paid_19 rfl ?_
  refine e_callSI d_X10_paid_20 l_X10_paid_182 (s_X10_isT) rfl rfl (Nat.le_of_ble_eq_true rfl) ?_
  refine e_if_ne d_X10_paid_23 (fun _ => ?_) (fun z => by first | exact absurd (fun z => bI_0.mp z ht1) z | exact absurd z (fun z => bI_0.mp z ht1))
  refine e_aloadn d_X10_paid_28 rfl ?_
  refine e_iloadn d_X10_paid_29 rfl ?_
  refine e_callKVV d_X10_paid_30 l_X10_paid_175 H_mc rfl rfl (s_X10_deal H_mc H_txs htx hC hT hJ hok hD hL0 (by omega) hsz hκ) rfl rfl (Nat.le_of_ble_eq_true rfl) (fun h_d q_d s_d => ?_)
  obtain ⟨hJd, hDd, fzd⟩ := q_d
  have hDD : Dd FSp h h_d tp _ _ := ⟨hJd, hDd, fzd.mono (by decide)⟩
  have hDk := hDd.ok
  have hC := ChC.fz hC fzd (by decide)
  have hTa := TaOK.fz hTa fzd (by decide)
  have H_mc := fzd.hs H_mc (by decide)
  have H_txs := fzd.hs H_txs (by decide)
  have H_ch := fzd.hs H_ch (by decide)
  have H_sx := fzd.hs H_sx (by decide)
  have H_th := fzd.hs H_th (by decide)
  have H_tl_ := fzd.hs H_tl_ (by decide)
  have H_an := fzd.hs H_an (by decide)
  have H_fars := fzd.hs H_fars (by decide)
  obtain ⟨drowd, rowd, wd, ad, H_de, H_dw, H_da, H_dr, hdrowd, hLd1, hLd2, hdrnd, hRwd, hLd3⟩ := id hDd
  refine e_aloadn d_X10_paid_33 rfl ?_
  refine e_iloadn d_X10_paid_34 rfl ?_
  refine e_callRVI d_X10_paid_35 l_X10_paid_195 H_mc rfl rfl (s_X10_withOdds H_mc H_ch H_th H_tl_ H_an H_fars hTa hDk hN hn hS1 (by omega) hV) rfl rfl (Nat.le_of_ble_eq_true rfl) (fun x_35 h_35 q_35 s_35 => ?_)
  obtain ⟨rfl, hTa_35, ⟨fs, H_fars, hfs⟩, fr_35⟩ := q_35
  have H_mc := fr_35.hs H_mc (by first | decide | (simp; omega))
  have H_txs := fr_35.hs H_txs (by first | decide | (simp; omega))
  have H_de := fr_35.hs H_de (by first | decide | (simp; omega))
  have H_ch := fr_35.hs H_ch (by first | decide | (simp; omega))
  have H_sx := fr_35.hs H_sx (by first | decide | (simp; omega))
  have H_th := fr_35.hs H_th (by first | decide | (simp; omega))
  have H_tl_ := fr_35.hs H_tl_ (by first | decide | (simp; omega))
  have H_an := fr_35.hs H_an (by first | decide | (simp; omega))
  have H_DE := DeOK.fr hDk fr_35 (by decide)
  have hDD := hDD.fr fr_35 (by decide)
  generalize hW : (bs (fun t => bt S t && decide (farC ans less (2 ^ N - 1) (dlF (DLs ca N nc kd cd many near)) t S0 (DLs ca N nc kd cd many near).length ≠ -1)) n) = W
  have hWb : ∀ j, bt W j = true → j < n ∧ bt S j = true := fun j hj => by
    rw [← hW, bt_bs, Bool.and_eq_true, Bool.and_eq_true, decide_eq_true_eq] at hj
    exact ⟨hj.1, hj.2.1⟩
  have hW12 : W < 4096 := by rw [← hW]; exact bs_12 _ hn
  have hpcW := pc_le W 14
  refine e_istore d_X10_paid_38 (by decide) rfl ?_
  refine e_iconst (v := 0) d_X10_paid_40 (by decide) ?_
  refine e_istore d_X10_paid_41 (by decide) rfl ?_
  refine e_iload d_X10_paid_43 rfl ?_
  refine e_callSI d_X10_paid_45 l_X10_paid_198 (s_J6_bitCount_0f7a4) rfl rfl (Nat.le_of_ble_eq_true rfl) ?_
  rw [bitC_pc (by omega)]
  refine e_istore d_X10_paid_48 (by decide) rfl ?_
  have hA_50 : ∀ i, i ≤ (pc W 14) → ∀ (L : Nat) (q : Nat) (e : Unit) (l : Unit) (b : Unit) (z : Int32), (paidA (fun j => farC ans less (2 ^ N - 1) (dlF (DLs ca N nc kd cd many near)) j S0 (DLs ca N nc kd cd many near).length) t (DLs ca N nc kd cd many near).length (pc W 14 - i) L q = paidA (fun j => farC ans less (2 ^ N - 1) (dlF (DLs ca N nc kd cd many near)) j S0 (DLs ca N nc kd cd many near).length) t (DLs ca N nc kd cd many near).length (pc W 14) W 0) → (L < 4096) → (∀ j, bt L j = true → j < n ∧ bt S j = true) → (z = nI (pc W 14 - i)) → E M_X10_paid (0, 0) (rI (fun x h' => x = nI (paidA (fun j => farC ans less (2 ^ N - 1) (dlF (DLs ca N nc kd cd many near)) j S0 (DLs ca N nc kd cd many near).length) t (DLs ca N nc kd cd many near).length (pc W 14) W 0) ∧ TaOK h' ∧ (∃ fs : Nat → Int32, Hs h' 39 (aI 12 fs)) ∧ Dd FSp h h' tp (if dtext = nI tp then drn else max drn (2 ^ N)) (DLs ca N nc kd cd many near))) 50 (h_35) [some (.ref 0), some (.int (nI tp)), some (.int (nI S)), some (.int t), some (.int (nI L)), some (.int (nI q)), some (.int z), none] [] := by
    refine loop_ind (n := (pc W 14)) ?_
    intro i hi_i ih_50 L q e l b z h_e h_l h_b h_z
    subst h_z
    refine e_iload d_X10_paid_50 rfl ?_
    refine e_if_le d_X10_paid_52 (fun c => ?_) (fun c => ?_)
    · have c := i_np (by omega) c
      have hfin : q = paidA (fun j => farC ans less (2 ^ N - 1) (dlF (DLs ca N nc kd cd many near)) j S0 (DLs ca N nc kd cd many near).length) t (DLs ca N nc kd cd many near).length (pc W 14) W 0 := by rw [← h_e, c]; rfl
      refine e_iload d_X10_paid_119 rfl ?_
      exact e_iret d_X10_paid_121 rfl (rfl) (⟨_, rfl, by rw [hfin], hTa_35, ⟨fs, H_fars⟩, hDD⟩)
    · have c := i_pos (by omega) c
      refine e_aloadn d_X10_paid_55 rfl ?_
      refine e_get d_X10_paid_56 f_X10_88 H_mc rfl ?_
      refine e_iload d_X10_paid_59 rfl ?_
      refine e_callSI d_X10_paid_61 l_X10_paid_203 (s_X10_leastOf H_fars (by omega)) rfl rfl (Nat.le_of_ble_eq_true rfl) ?_
      have hlo0 : lOf fs L 12 = lOf (fun j => farC ans less (2 ^ N - 1) (dlF (DLs ca N nc kd cd many near)) j S0 (DLs ca N nc kd cd many near).length) L 12 := lOf_cong (fun j hj hb => hfs j (h_b j hb).1 (h_b j hb).2)
      rw [hlo0]
      refine e_istore d_X10_paid_64 (by decide) rfl ?_
      refine e_iload d_X10_paid_66 rfl ?_
      refine e_iconst (v := -1) d_X10_paid_68 (by decide) ?_
      refine e_icmp_eq d_X10_paid_69 (fun c69 => ?_) (fun c69 => ?_)
      · have hlo := oI_none c69 (lOf_lt 12) (by decide)
        have hfin : q = paidA (fun j => farC ans less (2 ^ N - 1) (dlF (DLs ca N nc kd cd many near)) j S0 (DLs ca N nc kd cd many near).length) t (DLs ca N nc kd cd many near).length (pc W 14) W 0 := by rw [← h_e, show pc W 14 - i = pc W 14 - i - 1 + 1 by omega, paidA, hlo]
        refine e_iload d_X10_paid_119 rfl ?_
        exact e_iret d_X10_paid_121 rfl (rfl) (⟨_, rfl, by rw [hfin], hTa_35, ⟨fs, H_fars⟩, hDD⟩)
      · obtain ⟨r, hlo⟩ := oI_some c69
        have hr12 := lOf_lt 12 r hlo
        have hrb := lOf_bt 12 r hlo
        rw [hlo, show oI (some r) = nI r from rfl]
        refine e_aloadn d_X10_paid_72 rfl ?_
        refine e_aloadn d_X10_paid_73 rfl ?_
        refine e_get d_X10_paid_74 f_X10_88 H_mc rfl ?_
        refine e_iload d_X10_paid_77 rfl ?_
        refine e_ialdN (k := r) d_X10_paid_79 H_fars rfl (by omega) (by omega) ?_
        rw [hfs r (h_b r hrb).1 (h_b r hrb).2]
        refine e_iload d_X10_paid_80 rfl ?_
        refine e_imul d_X10_paid_82 ?_
        refine e_iloadn d_X10_paid_83 rfl ?_
        refine e_callVI d_X10_paid_84 l_X10_paid_189 H_mc rfl rfl (s_X10_stands H_mc H_DE) rfl rfl (Nat.le_of_ble_eq_true rfl) ?_
        refine e_if_ne d_X10_paid_87 (fun c87 => ?_) (fun c87 => ?_)
        · have hst := bI_1.mp (bI_z.resolve_left c87)
          refine e_iload d_X10_paid_93 rfl ?_
          refine e_iconst (v := 1) d_X10_paid_95 (by decide) ?_
          refine e_iload d_X10_paid_96 rfl ?_
          refine e_ishl d_X10_paid_98 ?_
          rw [pw14 r (by omega)]
          refine e_ior d_X10_paid_99 ?_
          rw [nI_or]
          refine e_istore d_X10_paid_100 (by decide) rfl ?_
          refine e_iload d_X10_paid_102 rfl ?_
          refine e_iconst (v := 1) d_X10_paid_104 (by decide) ?_
          refine e_iload d_X10_paid_105 rfl ?_
          refine e_ishl d_X10_paid_107 ?_
          rw [pw14 r (by omega)]
          refine e_iconst (v := -1) d_X10_paid_108 (by decide) ?_
          refine e_ixor d_X10_paid_109 ?_
          refine e_iand d_X10_paid_110 ?_
          rw [nI_sdx]
          refine e_istore d_X10_paid_111 (by decide) rfl ?_
          refine e_iincw (w := -1) d_X10_paid_113 rfl (by decide) (by decide) rfl ?_
          refine e_gt d_X10_paid_116 ?_
          refine e_drop1 7 ?_
          refine ih_50 (i + 1) (by omega) (by omega) (sd L (2 ^ r)) (q ||| 2 ^ r) () () () _ ?_ ?_ ?_ ?_
          · rw [← h_e, show pc W 14 - i = pc W 14 - (i + 1) + 1 by omega, paidA, hlo]
            simp only []
            rw [show pc W 14 - (i + 1) + 1 = pc W 14 - i by omega, if_pos hst]
          · exact Nat.lt_of_le_of_lt (sd_le _ _) h_l
          · intro j hj
            rw [bt_sd, Bool.and_eq_true] at hj
            exact h_b j hj.1
          · exact nI_dec c
        · have hst := bI_0.mp c87
          have hfin : q = paidA (fun j => farC ans less (2 ^ N - 1) (dlF (DLs ca N nc kd cd many near)) j S0 (DLs ca N nc kd cd many near).length) t (DLs ca N nc kd cd many near).length (pc W 14) W 0 := by
            rw [← h_e, show pc W 14 - i = pc W 14 - i - 1 + 1 by omega, paidA, hlo]
            simp only []
            rw [show pc W 14 - i - 1 + 1 = pc W 14 - i by omega, if_neg hst]
          refine e_gt d_X10_paid_90 ?_
          refine e_iload d_X10_paid_119 rfl ?_
          exact e_iret d_X10_paid_121 rfl (rfl) (⟨_, rfl, by rw [hfin], hTa_35, ⟨fs, H_fars⟩, hDD⟩)
  exact hA_50 0 (by omega) W 0 () () () _ (rfl) (hW12) (hWb) (by rw [Nat.sub_zero])

theorem upd_f1 (mo : Bool) {b f : Int32} (h : f = -1) : b = updA mo b f := by rw [updA, if_neg (fun z => z.1 h)]
theorem upd_t (mo : Bool) {b f : Int32} (h : ¬ f = -1) (h2 : b = -1 ∨ (if mo = true then b < f else f < b)) : f = updA mo b f := by rw [updA, if_pos ⟨h, h2⟩]
theorem upd_m {mo : Bool} {b f z : Int32} (h : ¬ f = -1) (h2 : ¬ b = -1) (hm : mo = true) (h3 : (f ≤ b ∧ z = b) ∨ (¬ f ≤ b ∧ z = f)) : z = updA mo b f := by
  subst hm
  rw [updA]
  rcases h3 with ⟨q, e⟩ | ⟨q, e⟩
  · rw [if_neg (by grind), e]
  · rw [if_pos (by grind), e]
theorem upd_n {mo : Bool} {b f z : Int32} (h : ¬ f = -1) (h2 : ¬ b = -1) (hm : ¬ mo = true) (h3 : (b ≤ f ∧ z = b) ∨ (¬ b ≤ f ∧ z = f)) : z = updA mo b f := by
  rw [updA]
  rcases h3 with ⟨q, e⟩ | ⟨q, e⟩
  · rw [if_neg (by grind), e]
  · rw [if_pos (by grind), e]
theorem s_X10_changed {h : AH} {κ : Nat × Nat} {tp nc : Nat} {kd : Nat → Nat} {cd : Nat → List Nat} {many near : Int32} {nms : Nat → Int32} {N : Nat} {ca : Nat → Nat → Nat} {S0 tcn : Nat} {tl lf lp cost dtext : Int32} {texts : Nat → Option Nat} {drn : Nat} {L0 : List Nat} {co9 T : Nat} {mo : Bool} {n : Nat} {less ans : Nat → Int32} (H_mc : Hs h 0 (oMC (nI tcn) tl lf lp cost)) (H_txs : Hs h 20 (aT 6 texts)) (htx : ∀ t, t < 6 → texts t = some (42 + 4 * t)) (hC : ChC h N ca (nI co9) (nI S0)) (hT : TxC h tp nc kd cd many near) (hJ : JuC h nms) (hok : okT nc kd cd) (hD : DeX h dtext drn L0) (hL0 : dtext = nI tp → L0 = (DLs ca N nc kd cd many near)) (htp : tp < tcn) (htc : tcn ≤ 6) (hsz : 92 < h.2.1) (hS0 : S0 < 2 ^ N) (hκ : ¬ dtext = nI tp → drn < 2 ^ N → 1 ≤ κ.1 ∧ 2 ^ N ≤ κ.2) (H_th : Hs h 6 (oTh (nI n))) (H_tl_ : Hs h 9 (aZ 12 less)) (H_an : Hs h 11 (aI 168 ans)) (hn : n ≤ 12) (hV : ∀ t, t < 12 → ∀ c, c < 14 → ans (t * 14 + c) = -1 ∨ ∃ v, v ≤ 99 ∧ ans (t * 14 + c) = nI v) (hTa : TaOK h) (hTn : T < n) (hco : co9 < 2 ^ N) : Sp M_X10_changed κ h [.ref 0, .int (nI tp), .int (nI T), .int (bI (mo = true))] (rI (fun x h' => x = chA mo (fun s => farC ans less (2 ^ N - 1) (dlF (DLs ca N nc kd cd many near)) T (S0 ^^^ s) (DLs ca N nc kd cd many near).length) (chS (fw (S0 ^^^ co9) 14) (2 ^ pc (fw (S0 ^^^ co9) 14) 14) 0) ∧ TaOK h' ∧ Dd FSl h h' tp (if dtext = nI tp then drn else max drn (2 ^ N)) (DLs ca N nc kd cd many near))) := by
  refine ⟨Nat.le_of_ble_eq_true rfl, ?_⟩
  show E _ _ _ 0 h [some (.ref 0), some (.int (nI tp)), some (.int (nI T)), some (.int (bI (mo = true))), none, none, none, none, none, none] []
  have hC9 := hC
  obtain ⟨hN, hca, sexes, wits, homes, works, H_ch, H_sx, H_wt, H_hm, H_wk, hc4⟩ := hC9
  have hS1 : S0 < 16384 := Nat.lt_of_lt_of_le hS0 (pw_31 N hN)
  have hA2 : 2 ^ N - 1 < 2 ^ 31 := by have := Nat.pow_le_pow_right (n := 2) (by decide) hN; omega
  obtain ⟨drow, row0, w0, a0, H_de, -⟩ := id hD
  have hco1 : co9 < 16384 := Nat.lt_of_lt_of_le hco (pw_31 N hN)
  refine e_aloadn d_X10_changed_0 rfl ?_
  refine e_iloadn d_X10_changed_1 rfl ?_
  refine e_callVI d_X10_changed_2 l_X10_changed_172 H_mc rfl rfl (s_X10_isText H_mc) rfl rfl (Nat.le_of_ble_eq_true rfl) ?_
  refine e_if_eq d_X10_changed_5 (fun z => by first | exact absurd (fun z => bI_0.mp z ⟨(nI_leI (a := 0) (by decide) (by omega)).mpr (by omega), (nI_ltI (by omega) (by omega)).mpr (by omega)⟩) z | exact absurd z (fun z => bI_0.mp z ⟨(nI_leI (a := 0) (by decide) (by omega)).mpr (by omega), (nI_ltI (by omega) (by omega)).mpr (by omega)⟩)) (fun _ => ?_)
  refine e_aloadn d_X10_changed_8 rfl ?_
  refine e_get d_X10_changed_9 f_X10_19 H_mc rfl ?_
  refine e_iloadn d_X10_changed_12 rfl ?_
  refine e_callVI d_X10_changed_13 l_X10_changed_124 H_th rfl rfl (s_X9_has H_th) rfl rfl (Nat.le_of_ble_eq_true rfl) ?_
  refine e_if_ne d_X10_changed_16 (fun _ => ?_) (fun z => by first | exact absurd (fun z => bI_0.mp z ⟨(nI_leI (a := 0) (by decide) (by omega)).mpr (by omega), (nI_ltI (by omega) (by omega)).mpr (by omega)⟩) z | exact absurd z (fun z => bI_0.mp z ⟨(nI_leI (a := 0) (by decide) (by omega)).mpr (by omega), (nI_ltI (by omega) (by omega)).mpr (by omega)⟩))
  refine e_aloadn d_X10_changed_21 rfl ?_
  refine e_iloadn d_X10_changed_22 rfl ?_
  refine e_callKVV d_X10_changed_23 l_X10_changed_175 H_mc rfl rfl (s_X10_deal H_mc H_txs htx hC hT hJ hok hD hL0 (by omega) hsz hκ) rfl rfl (Nat.le_of_ble_eq_true rfl) (fun h_d q_d s_d => ?_)
  obtain ⟨hJd, hDd, fzd⟩ := q_d
  have hDD : Dd FSl h h_d tp _ _ := ⟨hJd, hDd, fzd.mono (by decide)⟩
  have hDk := hDd.ok
  have hC := ChC.fz hC fzd (by decide)
  have hTa := TaOK.fz hTa fzd (by decide)
  have H_mc := fzd.hs H_mc (by decide)
  have H_txs := fzd.hs H_txs (by decide)
  have H_ch := fzd.hs H_ch (by decide)
  have H_sx := fzd.hs H_sx (by decide)
  have H_th := fzd.hs H_th (by decide)
  have H_tl_ := fzd.hs H_tl_ (by decide)
  have H_an := fzd.hs H_an (by decide)
  obtain ⟨drowd, rowd, wd, ad, H_de, H_dw, H_da, H_dr, hdrowd, hLd1, hLd2, hdrnd, hRwd, hLd3⟩ := id hDd
  refine e_aloadn d_X10_changed_26 rfl ?_
  refine e_get d_X10_changed_27 f_X10_10 H_mc rfl ?_
  refine e_get d_X10_changed_30 f_X10_117 H_ch rfl ?_
  refine e_aloadn d_X10_changed_33 rfl ?_
  refine e_get d_X10_changed_34 f_X10_10 H_mc rfl ?_
  refine e_get d_X10_changed_37 f_X10_213 H_ch rfl ?_
  refine e_ixor d_X10_changed_40 ?_
  refine e_iconst (v := 4) d_X10_changed_41 (by decide) ?_
  rw [nI_xor]
  refine e_callSI d_X10_changed_42 l_X10_changed_216 (s_X10_lowestFew (xor_14 hS1 hco1)) rfl rfl (Nat.le_of_ble_eq_true rfl) ?_
  generalize hTT : (fw (S0 ^^^ co9) 14) = TT
  have hT14 : TT < 16384 := by rw [← hTT]; exact bs_14 _ (Nat.le_refl _)
  have hT4 : pc TT 14 ≤ 4 := by rw [← hTT, pc_fw _ 14 14 (Nat.le_refl _)]; exact Nat.min_le_left _ _
  have G_mc := H_mc
  have G_ch := H_ch
  have G_de := H_de
  have G_th := H_th
  have G_tl_ := H_tl_
  have G_an := H_an
  have gDk := hDk
  have gDD := hDD
  refine e_istore d_X10_changed_45 (by decide) rfl ?_
  refine e_iconst (v := 1) d_X10_changed_47 (by decide) ?_
  refine e_iload d_X10_changed_48 rfl ?_
  refine e_callSI d_X10_changed_50 l_X10_changed_198 (s_J6_bitCount_0f7a4) rfl rfl (Nat.le_of_ble_eq_true rfl) ?_
  rw [bitC_pc hT14]
  refine e_ishl d_X10_changed_53 ?_
  rw [pw14 _ (by omega)]
  have hpp := Nat.two_pow_pos (pc TT 14)
  have hp16 : 2 ^ pc TT 14 ≤ 16 := (show 2 ^ pc TT 14 ≤ 2 ^ 4 from Nat.pow_le_pow_right (by decide) hT4)
  refine e_istore d_X10_changed_54 (by decide) rfl ?_
  refine e_iconst (v := -1) d_X10_changed_56 (by decide) ?_
  refine e_istore d_X10_changed_57 (by decide) rfl ?_
  refine e_iconst (v := 0) d_X10_changed_59 (by decide) ?_
  refine e_istore d_X10_changed_60 (by decide) rfl ?_
  refine e_iconst (v := 0) d_X10_changed_62 (by decide) ?_
  refine e_istore d_X10_changed_63 (by decide) rfl ?_
  have hA_65 : ∀ i, i ≤ (2 ^ pc TT 14) → ∀ (k : AH) (F : Unit) (A : Unit) (b : Int32) (s : Int32) (y : Int32), (Fr [31, 32, 33, 34] h_d k) → (TaOK k) → (b = chA mo (fun s => farC ans less (2 ^ N - 1) (dlF (DLs ca N nc kd cd many near)) T (S0 ^^^ s) (DLs ca N nc kd cd many near).length) (chS TT i 0)) → (s = nI (itS TT i)) → (y = nI i) → E M_X10_changed (0, 0) (rI (fun x h' => x = chA mo (fun s => farC ans less (2 ^ N - 1) (dlF (DLs ca N nc kd cd many near)) T (S0 ^^^ s) (DLs ca N nc kd cd many near).length) (chS TT (2 ^ pc TT 14) 0) ∧ TaOK h' ∧ Dd FSl h h' tp (if dtext = nI tp then drn else max drn (2 ^ N)) (DLs ca N nc kd cd many near))) 65 (k) [some (.ref 0), some (.int (nI tp)), some (.int (nI T)), some (.int (bI (mo = true))), some (.int (nI TT)), some (.int (nI (2 ^ pc TT 14))), some (.int b), some (.int s), some (.int y), none] [] := by
    refine loop_ind (n := (2 ^ pc TT 14)) ?_
    intro i hi_i ih_65 k F A b s y h_F h_A h_b h_s h_y
    subst h_y
    subst h_s
    have H_mc := h_F.hs G_mc (by decide)
    have H_ch := h_F.hs G_ch (by decide)
    have H_de := h_F.hs G_de (by decide)
    have H_th := h_F.hs G_th (by decide)
    have H_tl_ := h_F.hs G_tl_ (by decide)
    have H_an := h_F.hs G_an (by decide)
    have hTa := h_A
    have hDk := DeOK.fr gDk h_F (by decide)
    have hDD := gDD.fr h_F (by decide)
    have his := itS_le (T := TT) i
    refine e_iload d_X10_changed_65 rfl ?_
    refine e_iload d_X10_changed_67 rfl ?_
    refine e_icmp_ge d_X10_changed_69 (fun c => ?_) (fun c => ?_)
    · have c := i_le (by omega) (by omega) c
      have ei : i = 2 ^ pc TT 14 := by omega
      refine e_iload d_X10_changed_149 rfl ?_
      exact e_iret d_X10_changed_151 rfl (rfl) (⟨_, rfl, by rw [h_b, ei], h_A, hDD⟩)
    · have c := i_nle (by omega) (by omega) c
      refine e_aloadn d_X10_changed_72 rfl ?_
      refine e_iloadn d_X10_changed_73 rfl ?_
      refine e_aloadn d_X10_changed_74 rfl ?_
      refine e_get d_X10_changed_75 f_X10_10 H_mc rfl ?_
      refine e_callVI d_X10_changed_78 l_X10_changed_134 H_ch rfl rfl (s_X0_all2 H_ch ) rfl rfl (Nat.le_of_ble_eq_true rfl) ?_
      rw [al_14 N hN]
      refine e_aloadn d_X10_changed_81 rfl ?_
      refine e_get d_X10_changed_82 f_X10_10 H_mc rfl ?_
      refine e_get d_X10_changed_85 f_X10_117 H_ch rfl ?_
      refine e_iload d_X10_changed_88 rfl ?_
      refine e_ixor d_X10_changed_90 ?_
      rw [nI_xor]
      refine e_callRVI d_X10_changed_91 l_X10_changed_185 H_mc rfl rfl (s_X10_asFar (T := T) (A := 2 ^ N - 1) (S0 := S0 ^^^ itS TT i) H_mc H_th H_tl_ H_an hTa hDk hTn hn (xor_14 hS1 (by omega)) (by omega) (hV _ (by omega))) rfl rfl (Nat.le_of_ble_eq_true rfl) (fun x_91 h_91 q_91 s_91 => ?_)
      obtain ⟨rfl, hTa_91, fr_91⟩ := q_91
      have H_mc := fr_91.hs H_mc (by first | decide | (simp; omega))
      have H_ch := fr_91.hs H_ch (by first | decide | (simp; omega))
      have H_de := fr_91.hs H_de (by first | decide | (simp; omega))
      have H_th := fr_91.hs H_th (by first | decide | (simp; omega))
      have H_tl_ := fr_91.hs H_tl_ (by first | decide | (simp; omega))
      have H_an := fr_91.hs H_an (by first | decide | (simp; omega))
      have H_DE := DeOK.fr hDk fr_91 (by decide)
      have hDD := hDD.fr fr_91 (by decide)
      refine e_istore d_X10_changed_94 (by decide) rfl ?_
      refine e_iload d_X10_changed_96 rfl ?_
      refine e_iconst (v := -1) d_X10_changed_98 (by decide) ?_
      refine e_icmp_eq d_X10_changed_99 (fun c_99 => ?_) (fun c_99 => ?_)
      · refine e_iload d_X10_changed_133 rfl ?_
        refine e_iload d_X10_changed_135 rfl ?_
        refine e_isub d_X10_changed_137 ?_
        refine e_iload d_X10_changed_138 rfl ?_
        refine e_iand d_X10_changed_140 ?_
        refine e_istore d_X10_changed_141 (by decide) rfl ?_
        refine e_iincw (w := 1) d_X10_changed_143 rfl (by decide) (by decide) rfl ?_
        refine e_gt d_X10_changed_146 ?_
        refine e_drop1 9 ?_
        refine ih_65 (i + 1) (by omega) (by omega) _ () () _ _ _ ?_ ?_ ?_ ?_ ?_
        · exact h_F.trans fr_91
        · exact hTa_91
        · rw [chA_succ, ← h_b]
          first
          | exact upd_f1 mo c_99
          | exact upd_t mo c_99 (Or.inl c_105)
          | exact upd_m c_99 c_105 hm (Or.inl ⟨hg0, rfl⟩)
          | exact upd_m c_99 c_105 hm (Or.inr ⟨hg0, rfl⟩)
          | exact upd_n c_99 c_105 hm (Or.inl ⟨hg0, rfl⟩)
          | exact upd_n c_99 c_105 hm (Or.inr ⟨hg0, rfl⟩)
        · rw [nI_nx his hT14]; rfl
        · exact nI_1 i
      · refine e_iload d_X10_changed_102 rfl ?_
        refine e_iconst (v := -1) d_X10_changed_104 (by decide) ?_
        refine e_icmp_eq d_X10_changed_105 (fun c_105 => ?_) (fun c_105 => ?_)
        · refine e_iload d_X10_changed_129 rfl ?_
          refine e_istore d_X10_changed_131 (by decide) rfl ?_
          refine e_iload d_X10_changed_133 rfl ?_
          refine e_iload d_X10_changed_135 rfl ?_
          refine e_isub d_X10_changed_137 ?_
          refine e_iload d_X10_changed_138 rfl ?_
          refine e_iand d_X10_changed_140 ?_
          refine e_istore d_X10_changed_141 (by decide) rfl ?_
          refine e_iincw (w := 1) d_X10_changed_143 rfl (by decide) (by decide) rfl ?_
          refine e_gt d_X10_changed_146 ?_
          refine e_drop1 9 ?_
          refine ih_65 (i + 1) (by omega) (by omega) _ () () _ _ _ ?_ ?_ ?_ ?_ ?_
          · exact h_F.trans fr_91
          · exact hTa_91
          · rw [chA_succ, ← h_b]
            first
            | exact upd_f1 mo c_99
            | exact upd_t mo c_99 (Or.inl c_105)
            | exact upd_m c_99 c_105 hm (Or.inl ⟨hg0, rfl⟩)
            | exact upd_m c_99 c_105 hm (Or.inr ⟨hg0, rfl⟩)
            | exact upd_n c_99 c_105 hm (Or.inl ⟨hg0, rfl⟩)
            | exact upd_n c_99 c_105 hm (Or.inr ⟨hg0, rfl⟩)
          · rw [nI_nx his hT14]; rfl
          · exact nI_1 i
        · refine e_iloadn d_X10_changed_108 rfl ?_
          refine e_if_eq d_X10_changed_109 (fun c_109 => ?_) (fun c_109 => ?_)
          · have hm : ¬ mo = true := bI_0.mp c_109
            refine e_iload d_X10_changed_122 rfl ?_
            refine e_iload d_X10_changed_124 rfl ?_
            refine e_icmp_ge d_X10_changed_126 (fun hg0 => ?_) (fun hg0 => ?_)
            · refine e_iload d_X10_changed_133 rfl ?_
              refine e_iload d_X10_changed_135 rfl ?_
              refine e_isub d_X10_changed_137 ?_
              refine e_iload d_X10_changed_138 rfl ?_
              refine e_iand d_X10_changed_140 ?_
              refine e_istore d_X10_changed_141 (by decide) rfl ?_
              refine e_iincw (w := 1) d_X10_changed_143 rfl (by decide) (by decide) rfl ?_
              refine e_gt d_X10_changed_146 ?_
              refine e_drop1 9 ?_
              refine ih_65 (i + 1) (by omega) (by omega) _ () () _ _ _ ?_ ?_ ?_ ?_ ?_
              · exact h_F.trans fr_91
              · exact hTa_91
              · rw [chA_succ, ← h_b]
                first
                | exact upd_f1 mo c_99
                | exact upd_t mo c_99 (Or.inl c_105)
                | exact upd_m c_99 c_105 hm (Or.inl ⟨hg0, rfl⟩)
                | exact upd_m c_99 c_105 hm (Or.inr ⟨hg0, rfl⟩)
                | exact upd_n c_99 c_105 hm (Or.inl ⟨hg0, rfl⟩)
                | exact upd_n c_99 c_105 hm (Or.inr ⟨hg0, rfl⟩)
              · rw [nI_nx his hT14]; rfl
              · exact nI_1 i
            · refine e_iload d_X10_changed_129 rfl ?_
              refine e_istore d_X10_changed_131 (by decide) rfl ?_
              refine e_iload d_X10_changed_133 rfl ?_
              refine e_iload d_X10_changed_135 rfl ?_
              refine e_isub d_X10_changed_137 ?_
              refine e_iload d_X10_changed_138 rfl ?_
              refine e_iand d_X10_changed_140 ?_
              refine e_istore d_X10_changed_141 (by decide) rfl ?_
              refine e_iincw (w := 1) d_X10_changed_143 rfl (by decide) (by decide) rfl ?_
              refine e_gt d_X10_changed_146 ?_
              refine e_drop1 9 ?_
              refine ih_65 (i + 1) (by omega) (by omega) _ () () _ _ _ ?_ ?_ ?_ ?_ ?_
              · exact h_F.trans fr_91
              · exact hTa_91
              · rw [chA_succ, ← h_b]
                first
                | exact upd_f1 mo c_99
                | exact upd_t mo c_99 (Or.inl c_105)
                | exact upd_m c_99 c_105 hm (Or.inl ⟨hg0, rfl⟩)
                | exact upd_m c_99 c_105 hm (Or.inr ⟨hg0, rfl⟩)
                | exact upd_n c_99 c_105 hm (Or.inl ⟨hg0, rfl⟩)
                | exact upd_n c_99 c_105 hm (Or.inr ⟨hg0, rfl⟩)
              · rw [nI_nx his hT14]; rfl
              · exact nI_1 i
          · have hm : mo = true := bI_1.mp (bI_z.resolve_left c_109)
            refine e_iload d_X10_changed_112 rfl ?_
            refine e_iload d_X10_changed_114 rfl ?_
            refine e_icmp_le d_X10_changed_116 (fun hg0 => ?_) (fun hg0 => ?_)
            · refine e_iload d_X10_changed_133 rfl ?_
              refine e_iload d_X10_changed_135 rfl ?_
              refine e_isub d_X10_changed_137 ?_
              refine e_iload d_X10_changed_138 rfl ?_
              refine e_iand d_X10_changed_140 ?_
              refine e_istore d_X10_changed_141 (by decide) rfl ?_
              refine e_iincw (w := 1) d_X10_changed_143 rfl (by decide) (by decide) rfl ?_
              refine e_gt d_X10_changed_146 ?_
              refine e_drop1 9 ?_
              refine ih_65 (i + 1) (by omega) (by omega) _ () () _ _ _ ?_ ?_ ?_ ?_ ?_
              · exact h_F.trans fr_91
              · exact hTa_91
              · rw [chA_succ, ← h_b]
                first
                | exact upd_f1 mo c_99
                | exact upd_t mo c_99 (Or.inl c_105)
                | exact upd_m c_99 c_105 hm (Or.inl ⟨hg0, rfl⟩)
                | exact upd_m c_99 c_105 hm (Or.inr ⟨hg0, rfl⟩)
                | exact upd_n c_99 c_105 hm (Or.inl ⟨hg0, rfl⟩)
                | exact upd_n c_99 c_105 hm (Or.inr ⟨hg0, rfl⟩)
              · rw [nI_nx his hT14]; rfl
              · exact nI_1 i
            · refine e_gt d_X10_changed_119 ?_
              refine e_iload d_X10_changed_129 rfl ?_
              refine e_istore d_X10_changed_131 (by decide) rfl ?_
              refine e_iload d_X10_changed_133 rfl ?_
              refine e_iload d_X10_changed_135 rfl ?_
              refine e_isub d_X10_changed_137 ?_
              refine e_iload d_X10_changed_138 rfl ?_
              refine e_iand d_X10_changed_140 ?_
              refine e_istore d_X10_changed_141 (by decide) rfl ?_
              refine e_iincw (w := 1) d_X10_changed_143 rfl (by decide) (by decide) rfl ?_
              refine e_gt d_X10_changed_146 ?_
              refine e_drop1 9 ?_
              refine ih_65 (i + 1) (by omega) (by omega) _ () () _ _ _ ?_ ?_ ?_ ?_ ?_
              · exact h_F.trans fr_91
              · exact hTa_91
              · rw [chA_succ, ← h_b]
                first
                | exact upd_f1 mo c_99
                | exact upd_t mo c_99 (Or.inl c_105)
                | exact upd_m c_99 c_105 hm (Or.inl ⟨hg0, rfl⟩)
                | exact upd_m c_99 c_105 hm (Or.inr ⟨hg0, rfl⟩)
                | exact upd_n c_99 c_105 hm (Or.inl ⟨hg0, rfl⟩)
                | exact upd_n c_99 c_105 hm (Or.inr ⟨hg0, rfl⟩)
              · rw [nI_nx his hT14]; rfl
              · exact nI_1 i
  exact hA_65 0 (by omega) _ () () _ _ _ (Fr.refl _ _) (hTa) (rfl) (rfl) (rfl)

theorem lf_bt {K : Nat → Int32} {L : Nat} : ∀ (i : Nat) {j : Nat}, bt (lfA K L i) j = true → bt L j = true
  | 0, j, h => h
  | i + 1, j, h => by
    rw [lfA] at h
    split at h
    · exact lf_bt i h
    · rw [bt_sd, Bool.and_eq_true] at h
      exact lf_bt i h.1
theorem s_X10_course {h : AH} {κ : Nat × Nat} {tp nc : Nat} {kd : Nat → Nat} {cd : Nat → List Nat} {many near : Int32} {nms : Nat → Int32} {N : Nat} {ca : Nat → Nat → Nat} {co : Int32} {S0 tcn : Nat} {tl lf lp cost dtext : Int32} {texts : Nat → Option Nat} {drn : Nat} {L0 : List Nat} {kk t w : Int32} {kinds ages : Nat → Int32} {n : Nat} {less ans : Nat → Int32} (H_mc : Hs h 0 (oMC (nI tcn) tl lf lp cost)) (H_txs : Hs h 20 (aT 6 texts)) (htx : ∀ t, t < 6 → texts t = some (42 + 4 * t)) (hC : ChC h N ca co (nI S0)) (hT : TxC h tp nc kd cd many near) (hJ : JuC h nms) (hok : okT nc kd cd) (hD : DeX h dtext drn L0) (hL0 : dtext = nI tp → L0 = (DLs ca N nc kd cd many near)) (htp : tp < tcn) (htc : tcn ≤ 6) (hsz : 92 < h.2.1) (hS0 : S0 < 2 ^ N) (hκ : ¬ dtext = nI tp → drn < 2 ^ N → 1 ≤ κ.1 ∧ 2 ^ N ≤ κ.2) (H_th : Hs h 6 (oTh (nI n))) (H_tl_ : Hs h 9 (aZ 12 less)) (H_an : Hs h 11 (aI 168 ans)) (hn : n ≤ 12) (hV : ∀ t, t < 12 → ∀ c, c < 14 → ans (t * 14 + c) = -1 ∨ ∃ v, v ≤ 99 ∧ ans (t * 14 + c) = nI v) (H_tk : Hs h 7 (aI 12 kinds)) (H_tg : Hs h 8 (aI 12 ages)) (hTa : TaOK h) (hk3 : 0 ≤ kk ∧ kk ≤ 3) (ht1 : 1 ≤ t ∧ t ≤ 1000) (hw2 : 0 ≤ w ∧ w ≤ 2) : Sp M_X10_course κ h [.ref 0, .int (nI tp), .int kk, .int t, .int w] (rI (fun x h' => x = coA (bs (coP ages (bs (fun c => decide (kinds c = kk)) n) (fun T => stC (farC ans less (2 ^ N - 1) (dlF (DLs ca N nc kd cd many near)) T S0 (DLs ca N nc kd cd many near).length) t (DLs ca N nc kd cd many near).length)) (pc (bs (fun c => decide (kinds c = kk)) n) 14)) (pc (bs (fun c => decide (kinds c = kk)) n) 14) w ∧ TaOK h' ∧ Dd FSl h h' tp (if dtext = nI tp then drn else max drn (2 ^ N)) (DLs ca N nc kd cd many near))) := by
  refine ⟨Nat.le_of_ble_eq_true rfl, ?_⟩
  show E _ _ _ 0 h [some (.ref 0), some (.int (nI tp)), some (.int kk), some (.int t), some (.int w), none, none, none, none, none] []
  have hC9 := hC
  obtain ⟨hN, hca, sexes, wits, homes, works, H_ch, H_sx, H_wt, H_hm, H_wk, hc4⟩ := hC9
  have hS1 : S0 < 16384 := Nat.lt_of_lt_of_le hS0 (pw_31 N hN)
  have hA2 : 2 ^ N - 1 < 2 ^ 31 := by have := Nat.pow_le_pow_right (n := 2) (by decide) hN; omega
  obtain ⟨drow, row0, w0, a0, H_de, -⟩ := id hD
  refine e_aloadn d_X10_course_0 rfl ?_
  refine e_iloadn d_X10_course_1 rfl ?_
  refine e_callVI d_X10_course_2 l_X10_course_172 H_mc rfl rfl (s_X10_isText H_mc) rfl rfl (Nat.le_of_ble_eq_true rfl) ?_
  refine e_if_eq d_X10_course_5 (fun z => by first | exact absurd (fun z => bI_0.mp z ⟨(nI_leI (a := 0) (by decide) (by omega)).mpr (by omega), (nI_ltI (by omega) (by omega)).mpr (by omega)⟩) z | exact absurd z (fun z => bI_0.mp z ⟨(nI_leI (a := 0) (by decide) (by omega)).mpr (by omega), (nI_ltI (by omega) (by omega)).mpr (by omega)⟩)) (fun _ => ?_)
  refine e_iloadn d_X10_course_8 rfl ?_
  refine e_iconst (v := 3) d_X10_course_9 (by decide) ?_
  refine e_callSI d_X10_course_10 l_X10_course_99 (s_X10_within) rfl rfl (Nat.le_of_ble_eq_true rfl) ?_
  refine e_if_eq d_X10_course_13 (fun z => by first | exact absurd (fun z => bI_0.mp z hk3) z | exact absurd z (fun z => bI_0.mp z hk3)) (fun _ => ?_)
  refine e_iloadn d_X10_course_16 rfl ?_
  refine e_callSI d_X10_course_17 l_X10_course_182 (s_X10_isT) rfl rfl (Nat.le_of_ble_eq_true rfl) ?_
  refine e_if_eq d_X10_course_20 (fun z => by first | exact absurd (fun z => bI_0.mp z ht1) z | exact absurd z (fun z => bI_0.mp z ht1)) (fun _ => ?_)
  refine e_iload d_X10_course_23 rfl ?_
  refine e_iconst (v := 2) d_X10_course_25 (by decide) ?_
  refine e_callSI d_X10_course_26 l_X10_course_99 (s_X10_within) rfl rfl (Nat.le_of_ble_eq_true rfl) ?_
  refine e_if_ne d_X10_course_29 (fun _ => ?_) (fun z => by first | exact absurd (fun z => bI_0.mp z hw2) z | exact absurd z (fun z => bI_0.mp z hw2))
  refine e_aloadn d_X10_course_34 rfl ?_
  refine e_iloadn d_X10_course_35 rfl ?_
  refine e_callKVV d_X10_course_36 l_X10_course_175 H_mc rfl rfl (s_X10_deal H_mc H_txs htx hC hT hJ hok hD hL0 (by omega) hsz hκ) rfl rfl (Nat.le_of_ble_eq_true rfl) (fun h_d q_d s_d => ?_)
  obtain ⟨hJd, hDd, fzd⟩ := q_d
  have hDD : Dd FSl h h_d tp _ _ := ⟨hJd, hDd, fzd.mono (by decide)⟩
  have hDk := hDd.ok
  have hC := ChC.fz hC fzd (by decide)
  have hTa := TaOK.fz hTa fzd (by decide)
  have H_mc := fzd.hs H_mc (by decide)
  have H_txs := fzd.hs H_txs (by decide)
  have H_ch := fzd.hs H_ch (by decide)
  have H_sx := fzd.hs H_sx (by decide)
  have H_th := fzd.hs H_th (by decide)
  have H_tl_ := fzd.hs H_tl_ (by decide)
  have H_an := fzd.hs H_an (by decide)
  have H_tk := fzd.hs H_tk (by decide)
  have H_tg := fzd.hs H_tg (by decide)
  obtain ⟨drowd, rowd, wd, ad, H_de, H_dw, H_da, H_dr, hdrowd, hLd1, hLd2, hdrnd, hRwd, hLd3⟩ := id hDd
  refine e_iconst (v := 0) d_X10_course_39 (by decide) ?_
  refine e_istore d_X10_course_40 (by decide) rfl ?_
  refine e_aloadn d_X10_course_42 rfl ?_
  refine e_get d_X10_course_43 f_X10_19 H_mc rfl ?_
  refine e_iloadn d_X10_course_46 rfl ?_
  refine e_callVI d_X10_course_47 l_X10_course_228 H_th rfl rfl (s_X9_ofKind H_th H_tk hn) rfl rfl (Nat.le_of_ble_eq_true rfl) ?_
  generalize hW : (bs (fun c => decide (kinds c = kk)) n) = W
  have hW12 : W < 4096 := by rw [← hW]; exact bs_12 _ hn
  have hWb : ∀ j, bt W j = true → j < n := fun j hj => by
    rw [← hW, bt_bs, Bool.and_eq_true, decide_eq_true_eq] at hj
    exact hj.1
  have hpcW : pc W 14 ≤ 12 := pc_14N (N := 12) hW12 (by decide)
  have G_mc := H_mc
  have G_ch := H_ch
  have G_de := H_de
  have G_tg := H_tg
  have G_th := H_th
  have G_tl_ := H_tl_
  have G_an := H_an
  have gDk := hDk
  have gDD := hDD
  refine e_istore d_X10_course_50 (by decide) rfl ?_
  refine e_iload d_X10_course_52 rfl ?_
  refine e_callSI d_X10_course_54 l_X10_course_198 (s_J6_bitCount_0f7a4) rfl rfl (Nat.le_of_ble_eq_true rfl) ?_
  rw [bitC_pc (by omega)]
  refine e_istore d_X10_course_57 (by decide) rfl ?_
  refine e_iconst (v := 0) d_X10_course_59 (by decide) ?_
  refine e_istore d_X10_course_60 (by decide) rfl ?_
  have hA_62 : ∀ i, i ≤ (pc W 14) → ∀ (k : AH) (F : Unit) (A : Unit) (b : Int32) (l : Int32) (y : Int32), (Fr [31, 32, 33, 34] h_d k) → (TaOK k) → (b = nI (bs (coP ages W (fun T => stC (farC ans less (2 ^ N - 1) (dlF (DLs ca N nc kd cd many near)) T S0 (DLs ca N nc kd cd many near).length) t (DLs ca N nc kd cd many near).length)) i)) → (l = nI (lfA ages W i)) → (y = nI i) → E M_X10_course (0, 0) (rI (fun x h' => x = coA (bs (coP ages W (fun T => stC (farC ans less (2 ^ N - 1) (dlF (DLs ca N nc kd cd many near)) T S0 (DLs ca N nc kd cd many near).length) t (DLs ca N nc kd cd many near).length)) (pc W 14)) (pc W 14) w ∧ TaOK h' ∧ Dd FSl h h' tp (if dtext = nI tp then drn else max drn (2 ^ N)) (DLs ca N nc kd cd many near))) 62 (k) [some (.ref 0), some (.int (nI tp)), some (.int kk), some (.int t), some (.int w), some (.int b), some (.int l), some (.int (nI (pc W 14))), some (.int y), none] [] := by
    refine loop_ind (n := (pc W 14)) ?_
    intro i hi_i ih_62 k F A b l y h_F h_A h_b h_l h_y
    subst h_y
    subst h_l
    have H_mc := h_F.hs G_mc (by decide)
    have H_ch := h_F.hs G_ch (by decide)
    have H_de := h_F.hs G_de (by decide)
    have H_tg := h_F.hs G_tg (by decide)
    have H_th := h_F.hs G_th (by decide)
    have H_tl_ := h_F.hs G_tl_ (by decide)
    have H_an := h_F.hs G_an (by decide)
    have hTa := h_A
    have hDk := DeOK.fr gDk h_F (by decide)
    have hDD := gDD.fr h_F (by decide)
    have hlf := lfA_le (K := ages) (L := W) i
    refine e_iload d_X10_course_62 rfl ?_
    refine e_iload d_X10_course_64 rfl ?_
    refine e_icmp_ge d_X10_course_66 (fun c => ?_) (fun c => ?_)
    · have c := i_le (by omega) (by omega) c
      have ei : i = pc W 14 := by omega
      rw [ei] at h_b
      have hB12 := bs_12 (coP ages W (fun T => stC (farC ans less (2 ^ N - 1) (dlF (DLs ca N nc kd cd many near)) T S0 (DLs ca N nc kd cd many near).length) t (DLs ca N nc kd cd many near).length)) hpcW
      subst h_b
      refine e_iload d_X10_course_154 rfl ?_
      refine e_if_ne d_X10_course_156 (fun c_156 => ?_) (fun c_156 => ?_)
      · refine e_iload d_X10_course_162 rfl ?_
        refine e_iconst (v := -1) d_X10_course_164 (by decide) ?_
        refine e_ixor d_X10_course_165 ?_
        refine e_iload d_X10_course_166 rfl ?_
        refine e_callSI d_X10_course_168 l_X10_course_210 (s_X10_lowest (by omega)) rfl rfl (Nat.le_of_ble_eq_true rfl) ?_
        refine e_iload d_X10_course_171 rfl ?_
        refine e_callSI d_X10_course_173 l_X10_course_234 (s_X10_firstBehind (P := fun i => !bt (bs (coP ages W (fun T => stC (farC ans less (2 ^ N - 1) (dlF (DLs ca N nc kd cd many near)) T S0 (DLs ca N nc kd cd many near).length) t (DLs ca N nc kd cd many near).length)) (pc W 14)) i) (p := lowO (bs (coP ages W (fun T => stC (farC ans less (2 ^ N - 1) (dlF (DLs ca N nc kd cd many near)) T S0 (DLs ca N nc kd cd many near).length) t (DLs ca N nc kd cd many near).length)) (pc W 14))) rfl (fun q hq => by have := lowO_lt (by omega) hq; omega) (by omega) (fun i hi => not_bit hB12 (by omega))) rfl rfl (Nat.le_of_ble_eq_true rfl) ?_
        refine e_istore d_X10_course_176 (by decide) rfl ?_
        refine e_iload d_X10_course_178 rfl ?_
        refine e_iconst (v := 1) d_X10_course_180 (by decide) ?_
        refine e_icmp_ne d_X10_course_181 (fun c_181 => ?_) (fun c_181 => ?_)
        · refine e_iload d_X10_course_189 rfl ?_
          refine e_iload d_X10_course_191 rfl ?_
          refine e_iload d_X10_course_193 rfl ?_
          refine e_callSI d_X10_course_195 l_X10_course_234 (s_X10_firstBehind (P := fun i => bt (bs (coP ages W (fun T => stC (farC ans less (2 ^ N - 1) (dlF (DLs ca N nc kd cd many near)) T S0 (DLs ca N nc kd cd many near).length) t (DLs ca N nc kd cd many near).length)) (pc W 14)) i) (p := fBeh (fun i => !bt (bs (coP ages W (fun T => stC (farC ans less (2 ^ N - 1) (dlF (DLs ca N nc kd cd many near)) T S0 (DLs ca N nc kd cd many near).length) t (DLs ca N nc kd cd many near).length)) (pc W 14)) i) (lowO (bs (coP ages W (fun T => stC (farC ans less (2 ^ N - 1) (dlF (DLs ca N nc kd cd many near)) T S0 (DLs ca N nc kd cd many near).length) t (DLs ca N nc kd cd many near).length)) (pc W 14))) (pc W 14)) rfl (fun q hq => by have := fBeh_lt hq; omega) (by omega) (fun i hi => bit1 (by omega) (by omega))) rfl rfl (Nat.le_of_ble_eq_true rfl) ?_
          exact e_iret d_X10_course_198 rfl (rfl) (⟨_, rfl, by first | (rw [coA, if_neg c_156, if_pos (by first | exact c_181 | exact Decidable.of_not_not c_181)]; done) | (rw [coA, if_neg c_156, if_neg c_181]; done), h_A, hDD⟩)
        · refine e_iload d_X10_course_184 rfl ?_
          refine e_gt d_X10_course_186 ?_
          exact e_iret d_X10_course_198 rfl (rfl) (⟨_, rfl, by first | (rw [coA, if_neg c_156, if_pos (by first | exact c_181 | exact Decidable.of_not_not c_181)]; done) | (rw [coA, if_neg c_156, if_neg c_181]; done), h_A, hDD⟩)
      · refine e_iload d_X10_course_159 rfl ?_
        exact e_iret d_X10_course_161 rfl (rfl) (⟨_, rfl, by rw [coA, if_pos (by first | exact c_156 | exact Decidable.of_not_not c_156)], h_A, hDD⟩)
    · have c := i_nle (by omega) (by omega) c
      refine e_aloadn d_X10_course_69 rfl ?_
      refine e_get d_X10_course_70 f_X10_19 H_mc rfl ?_
      refine e_get d_X10_course_73 f_X10_231 H_th rfl ?_
      refine e_iload d_X10_course_76 rfl ?_
      refine e_callSI d_X10_course_78 l_X10_course_203 (s_X10_leastOf H_tg (by omega)) rfl rfl (Nat.le_of_ble_eq_true rfl) ?_
      refine e_istore d_X10_course_81 (by decide) rfl ?_
      by_cases hno : lOf ages (lfA ages W i) 12 = none
      · refine e_iload d_X10_course_83 rfl ?_
        refine e_iconst (v := -1) d_X10_course_85 (by decide) ?_
        have hlo := hno
        have c86 : oI (lOf ages (lfA ages W i) 12) = -1 := by rw [hno]; rfl
        have hP : (coP ages W (fun T => stC (farC ans less (2 ^ N - 1) (dlF (DLs ca N nc kd cd many near)) T S0 (DLs ca N nc kd cd many near).length) t (DLs ca N nc kd cd many near).length)) i = false := by rw [coP, hlo]
        refine e_icmp_eq d_X10_course_86 (fun _ => ?_) (fun z => by first | exact absurd (c86) z | exact absurd z (c86))
        refine e_iload d_X10_course_126 rfl ?_
        refine e_iload d_X10_course_128 rfl ?_
        refine e_iconst (v := -1) d_X10_course_130 (by decide) ?_
        refine e_icmp_ne d_X10_course_131 (fun z => by first | exact absurd (fun z => z c86) z | exact absurd z (fun z => z c86)) (fun _ => ?_)
        refine e_iload d_X10_course_134 rfl ?_
        refine e_gt d_X10_course_136 ?_
        refine e_iand d_X10_course_145 ?_
        rw [show nI (lfA ages W i) &&& nI (lfA ages W i) = nI (lfA ages W i) by rw [nI_and, Nat.and_self]]
        refine e_istore d_X10_course_146 (by decide) rfl ?_
        refine e_iincw (w := 1) d_X10_course_148 rfl (by decide) (by decide) rfl ?_
        refine e_gt d_X10_course_151 ?_
        refine e_drop1 9 ?_
        refine ih_62 (i + 1) (by omega) (by omega) _ () () _ _ _ ?_ ?_ ?_ ?_ ?_
        · first
          | exact h_F.trans fr_107
          | exact h_F
        · first
          | exact hTa_107
          | exact h_A
        · rw [h_b, bs]
          first
          | (rw [if_pos hP, nI_or]; done)
          | (rw [if_neg (by rw [hP]; decide), Nat.or_zero]; done)
        · rw [lfA, hlo]
        · exact nI_1 i
      · obtain ⟨r, hlo⟩ : ∃ r, lOf ages (lfA ages W i) 12 = some r := by
          cases e9 : lOf ages (lfA ages W i) 12 with
          | none => exact absurd e9 hno
          | some r => exact ⟨r, rfl⟩
        have hr12 := lOf_lt 12 r hlo
        have hrb := lOf_bt 12 r hlo
        have hrn : r < n := hWb r (lf_bt i hrb)
        rw [hlo, show oI (some r) = nI r from rfl]
        refine e_iload d_X10_course_83 rfl ?_
        refine e_iconst (v := -1) d_X10_course_85 (by decide) ?_
        refine e_icmp_eq d_X10_course_86 (fun z => by first | exact absurd (nI_neg1 (by omega)) z | exact absurd z (nI_neg1 (by omega))) (fun _ => ?_)
        refine e_aloadn d_X10_course_89 rfl ?_
        refine e_aloadn d_X10_course_90 rfl ?_
        refine e_iload d_X10_course_91 rfl ?_
        refine e_aloadn d_X10_course_93 rfl ?_
        refine e_get d_X10_course_94 f_X10_10 H_mc rfl ?_
        refine e_callVI d_X10_course_97 l_X10_course_134 H_ch rfl rfl (s_X0_all2 H_ch ) rfl rfl (Nat.le_of_ble_eq_true rfl) ?_
        rw [al_14 N hN]
        refine e_aloadn d_X10_course_100 rfl ?_
        refine e_get d_X10_course_101 f_X10_10 H_mc rfl ?_
        refine e_get d_X10_course_104 f_X10_117 H_ch rfl ?_
        refine e_callRVI d_X10_course_107 l_X10_course_185 H_mc rfl rfl (s_X10_asFar (T := r) (A := 2 ^ N - 1) H_mc H_th H_tl_ H_an hTa hDk hrn hn hS1 (by omega) (hV _ (by omega))) rfl rfl (Nat.le_of_ble_eq_true rfl) (fun x_107 h_107 q_107 s_107 => ?_)
        obtain ⟨rfl, hTa_107, fr_107⟩ := q_107
        have H_mc := fr_107.hs H_mc (by first | decide | (simp; omega))
        have H_ch := fr_107.hs H_ch (by first | decide | (simp; omega))
        have H_de := fr_107.hs H_de (by first | decide | (simp; omega))
        have H_tg := fr_107.hs H_tg (by first | decide | (simp; omega))
        have H_th := fr_107.hs H_th (by first | decide | (simp; omega))
        have H_tl_ := fr_107.hs H_tl_ (by first | decide | (simp; omega))
        have H_an := fr_107.hs H_an (by first | decide | (simp; omega))
        have H_DE := DeOK.fr hDk fr_107 (by decide)
        have hDD := hDD.fr fr_107 (by decide)
        refine e_iloadn d_X10_course_110 rfl ?_
        refine e_callVI d_X10_course_111 l_X10_course_189 H_mc rfl rfl (s_X10_stands H_mc H_DE) rfl rfl (Nat.le_of_ble_eq_true rfl) ?_
        refine e_if_eq d_X10_course_114 (fun c_114 => ?_) (fun c_114 => ?_)
        · have hP : (coP ages W (fun T => stC (farC ans less (2 ^ N - 1) (dlF (DLs ca N nc kd cd many near)) T S0 (DLs ca N nc kd cd many near).length) t (DLs ca N nc kd cd many near).length)) i = false := by rw [coP, hlo]; exact Bool.eq_false_iff.mpr (bI_0.mp c_114)
          refine e_iload d_X10_course_126 rfl ?_
          refine e_iload d_X10_course_128 rfl ?_
          refine e_iconst (v := -1) d_X10_course_130 (by decide) ?_
          refine e_icmp_ne d_X10_course_131 (fun _ => ?_) (fun z => by first | exact absurd (nI_neg1 (by omega)) z | exact absurd z (nI_neg1 (by omega)))
          refine e_iconst (v := 1) d_X10_course_139 (by decide) ?_
          refine e_iload d_X10_course_140 rfl ?_
          refine e_ishl d_X10_course_142 ?_
          refine e_iconst (v := -1) d_X10_course_143 (by decide) ?_
          refine e_ixor d_X10_course_144 ?_
          rw [pw14 r (by omega)]
          refine e_iand d_X10_course_145 ?_
          rw [nI_sdx]
          refine e_istore d_X10_course_146 (by decide) rfl ?_
          refine e_iincw (w := 1) d_X10_course_148 rfl (by decide) (by decide) rfl ?_
          refine e_gt d_X10_course_151 ?_
          refine e_drop1 9 ?_
          refine ih_62 (i + 1) (by omega) (by omega) _ () () _ _ _ ?_ ?_ ?_ ?_ ?_
          · first
            | exact h_F.trans fr_107
            | exact h_F
          · first
            | exact hTa_107
            | exact h_A
          · rw [h_b, bs]
            first
            | (rw [if_pos hP, nI_or]; done)
            | (rw [if_neg (by rw [hP]; decide), Nat.or_zero]; done)
          · rw [lfA, hlo]
          · exact nI_1 i
        · have hP : (coP ages W (fun T => stC (farC ans less (2 ^ N - 1) (dlF (DLs ca N nc kd cd many near)) T S0 (DLs ca N nc kd cd many near).length) t (DLs ca N nc kd cd many near).length)) i = true := by rw [coP, hlo]; exact bI_1.mp (bI_z.resolve_left c_114)
          refine e_iload d_X10_course_117 rfl ?_
          refine e_iconst (v := 1) d_X10_course_119 (by decide) ?_
          refine e_iload d_X10_course_120 rfl ?_
          refine e_ishl d_X10_course_122 ?_
          rw [pw14 i (by omega)]
          refine e_ior d_X10_course_123 ?_
          refine e_istore d_X10_course_124 (by decide) rfl ?_
          refine e_iload d_X10_course_126 rfl ?_
          refine e_iload d_X10_course_128 rfl ?_
          refine e_iconst (v := -1) d_X10_course_130 (by decide) ?_
          refine e_icmp_ne d_X10_course_131 (fun _ => ?_) (fun z => by first | exact absurd (nI_neg1 (by omega)) z | exact absurd z (nI_neg1 (by omega)))
          refine e_iconst (v := 1) d_X10_course_139 (by decide) ?_
          refine e_iload d_X10_course_140 rfl ?_
          refine e_ishl d_X10_course_142 ?_
          refine e_iconst (v := -1) d_X10_course_143 (by decide) ?_
          refine e_ixor d_X10_course_144 ?_
          rw [pw14 r (by omega)]
          refine e_iand d_X10_course_145 ?_
          rw [nI_sdx]
          refine e_istore d_X10_course_146 (by decide) rfl ?_
          refine e_iincw (w := 1) d_X10_course_148 rfl (by decide) (by decide) rfl ?_
          refine e_gt d_X10_course_151 ?_
          refine e_drop1 9 ?_
          refine ih_62 (i + 1) (by omega) (by omega) _ () () _ _ _ ?_ ?_ ?_ ?_ ?_
          · first
            | exact h_F.trans fr_107
            | exact h_F
          · first
            | exact hTa_107
            | exact h_A
          · rw [h_b, bs]
            first
            | (rw [if_pos hP, nI_or]; done)
            | (rw [if_neg (by rw [hP]; decide), Nat.or_zero]; done)
          · rw [lfA, hlo]
          · exact nI_1 i
  exact hA_62 0 (by omega) _ () () _ _ _ (Fr.refl _ _) (hTa) (rfl) (rfl) (rfl)

theorem irem_N2 {a b : Nat} (ha : a ≤ 2000000000) (hb : b ≤ 2000000000) : nI a - nI a / nI b * nI b = nI (a % b) := by
  have e : nI a / nI b = nI (a / b) := by
    rw [nI_int a, nI_int b, i32_div (by omega) (by omega), nI_int, Int.ofNat_tdiv]
  rw [e, pk_mul, nI_subN (Nat.div_mul_le_self a b)]
  congr 1
  have := Nat.div_add_mod a b
  rw [Nat.mul_comm] at this
  omega
theorem s_X9_tell3 {h : AH} {nt : Int32} {ans : Nat → Int32} {v : Int32} {T C : Nat} (H_th : Hs h 6 (oTh nt)) (H_an : Hs h 11 (aI 168 ans)) (hT : T < 12) (hC : C < 14) : Sp M_X9_tell (0, 0) h [.ref 6, .int (nI T), .int (nI C), .int v] (pV (up h 11 (aI 168 (va_up ans (T * 14 + C) v)))) := by
  have e : nI T * 14 + nI C = nI (T * 14 + C) := by simp only [fa_lit, nI_add, pk_mul]
  have := s_X9_tell (x := nI T) (y := nI C) (v := v) H_th H_an
  rw [e, if_pos ⟨(nI_leI (a := 0) (by decide) (by omega)).mpr (by omega), (nI_ltI (b := 168) (by omega) (by decide)).mpr (by omega)⟩, nI_clamp (by omega)] at this
  exact this
theorem lf_names {f g : Nat → Int32} {a b c : Int32} {q : Nat → Nat} (h : ∀ t, t < 4 → f (0 + t) = nI (q t)) (hg : va_up (va_up (va_up f 8 a) 9 b) 10 c = g) : (∀ t, t < 4 → g t = nI (q t)) ∧ g 8 = a ∧ g 9 = b ∧ g 10 = c := by
  subst hg
  refine ⟨fun t ht => ?_, ?_, ?_, ?_⟩
  · rw [va_up_ne _ _ (by omega), va_up_ne _ _ (by omega), va_up_ne _ _ (by omega), ← h t ht, Nat.zero_add]
  · rw [va_up_ne _ _ (by omega), va_up_ne _ _ (by omega), va_up_self]
  · rw [va_up_ne _ _ (by omega), va_up_self]
  · rw [va_up_self]
theorem nmL_ok {f : Nat → Int32} {ca : Nat → Nat → Nat} {N S0 ag seed c t : Nat} (hca : ∀ c k, c < N → k < 4 → ca c k ≤ 99) (hc : c < N) (hag : ag ≤ 99) (hseed : seed ≤ 9999) (h1 : ∀ t, t < 4 → f t = nI (ca c t)) (h8 : f 8 = nI (S0 / 2 ^ c % 2)) (h9 : f 9 = nI ag) (h10 : f 10 = nI (xq seed c % 100)) (ht : t < 4 ∨ 8 ≤ t) (ht2 : t < 11) : f t = Int32.ofInt (nmL ca S0 ag seed c t) ∧ -1000000 ≤ nmL ca S0 ag seed c t ∧ nmL ca S0 ag seed c t ≤ 1000000 := by
  by_cases h : t < 4
  · have := hca c t hc h
    simp only [nmL, if_pos h]
    exact ⟨h1 t h, by omega, by omega⟩
  · have : t = 8 ∨ t = 9 ∨ t = 10 := by omega
    rcases this with rfl | rfl | rfl
    · rw [h8]
      simp only [nmL, if_neg h, if_true]
      by_cases hb : bt S0 c = true
      · have e : S0 / 2 ^ c % 2 = 1 := by simpa [bt] using hb
        rw [e, if_pos hb]; exact ⟨rfl, by decide, by decide⟩
      · have e : S0 / 2 ^ c % 2 = 0 := by
          have : ¬ S0 / 2 ^ c % 2 = 1 := fun z => hb (by simp [bt, z])
          omega
        rw [e, if_neg hb]; exact ⟨rfl, by decide, by decide⟩
    · rw [h9]
      simp only [nmL, if_neg h, if_neg (show ¬ 9 = 8 by decide), if_true]
      exact ⟨rfl, by omega, by omega⟩
    · rw [h10]
      simp only [nmL, if_neg h, if_neg (show ¬ 10 = 8 by decide), if_neg (show ¬ 10 = 9 by decide), if_true]
      exact ⟨rfl, by omega, by omega⟩
theorem valN_in {nm : Nat → Int} {nc : Nat} {kd : Nat → Nat} {cd : Nat → List Nat} (h : ∀ i, i < nc → kd i = 16 → (∀ t, t ∈ cd i → t < 11 → -1000000 ≤ nm t ∧ nm t ≤ 1000000) ∧ ∃ τ, tyS (cd i) [] = some [τ]) : -1000000 ≤ valN nm nc kd cd ∧ valN nm nc kd cd ≤ 1000000 := by
  unfold valN
  split
  · omega
  · rename_i i hi
    have h1 := List.mem_of_find?_eq_some hi
    have h2 := List.find?_some hi
    rw [List.mem_range] at h1
    rw [decide_eq_true_eq] at h2
    obtain ⟨h3, τ, h4⟩ := h i h1 h2
    exact (evV_in h3 h4).2
theorem i32_lt2 {a b : Int} (ha : -1000000 ≤ a ∧ a ≤ 1000000) (hb : -1000000 ≤ b ∧ b ≤ 1000000) : Int32.ofInt a < Int32.ofInt b ↔ a < b := by
  rw [Int32.lt_iff_toInt_lt, i32_ofInt (by omega) (by omega), i32_ofInt (by omega) (by omega)]
theorem mn32 {x y : Int} (hx : -1000000 ≤ x ∧ x ≤ 1000000) (hy : -1000000 ≤ y ∧ y ≤ 1000000) : (if Int32.ofInt y < Int32.ofInt x then Int32.ofInt y else Int32.ofInt x) = Int32.ofInt (mnI x y) := by
  unfold mnI
  by_cases h : y < x
  · rw [if_pos ((i32_lt2 hy hx).mpr h), if_pos h]
  · rw [if_neg (fun z => h ((i32_lt2 hy hx).mp z)), if_neg h]
theorem mx32 {x y : Int} (hx : -1000000 ≤ x ∧ x ≤ 1000000) (hy : -1000000 ≤ y ∧ y ≤ 1000000) : (if Int32.ofInt x < Int32.ofInt y then Int32.ofInt y else Int32.ofInt x) = Int32.ofInt (mxI x y) := by
  unfold mxI
  by_cases h : x < y
  · rw [if_pos ((i32_lt2 hx hy).mpr h), if_pos h]
  · rw [if_neg (fun z => h ((i32_lt2 hx hy).mp z)), if_neg h]
theorem s_X10_live {h : AH} {tp nc : Nat} {kd : Nat → Nat} {cd : Nat → List Nat} {many near : Int32} {nms : Nat → Int32} {N : Nat} {ca : Nat → Nat → Nat} {co : Int32} {S0 tcn T seed ag : Nat} {tl lf lp cost : Int32} {texts : Nat → Option Nat} {n : Nat} {ages ans : Nat → Int32} (H_mc : Hs h 0 (oMC (nI tcn) tl lf lp cost)) (H_txs : Hs h 20 (aT 6 texts)) (htx : ∀ t, t < 6 → texts t = some (42 + 4 * t)) (hC : ChC h N ca co (nI S0)) (hT : TxC h tp nc kd cd many near) (hJ : JuC h nms) (hok : okT nc kd cd) (H_th : Hs h 6 (oTh (nI n))) (H_tg : Hs h 8 (aI 12 ages)) (H_an : Hs h 11 (aI 168 ans)) (hn : n ≤ 12) (htp : tp < tcn) (htc : tcn ≤ 6) (hS0 : S0 < 2 ^ N) (hTn : T < n) (hage : ages T = nI ag) (hag : ag ≤ 99) (hseed : seed ≤ 9999) : Sp M_X10_live (0, 0) h [.ref 0, .int (nI tp), .int (nI T), .int (nI seed)] (rI (fun x h' => x = nI (lvC ca S0 ag seed nc kd cd N) ∧ (∃ nms', JuC h' nms') ∧ Hs h' 11 (aI 168 (lvS ans (lvV ca S0 ag seed nc kd cd) T N)) ∧ Fr [11, 25, 26] h h')) := by
  refine ⟨Nat.le_of_ble_eq_true rfl, ?_⟩
  show E _ _ _ 0 h [some (.ref 0), some (.int (nI tp)), some (.int (nI T)), some (.int (nI seed)), none, none, none, none, none] []
  have hC9 := hC
  obtain ⟨hN, hca, sexes, wits, homes, works, H_ch, H_sx, H_wt, H_hm, H_wk, hc4⟩ := hC9
  have hS1 : S0 < 16384 := Nat.lt_of_lt_of_le hS0 (pw_31 N hN)
  have hA2 : 2 ^ N - 1 < 2 ^ 31 := by have := Nat.pow_le_pow_right (n := 2) (by decide) hN; omega
  have G_mc := H_mc
  have G_ch := H_ch
  have G_th := H_th
  have G_tg := H_tg
  have H_ju := hJ.1
  obtain ⟨-, tkinds, tedges, tcode, H_tx, -⟩ := id hT
  refine e_aloadn d_X10_live_0 rfl ?_
  refine e_iloadn d_X10_live_1 rfl ?_
  refine e_callVI d_X10_live_2 l_X10_live_172 H_mc rfl rfl (s_X10_isText H_mc) rfl rfl (Nat.le_of_ble_eq_true rfl) ?_
  refine e_if_eq d_X10_live_5 (fun z => by first | exact absurd (fun z => bI_0.mp z ⟨(nI_leI (a := 0) (by decide) (by omega)).mpr (by omega), (nI_ltI (by omega) (by omega)).mpr (by omega)⟩) z | exact absurd z (fun z => bI_0.mp z ⟨(nI_leI (a := 0) (by decide) (by omega)).mpr (by omega), (nI_ltI (by omega) (by omega)).mpr (by omega)⟩)) (fun _ => ?_)
  refine e_aloadn d_X10_live_8 rfl ?_
  refine e_get d_X10_live_9 f_X10_19 H_mc rfl ?_
  refine e_iloadn d_X10_live_12 rfl ?_
  refine e_callVI d_X10_live_13 l_X10_live_124 H_th rfl rfl (s_X9_has H_th) rfl rfl (Nat.le_of_ble_eq_true rfl) ?_
  refine e_if_eq d_X10_live_16 (fun z => by first | exact absurd (fun z => bI_0.mp z ⟨(nI_leI (a := 0) (by decide) (by omega)).mpr (by omega), (nI_ltI (by omega) (by omega)).mpr (by omega)⟩) z | exact absurd z (fun z => bI_0.mp z ⟨(nI_leI (a := 0) (by decide) (by omega)).mpr (by omega), (nI_ltI (by omega) (by omega)).mpr (by omega)⟩)) (fun _ => ?_)
  refine e_iloadn d_X10_live_19 rfl ?_
  refine e_sipush (v := 9999) d_X10_live_20 (by decide) ?_
  refine e_callSI d_X10_live_23 l_X10_live_99 (s_X10_within) rfl rfl (Nat.le_of_ble_eq_true rfl) ?_
  refine e_if_ne d_X10_live_26 (fun _ => ?_) (fun z => by first | exact absurd (fun z => bI_0.mp z ⟨(nI_leI (a := 0) (by decide) (by omega)).mpr (by omega), (nI_leI (b := 9999) (by omega) (by decide)).mpr (by omega)⟩) z | exact absurd z (fun z => bI_0.mp z ⟨(nI_leI (a := 0) (by decide) (by omega)).mpr (by omega), (nI_leI (b := 9999) (by omega) (by decide)).mpr (by omega)⟩))
  refine e_aloadn d_X10_live_31 rfl ?_
  refine e_get d_X10_live_32 f_X10_39 H_mc rfl ?_
  refine e_iloadn d_X10_live_35 rfl ?_
  refine e_taldN (k := tp) d_X10_live_36 H_txs rfl (by omega) (by omega) ?_
  rw [htx tp (by omega)]
  refine e_astore d_X10_live_37 (by decide) rfl ?_
  refine e_iloadn d_X10_live_39 rfl ?_
  refine e_bipush (v := 7) d_X10_live_40 (by decide) ?_
  refine e_imul d_X10_live_42 ?_
  refine e_bipush (v := 11) d_X10_live_43 (by decide) ?_
  refine e_iadd d_X10_live_45 ?_
  rw [show nI seed * 7 + 11 = nI (xq seed 0) from by simp only [fa_lit, nI_add, pk_mul]; rfl]
  refine e_istore d_X10_live_46 (by decide) rfl ?_
  refine e_iconst (v := 0) d_X10_live_48 (by decide) ?_
  refine e_istore d_X10_live_49 (by decide) rfl ?_
  refine e_iconst (v := 0) d_X10_live_51 (by decide) ?_
  refine e_istore d_X10_live_52 (by decide) rfl ?_
  have hA_54 : ∀ i, i ≤ N → ∀ (k : AH) (F : Unit) (J : Unit) (A : Unit) (x : Int32) (f : Int32) (y : Int32), (Fr [11, 25, 26] h k) → (∃ nms, JuC k nms) → (Hs k 11 (aI 168 (lvS ans (lvV ca S0 ag seed nc kd cd) T i))) → (x = nI (xq seed i)) → (f = nI (lvC ca S0 ag seed nc kd cd i)) → (y = nI i) → E M_X10_live (0, 0) (rI (fun x h' => x = nI (lvC ca S0 ag seed nc kd cd N) ∧ (∃ nms', JuC h' nms') ∧ Hs h' 11 (aI 168 (lvS ans (lvV ca S0 ag seed nc kd cd) T N)) ∧ Fr [11, 25, 26] h h')) 54 (k) [some (.ref 0), some (.int (nI tp)), some (.int (nI T)), some (.int (nI seed)), some (.ref (42 + 4 * tp)), some (.int x), some (.int f), some (.int y), none] [] := by
    refine loop_ind (n := N) ?_
    intro i hi_i ih_54 k F J A x f y h_F h_J h_A h_x h_f h_y
    subst h_y
    subst h_x
    have H_mc := h_F.hs G_mc (by decide)
    have H_ch := h_F.hs G_ch (by decide)
    have H_th := h_F.hs G_th (by decide)
    have H_tg := h_F.hs G_tg (by decide)
    have hC := ChC.fr hC h_F (by decide)
    have hT := TxC.fr hT h_F (by decide)
    have H_an := h_A
    obtain ⟨nms, hJ⟩ := id h_J
    have H_ju := hJ.1
    obtain ⟨hnc, -⟩ := id hT
    have hxq := xq_lt hseed i
    refine e_iload d_X10_live_54 rfl ?_
    refine e_aloadn d_X10_live_56 rfl ?_
    refine e_get d_X10_live_57 f_X10_10 H_mc rfl ?_
    refine e_get d_X10_live_60 f_X10_103 H_ch rfl ?_
    refine e_icmp_ge d_X10_live_63 (fun c => ?_) (fun c => ?_)
    · have c := i_le (by omega) (by omega) c
      obtain rfl : N = i := by omega
      refine e_iload d_X10_live_195 rfl ?_
      exact e_iret d_X10_live_197 rfl (rfl) (⟨_, rfl, h_f, h_J, h_A, h_F⟩)
    · have c := i_nle (by omega) (by omega) c
      refine e_aloadn d_X10_live_66 rfl ?_
      refine e_get d_X10_live_67 f_X10_67 H_mc rfl ?_
      refine e_aloadn d_X10_live_70 rfl ?_
      refine e_get d_X10_live_71 f_X10_10 H_mc rfl ?_
      refine e_iload d_X10_live_74 rfl ?_
      refine e_iconst (v := 0) d_X10_live_76 (by decide) ?_
      refine e_callRVV d_X10_live_77 l_X10_live_266 H_ju rfl rfl (s_X3_see (C := i) (o := 0) hC hJ (by omega) (by decide)) rfl rfl (Nat.le_of_ble_eq_true rfl) (fun h_77 q_77 s_77 => ?_)
      obtain ⟨nms2, hJ_77, hn_77, -, fr_77⟩ := q_77
      have H_mc := fr_77.hs H_mc (by first | decide | (simp; omega))
      have H_ch := fr_77.hs H_ch (by first | decide | (simp; omega))
      have H_ju := fr_77.hs H_ju (by first | decide | (simp; omega))
      have H_th := fr_77.hs H_th (by first | decide | (simp; omega))
      have H_tg := fr_77.hs H_tg (by first | decide | (simp; omega))
      have H_an := fr_77.hs H_an (by first | decide | (simp; omega))
      have hT_77 := TxC.fr hT fr_77 (by decide)
      refine e_aloadn d_X10_live_80 rfl ?_
      refine e_get d_X10_live_81 f_X10_67 H_mc rfl ?_
      refine e_aloadn d_X10_live_84 rfl ?_
      refine e_get d_X10_live_85 f_X10_10 H_mc rfl ?_
      refine e_get d_X10_live_88 f_X10_117 H_ch rfl ?_
      refine e_iload d_X10_live_91 rfl ?_
      refine e_ishr d_X10_live_93 ?_
      refine e_iconst (v := 1) d_X10_live_94 (by decide) ?_
      refine e_iand d_X10_live_95 ?_
      refine e_aloadn d_X10_live_96 rfl ?_
      refine e_get d_X10_live_97 f_X10_19 H_mc rfl ?_
      refine e_get d_X10_live_100 f_X10_231 H_th rfl ?_
      refine e_iloadn d_X10_live_103 rfl ?_
      refine e_ialdN (k := T) d_X10_live_104 H_tg rfl (by omega) (by omega) ?_
      rw [hage]
      refine e_iload d_X10_live_105 rfl ?_
      refine e_bipush (v := 100) d_X10_live_107 (by decide) ?_
      refine e_irem d_X10_live_109 (by decide) ?_
      rw [bitAt (by omega) (by omega), show (100 : Int32) = nI 100 from rfl, irem_N2 (by omega) (by decide)]
      refine e_callVV d_X10_live_110 l_X10_live_270 H_ju rfl rfl (s_X3_seeLife hJ_77.1 hJ_77.2.1) rfl rfl (Nat.le_of_ble_eq_true rfl) ?_
      generalize hgn : va_up (va_up (va_up nms2 8 (nI (S0 / 2 ^ i % 2))) 9 (nI ag)) 10 (nI (xq seed i % 100)) = nms3
      have fr_110 : Fr [25] h_77 (up h_77 25 (aI 11 nms3)) := (Fr.refl _ _).up (by decide)
      have hJ_110 : JuC (up h_77 25 (aI 11 nms3)) nms3 := ⟨hJ_77.1.n (by decide), hJ_77.2.1.s, hJ_77.2.2.elim fun s q => ⟨s, q.n (by decide)⟩⟩
      generalize hk9 : up h_77 25 (aI 11 nms3) = h_110 at fr_110 hJ_110
      obtain ⟨hn1, hn8, hn9, hn10⟩ := lf_names hn_77 hgn
      have hT_110 := TxC.fr hT_77 fr_110 (by decide)
      obtain ⟨-, tkinds, tedges, tcode, H_tx, H_tkk, -, -, hkd, -⟩ := id hT_110
      have H_mc := fr_110.hs H_mc (by decide)
      have H_ch := fr_110.hs H_ch (by decide)
      have H_th := fr_110.hs H_th (by decide)
      have H_tg := fr_110.hs H_tg (by decide)
      have H_an := fr_110.hs H_an (by decide)
      have H_ju := hJ_110.1
      refine e_iconst (v := -1) d_X10_live_113 (by decide) ?_
      refine e_istore d_X10_live_114 (by decide) rfl ?_
      refine e_aload d_X10_live_116 rfl ?_
      refine e_bipush (v := 20) d_X10_live_118 (by decide) ?_
      refine e_callVI d_X10_live_120 l_X10_live_273 H_tx rfl rfl (s_X8_has H_tx H_tkk hnc (by decide) hkd) rfl rfl (Nat.le_of_ble_eq_true rfl) ?_
      refine e_if_eq d_X10_live_123 (fun c_123 => ?_) (fun c_123 => ?_)
      · have hfl : lvF ca S0 ag seed nc kd cd i = true := by rw [lvF, Bool.eq_false_iff.mpr (bI_0.mp c_123)]; rfl
        have hJ_134 := hJ_110
        have hT_134 := hT_110
        have fr_134 : Fr [26] h_110 h_110 := Fr.refl _ _
        refine e_iconst (v := 0) d_X10_live_140 (by decide) ?_
        refine e_aloadn d_X10_live_141 rfl ?_
        refine e_get d_X10_live_142 f_X10_67 H_mc rfl ?_
        refine e_aload d_X10_live_145 rfl ?_
        refine e_callRVI d_X10_live_147 l_X10_live_278 H_ju rfl rfl (s_X3_value (nm := nmL ca S0 ag seed i) hT_134 hJ_134 (fun j hj hk => ⟨fun t ht ht2 => nmL_ok hca (by omega) hag hseed hn1 hn8 hn9 hn10 ((hok j hj).2.2.1 (by omega) t ht ht2) ht2, _, (hok j hj).2.2.2 (by omega)⟩)) rfl rfl (Nat.le_of_ble_eq_true rfl) (fun x_147 h_147 q_147 s_147 => ?_)
        obtain ⟨rfl, hJ_147, fr_147⟩ := q_147
        have H_mc := fr_147.hs H_mc (by first | decide | (simp; omega))
        have H_ch := fr_147.hs H_ch (by first | decide | (simp; omega))
        have H_ju := fr_147.hs H_ju (by first | decide | (simp; omega))
        have H_th := fr_147.hs H_th (by first | decide | (simp; omega))
        have H_tg := fr_147.hs H_tg (by first | decide | (simp; omega))
        have H_an := fr_147.hs H_an (by first | decide | (simp; omega))
        have H_tx := fr_147.hs H_tx (by first | decide | (simp; omega))
        have fr_147 := fr_134.trans fr_147
        have hvi : -1000000 ≤ valN (nmL ca S0 ag seed i) nc kd cd ∧ valN (nmL ca S0 ag seed i) nc kd cd ≤ 1000000 := valN_in (fun j hj hk => ⟨fun t ht ht2 => (nmL_ok hca (by omega) hag hseed hn1 hn8 hn9 hn10 ((hok j hj).2.2.1 (by omega) t ht ht2) ht2).2, _, (hok j hj).2.2.2 (by omega)⟩)
        refine e_bipush (v := 99) d_X10_live_150 (by decide) ?_
        refine e_callSI d_X10_live_152 l_X10_live_249 (s_J9_min_7cf53) rfl rfl (Nat.le_of_ble_eq_true rfl) ?_
        rw [show (99 : Int32) = Int32.ofInt 99 from rfl, mn32 hvi (by omega)]
        refine e_callSI d_X10_live_155 l_X10_live_281 (s_J9_max_7cf53) rfl rfl (Nat.le_of_ble_eq_true rfl) ?_
        rw [show (0 : Int32) = Int32.ofInt 0 from rfl, mx32 (by omega) (mn_in (b := 1000000) hvi (by omega))]
        have hv : Int32.ofInt (mxI 0 (mnI (valN (nmL ca S0 ag seed i) nc kd cd) 99)) = (lvV ca S0 ag seed nc kd cd) i := by rw [lvV, if_pos hfl]
        refine e_istore d_X10_live_158 (by decide) rfl ?_
        refine e_iincw (w := 1) d_X10_live_160 rfl (by decide) (by decide) rfl ?_
        refine e_aloadn d_X10_live_163 rfl ?_
        refine e_get d_X10_live_164 f_X10_19 H_mc rfl ?_
        refine e_iloadn d_X10_live_167 rfl ?_
        refine e_iload d_X10_live_168 rfl ?_
        refine e_iload d_X10_live_170 rfl ?_
        rw [hv]
        refine e_callVV d_X10_live_172 l_X10_live_125 H_th rfl rfl (s_X9_tell3 H_th H_an (T := T) (C := i) (by omega) (by omega)) rfl rfl (Nat.le_of_ble_eq_true rfl) ?_
        rw [lvS_succ]
        have hfin := (((fr_77.mono (T := [11, 25, 26]) (by decide)).trans (fr_110.mono (by decide))).trans (fr_147.mono (by decide))).up (k := 11) (c := (aI 168 (lvS ans (lvV ca S0 ag seed nc kd cd) T (i + 1)))) (by decide)
        have hJf := JuC.fr hJ_147 ((Fr.refl [11] _).up (k := 11) (c := (aI 168 (lvS ans (lvV ca S0 ag seed nc kd cd) T (i + 1)))) (by decide)) (by decide)
        have H_anf := Hs.s (c' := (aI 168 (lvS ans (lvV ca S0 ag seed nc kd cd) T (i + 1)))) H_an
        refine e_iload d_X10_live_175 rfl ?_
        refine e_sipush (v := 171) d_X10_live_177 (by decide) ?_
        refine e_imul d_X10_live_180 ?_
        refine e_iconst (v := 5) d_X10_live_181 (by decide) ?_
        refine e_iadd d_X10_live_182 ?_
        refine e_sipush (v := 30323) d_X10_live_183 (by decide) ?_
        refine e_irem d_X10_live_186 (by decide) ?_
        refine e_istore d_X10_live_187 (by decide) rfl ?_
        refine e_iincw (w := 1) d_X10_live_189 rfl (by decide) (by decide) rfl ?_
        refine e_gt d_X10_live_192 ?_
        refine e_drop1 8 ?_
        refine ih_54 (i + 1) (by omega) (by omega) _ () () () _ _ _ ?_ ?_ ?_ ?_ ?_ ?_
        · exact h_F.trans hfin
        · exact ⟨_, hJf⟩
        · exact H_anf
        · rw [show nI (xq seed i) * 171 + 5 = nI (xq seed i * 171 + 5) from by simp only [fa_lit, nI_add, pk_mul], show (30323 : Int32) = nI 30323 from rfl, irem_N2 (by omega) (by decide)]; rfl
        · rw [h_f, lvC, lvC, sm]
          first
          | (rw [if_pos hfl, nI_1]; done)
          | (rw [if_neg (by rw [hfl]; decide)]; rfl)
        · exact nI_1 i
      · have hhas := bI_1.mp (bI_z.resolve_left c_123)
        refine e_aloadn d_X10_live_126 rfl ?_
        refine e_get d_X10_live_127 f_X10_67 H_mc rfl ?_
        refine e_aload d_X10_live_130 rfl ?_
        refine e_bipush (v := 20) d_X10_live_132 (by decide) ?_
        refine e_callRVI d_X10_live_134 l_X10_live_274 H_ju rfl rfl (s_X3_some (kk := 20) (nm := nmL ca S0 ag seed i) hT_110 hJ_110 (by decide) (fun j hj hk => ⟨fun t ht ht2 => nmL_ok hca (by omega) hag hseed hn1 hn8 hn9 hn10 ((hok j hj).2.2.1 (by omega) t ht ht2) ht2, _, (hok j hj).2.2.2 (by omega)⟩)) rfl rfl (Nat.le_of_ble_eq_true rfl) (fun x_134 h_134 q_134 s_134 => ?_)
        obtain ⟨rfl, hJ_134, fr_134⟩ := q_134
        have H_mc := fr_134.hs H_mc (by first | decide | (simp; omega))
        have H_ch := fr_134.hs H_ch (by first | decide | (simp; omega))
        have H_ju := fr_134.hs H_ju (by first | decide | (simp; omega))
        have H_th := fr_134.hs H_th (by first | decide | (simp; omega))
        have H_tg := fr_134.hs H_tg (by first | decide | (simp; omega))
        have H_an := fr_134.hs H_an (by first | decide | (simp; omega))
        have H_tx := fr_134.hs H_tx (by first | decide | (simp; omega))
        have hT_134 := TxC.fr hT_110 fr_134 (by decide)
        refine e_if_eq d_X10_live_137 (fun c_137 => ?_) (fun c_137 => ?_)
        · have hfl : lvF ca S0 ag seed nc kd cd i = false := by rw [lvF, hhas, Bool.eq_false_iff.mpr (bI_0.mp c_137)]; rfl
          have hv : (-1 : Int32) = (lvV ca S0 ag seed nc kd cd) i := by rw [lvV, if_neg (by rw [hfl]; decide)]
          have hJ_147 := hJ_134
          have fr_147 := fr_134
          refine e_aloadn d_X10_live_163 rfl ?_
          refine e_get d_X10_live_164 f_X10_19 H_mc rfl ?_
          refine e_iloadn d_X10_live_167 rfl ?_
          refine e_iload d_X10_live_168 rfl ?_
          refine e_iload d_X10_live_170 rfl ?_
          rw [hv]
          refine e_callVV d_X10_live_172 l_X10_live_125 H_th rfl rfl (s_X9_tell3 H_th H_an (T := T) (C := i) (by omega) (by omega)) rfl rfl (Nat.le_of_ble_eq_true rfl) ?_
          rw [lvS_succ]
          have hfin := (((fr_77.mono (T := [11, 25, 26]) (by decide)).trans (fr_110.mono (by decide))).trans (fr_147.mono (by decide))).up (k := 11) (c := (aI 168 (lvS ans (lvV ca S0 ag seed nc kd cd) T (i + 1)))) (by decide)
          have hJf := JuC.fr hJ_147 ((Fr.refl [11] _).up (k := 11) (c := (aI 168 (lvS ans (lvV ca S0 ag seed nc kd cd) T (i + 1)))) (by decide)) (by decide)
          have H_anf := Hs.s (c' := (aI 168 (lvS ans (lvV ca S0 ag seed nc kd cd) T (i + 1)))) H_an
          refine e_iload d_X10_live_175 rfl ?_
          refine e_sipush (v := 171) d_X10_live_177 (by decide) ?_
          refine e_imul d_X10_live_180 ?_
          refine e_iconst (v := 5) d_X10_live_181 (by decide) ?_
          refine e_iadd d_X10_live_182 ?_
          refine e_sipush (v := 30323) d_X10_live_183 (by decide) ?_
          refine e_irem d_X10_live_186 (by decide) ?_
          refine e_istore d_X10_live_187 (by decide) rfl ?_
          refine e_iincw (w := 1) d_X10_live_189 rfl (by decide) (by decide) rfl ?_
          refine e_gt d_X10_live_192 ?_
          refine e_drop1 8 ?_
          refine ih_54 (i + 1) (by omega) (by omega) _ () () () _ _ _ ?_ ?_ ?_ ?_ ?_ ?_
          · exact h_F.trans hfin
          · exact ⟨_, hJf⟩
          · exact H_anf
          · rw [show nI (xq seed i) * 171 + 5 = nI (xq seed i * 171 + 5) from by simp only [fa_lit, nI_add, pk_mul], show (30323 : Int32) = nI 30323 from rfl, irem_N2 (by omega) (by decide)]; rfl
          · rw [h_f, lvC, lvC, sm]
            first
            | (rw [if_pos hfl, nI_1]; done)
            | (rw [if_neg (by rw [hfl]; decide)]; rfl)
          · exact nI_1 i
        · have hfl : lvF ca S0 ag seed nc kd cd i = true := by rw [lvF, bI_1.mp (bI_z.resolve_left c_137), Bool.or_true]
          refine e_iconst (v := 0) d_X10_live_140 (by decide) ?_
          refine e_aloadn d_X10_live_141 rfl ?_
          refine e_get d_X10_live_142 f_X10_67 H_mc rfl ?_
          refine e_aload d_X10_live_145 rfl ?_
          refine e_callRVI d_X10_live_147 l_X10_live_278 H_ju rfl rfl (s_X3_value (nm := nmL ca S0 ag seed i) hT_134 hJ_134 (fun j hj hk => ⟨fun t ht ht2 => nmL_ok hca (by omega) hag hseed hn1 hn8 hn9 hn10 ((hok j hj).2.2.1 (by omega) t ht ht2) ht2, _, (hok j hj).2.2.2 (by omega)⟩)) rfl rfl (Nat.le_of_ble_eq_true rfl) (fun x_147 h_147 q_147 s_147 => ?_)
          obtain ⟨rfl, hJ_147, fr_147⟩ := q_147
          have H_mc := fr_147.hs H_mc (by first | decide | (simp; omega))
          have H_ch := fr_147.hs H_ch (by first | decide | (simp; omega))
          have H_ju := fr_147.hs H_ju (by first | decide | (simp; omega))
          have H_th := fr_147.hs H_th (by first | decide | (simp; omega))
          have H_tg := fr_147.hs H_tg (by first | decide | (simp; omega))
          have H_an := fr_147.hs H_an (by first | decide | (simp; omega))
          have H_tx := fr_147.hs H_tx (by first | decide | (simp; omega))
          have fr_147 := fr_134.trans fr_147
          have hvi : -1000000 ≤ valN (nmL ca S0 ag seed i) nc kd cd ∧ valN (nmL ca S0 ag seed i) nc kd cd ≤ 1000000 := valN_in (fun j hj hk => ⟨fun t ht ht2 => (nmL_ok hca (by omega) hag hseed hn1 hn8 hn9 hn10 ((hok j hj).2.2.1 (by omega) t ht ht2) ht2).2, _, (hok j hj).2.2.2 (by omega)⟩)
          refine e_bipush (v := 99) d_X10_live_150 (by decide) ?_
          refine e_callSI d_X10_live_152 l_X10_live_249 (s_J9_min_7cf53) rfl rfl (Nat.le_of_ble_eq_true rfl) ?_
          rw [show (99 : Int32) = Int32.ofInt 99 from rfl, mn32 hvi (by omega)]
          refine e_callSI d_X10_live_155 l_X10_live_281 (s_J9_max_7cf53) rfl rfl (Nat.le_of_ble_eq_true rfl) ?_
          rw [show (0 : Int32) = Int32.ofInt 0 from rfl, mx32 (by omega) (mn_in (b := 1000000) hvi (by omega))]
          have hv : Int32.ofInt (mxI 0 (mnI (valN (nmL ca S0 ag seed i) nc kd cd) 99)) = (lvV ca S0 ag seed nc kd cd) i := by rw [lvV, if_pos hfl]
          refine e_istore d_X10_live_158 (by decide) rfl ?_
          refine e_iincw (w := 1) d_X10_live_160 rfl (by decide) (by decide) rfl ?_
          refine e_aloadn d_X10_live_163 rfl ?_
          refine e_get d_X10_live_164 f_X10_19 H_mc rfl ?_
          refine e_iloadn d_X10_live_167 rfl ?_
          refine e_iload d_X10_live_168 rfl ?_
          refine e_iload d_X10_live_170 rfl ?_
          rw [hv]
          refine e_callVV d_X10_live_172 l_X10_live_125 H_th rfl rfl (s_X9_tell3 H_th H_an (T := T) (C := i) (by omega) (by omega)) rfl rfl (Nat.le_of_ble_eq_true rfl) ?_
          rw [lvS_succ]
          have hfin := (((fr_77.mono (T := [11, 25, 26]) (by decide)).trans (fr_110.mono (by decide))).trans (fr_147.mono (by decide))).up (k := 11) (c := (aI 168 (lvS ans (lvV ca S0 ag seed nc kd cd) T (i + 1)))) (by decide)
          have hJf := JuC.fr hJ_147 ((Fr.refl [11] _).up (k := 11) (c := (aI 168 (lvS ans (lvV ca S0 ag seed nc kd cd) T (i + 1)))) (by decide)) (by decide)
          have H_anf := Hs.s (c' := (aI 168 (lvS ans (lvV ca S0 ag seed nc kd cd) T (i + 1)))) H_an
          refine e_iload d_X10_live_175 rfl ?_
          refine e_sipush (v := 171) d_X10_live_177 (by decide) ?_
          refine e_imul d_X10_live_180 ?_
          refine e_iconst (v := 5) d_X10_live_181 (by decide) ?_
          refine e_iadd d_X10_live_182 ?_
          refine e_sipush (v := 30323) d_X10_live_183 (by decide) ?_
          refine e_irem d_X10_live_186 (by decide) ?_
          refine e_istore d_X10_live_187 (by decide) rfl ?_
          refine e_iincw (w := 1) d_X10_live_189 rfl (by decide) (by decide) rfl ?_
          refine e_gt d_X10_live_192 ?_
          refine e_drop1 8 ?_
          refine ih_54 (i + 1) (by omega) (by omega) _ () () () _ _ _ ?_ ?_ ?_ ?_ ?_ ?_
          · exact h_F.trans hfin
          · exact ⟨_, hJf⟩
          · exact H_anf
          · rw [show nI (xq seed i) * 171 + 5 = nI (xq seed i * 171 + 5) from by simp only [fa_lit, nI_add, pk_mul], show (30323 : Int32) = nI 30323 from rfl, irem_N2 (by omega) (by decide)]; rfl
          · rw [h_f, lvC, lvC, sm]
            first
            | (rw [if_pos hfl, nI_1]; done)
            | (rw [if_neg (by rw [hfl]; decide)]; rfl)
          · exact nI_1 i
  exact hA_54 0 (by omega) _ () () () _ _ _ (Fr.refl _ _) (⟨_, hJ⟩) (by rw [lvS_0]; exact H_an) (rfl) (rfl) (rfl)
