/-! MORNINGCOIN'S methods: deals, gap, ways, back, paid, changed, course, live -/
theorem i_nat {i : Int32} (hi : -1 ≤ i) (hn : ¬ i = -1) : ∃ k : Nat, k < 2 ^ 31 ∧ i = nI k := by
  have e1 : (-1 : Int32).toInt = -1 := by decide
  have h0 : 0 ≤ i.toInt := by
    rw [Int32.le_iff_toInt_le] at hi
    have e2 : i.toInt ≠ (-1 : Int32).toInt := fun z => hn (Int32.toInt_inj.mp z)
    omega
  have h1 := Int32.toInt_lt i
  refine ⟨i.toInt.toNat, by omega, ?_⟩
  rw [nI_int, ← Int32.toInt_inj, i32_ofInt (by omega) (by omega)]
  omega
theorem dlF_at {L : List Nat} {i : Nat} (h : i < L.length) : L[i]? = some (dlF L i) := by rw [dlF, List.getD_eq_getElem?_getD, List.getElem?_eq_getElem h]; rfl
theorem s_X7_load_ar {h : AH} {less ans low high : Nat → Int32} {whole : Int32} {T A n : Nat} (H_th : Hs h 6 (oTh (nI n))) (H_tl_ : Hs h 9 (aZ 12 less)) (H_an : Hs h 11 (aI 168 ans)) (H_ta : Hs h 31 (oTa 31 whole)) (H_al : Hs h 32 (aI 128 low)) (H_ah : Hs h 33 (aI 128 high)) (h_l : low 0 = 0) (h_h : high 0 = 0) (hT : T < n) (hn : n ≤ 12) (hA : A < 2 ^ 31) (hV : ∀ c, c < 14 → ans (T * 14 + c) = -1 ∨ ∃ v, v ≤ 99 ∧ ans (T * 14 + c) = nI v) : Sp M_X7_load (0, 0) h [.ref 31, .ref 6, .int (nI T), .int (nI A)] (rV (fun h' => (∃ g1 g2 : Nat → Int32, Hs h' 31 (oTa 31 (nI (pS (own ans less T A) 14 16383))) ∧ Hs h' 32 (aI 128 g1) ∧ Hs h' 33 (aI 128 g2) ∧ TB g1 g2 (own ans less T A)) ∧ Fr [31, 32, 33] h h')) :=
  (s_X7_load_a H_th H_tl_ H_an H_ta H_al H_ah h_l h_h hT hn hA hV).end (fun v h' q => by
    obtain ⟨rfl, g1, g2, rfl, hT⟩ := q
    exact ⟨rfl, ⟨g1, g2, ((H_ta.n (by decide)).n (by decide)).s, (H_al.s.n (by decide)).n (by decide), (Hs.s (H_ah.n (by decide))).n (by decide), hT⟩, (((Fr.refl _ _).up (by decide)).up (by decide)).up (by decide)⟩)
theorem s_X7_load_br {h : AH} {less ans low high : Nat → Int32} {whole : Int32} {T A n : Nat} (H_th : Hs h 6 (oTh (nI n))) (H_tl_ : Hs h 9 (aZ 12 less)) (H_an : Hs h 11 (aI 168 ans)) (H_tb : Hs h 35 (oTa 35 whole)) (H_bl : Hs h 36 (aI 128 low)) (H_bh : Hs h 37 (aI 128 high)) (h_l : low 0 = 0) (h_h : high 0 = 0) (hT : T < n) (hn : n ≤ 12) (hA : A < 2 ^ 31) (hV : ∀ c, c < 14 → ans (T * 14 + c) = -1 ∨ ∃ v, v ≤ 99 ∧ ans (T * 14 + c) = nI v) : Sp M_X7_load (0, 0) h [.ref 35, .ref 6, .int (nI T), .int (nI A)] (rV (fun h' => (∃ g1 g2 : Nat → Int32, Hs h' 35 (oTa 35 (nI (pS (own ans less T A) 14 16383))) ∧ Hs h' 36 (aI 128 g1) ∧ Hs h' 37 (aI 128 g2) ∧ TB g1 g2 (own ans less T A)) ∧ Fr [35, 36, 37] h h')) :=
  (s_X7_load_b H_th H_tl_ H_an H_tb H_bl H_bh h_l h_h hT hn hA hV).end (fun v h' q => by
    obtain ⟨rfl, g1, g2, rfl, hT⟩ := q
    exact ⟨rfl, ⟨g1, g2, ((H_tb.n (by decide)).n (by decide)).s, (H_bl.s.n (by decide)).n (by decide), (Hs.s (H_bh.n (by decide))).n (by decide), hT⟩, (((Fr.refl _ _).up (by decide)).up (by decide)).up (by decide)⟩)
def gpL (ans : Nat → Int32) (T A B S : Nat) : Int := ((dN (cF ans T A) S 14 * dM (cF ans T A) S 14 : Nat) : Int) * ((dN (cF ans T B) S 14 * dM (cF ans T B) S 14 : Nat) : Int)
def gpU (ans less : Nat → Int32) (T A B S : Nat) : Int := ((dU (cF ans T A) (cV ans less T) S 14 * ((dN (cF ans T B) S 14 * dM (cF ans T B) S 14 : Nat) : Int) - dU (cF ans T B) (cV ans less T) S 14 * ((dN (cF ans T A) S 14 * dM (cF ans T A) S 14 : Nat) : Int)).natAbs : Int)
def gpF (ans less : Nat → Int32) (T A B S0 S : Nat) : Bool := decide (¬ gpL ans T A B S = 0 ∧ gpU ans less T A B S0 * gpL ans T A B S ≤ gpU ans less T A B S * gpL ans T A B S0)
def gapA (ans less : Nat → Int32) (T A B S0 : Nat) (dl : Nat → Nat) (D : Nat) : Int32 := if gpL ans T A B S0 = 0 ∨ D = 0 then -1 else nI (cnt (gpF ans less T A B S0) dl D)
theorem gpL_in {ans : Nat → Int32} {T A B S : Nat} : 0 ≤ gpL ans T A B S ∧ gpL ans T A B S ≤ 2401 := by
  have h := Nat.mul_le_mul (dNM_mul (F := cF ans T A) (S := S) (k := 14) (by decide)) (dNM_mul (F := cF ans T B) (S := S) (k := 14) (by decide))
  have e : gpL ans T A B S = (((dN (cF ans T A) S 14 * dM (cF ans T A) S 14) * (dN (cF ans T B) S 14 * dM (cF ans T B) S 14) : Nat) : Int) := by rw [Int.natCast_mul]; rfl
  rw [e]; omega
theorem gpU_in {ans less : Nat → Int32} {T A B S : Nat} (hV : ∀ c, c < 14 → ans (T * 14 + c) = -1 ∨ ∃ v, v ≤ 99 ∧ ans (T * 14 + c) = nI v) : 0 ≤ gpU ans less T A B S ∧ gpU ans less T A B S ≤ 475398 := by
  have h1 := dU_bnd (F := cF ans T A) (V := cV ans less T) (S := S) (k := 14) (by decide) (cV_99 hV)
  have h2 := dU_bnd (F := cF ans T B) (V := cV ans less T) (S := S) (k := 14) (by decide) (cV_99 hV)
  have h3 := dNM_mul (F := cF ans T A) (S := S) (k := 14) (by decide)
  have h4 := dNM_mul (F := cF ans T B) (S := S) (k := 14) (by decide)
  have h5 := mul_in h1 (b := ((dN (cF ans T B) S 14 * dM (cF ans T B) S 14 : Nat) : Int)) (by omega)
  have h6 := mul_in h2 (b := ((dN (cF ans T A) S 14 * dM (cF ans T A) S 14 : Nat) : Int)) (by omega)
  unfold gpU
  omega
theorem gpm_in {a b : Int} (ha : 0 ≤ a ∧ a ≤ 475398) (hb : 0 ≤ b ∧ b ≤ 2401) : -1000000000000000 ≤ a * b ∧ a * b ≤ 1000000000000000 := by
  have h1 : a.natAbs * b.natAbs ≤ 475398 * 2401 := Nat.mul_le_mul (by omega) (by omega)
  rw [← Int.natAbs_mul] at h1
  omega
theorem sh_tbl : ∀ n, n ≤ 12 → (((nI n).toUInt32 &&& Int32.toUInt32 31).toBitVec % 32).toNat = n := by decide +kernel
theorem hasAll_N {S n : Nat} (hS : S < 2 ^ 32) (hn : n ≤ 12) : ((nI S).toUInt32 >>> ((nI n).toUInt32 &&& Int32.toUInt32 31)).toInt32 = 0 ↔ S < 2 ^ n := by
  have e := us_N hS (nI n) n (sh_tbl n hn)
  rw [us] at e
  rw [e]
  have hp := Nat.two_pow_pos n
  have hle : S / 2 ^ n ≤ S := Nat.div_le_self _ _
  constructor
  · intro h
    have h0 : S / 2 ^ n = 0 := by
      have h1 := congrArg (fun x : Int32 => x.toBitVec.toNat) h
      simp only [nI_bv, BitVec.toNat_ofNat] at h1
      rw [Nat.mod_eq_of_lt (by omega)] at h1
      simpa using h1
    exact (Nat.div_eq_zero_iff_lt hp).mp h0
  · intro h
    rw [Nat.div_eq_of_lt h]; rfl
theorem p12 {S n : Nat} (hS : S < 2 ^ n) (hn : n ≤ 12) : S < 4096 := Nat.lt_of_lt_of_le hS (show 2 ^ n ≤ 2 ^ 12 from Nat.pow_le_pow_right (by decide) hn)
theorem wkS_succ {lf lt : Nat → Nat} {nl fr to k : Nat} : wkS lf lt nl fr to (k + 1) = wkS lf lt nl fr to k + wk lf lt nl fr k to := rfl

theorem s_X10_deals {h : AH} {κ : Nat × Nat} {tp nc : Nat} {kd : Nat → Nat} {cd : Nat → List Nat} {many near : Int32} {nms : Nat → Int32} {N : Nat} {ca : Nat → Nat → Nat} {co : Int32} {S0 tcn : Nat} {tl lf lp cost dtext : Int32} {texts : Nat → Option Nat} {drn : Nat} {L0 : List Nat} {i : Int32} (H_mc : Hs h 0 (oMC (nI tcn) tl lf lp cost)) (H_txs : Hs h 20 (aT 6 texts)) (htx : ∀ t, t < 6 → texts t = some (42 + 4 * t)) (hC : ChC h N ca co (nI S0)) (hT : TxC h tp nc kd cd many near) (hJ : JuC h nms) (hok : okT nc kd cd) (hD : DeX h dtext drn L0) (hL0 : dtext = nI tp → L0 = (DLs ca N nc kd cd many near)) (htp : tp < tcn) (htc : tcn ≤ 6) (hsz : 92 < h.2.1) (hS0 : S0 < 2 ^ N) (hκ : ¬ dtext = nI tp → drn < 2 ^ N → 1 ≤ κ.1 ∧ 2 ^ N ≤ κ.2) (hi : -1 ≤ i) : Sp M_X10_deals κ h [.ref 0, .int (nI tp), .int i] (rI (fun x h' => x = dealsA (DLs ca N nc kd cd many near) i ∧ Dd FSd h h' tp (if dtext = nI tp then drn else max drn (2 ^ N)) (DLs ca N nc kd cd many near))) := by
  refine ⟨Nat.le_of_ble_eq_true rfl, ?_⟩
  show E _ _ _ 0 h [some (.ref 0), some (.int (nI tp)), some (.int i)] []
  have hC9 := hC
  obtain ⟨hN, hca, sexes, wits, homes, works, H_ch, H_sx, H_wt, H_hm, H_wk, hc4⟩ := hC9
  have hS1 : S0 < 16384 := Nat.lt_of_lt_of_le hS0 (pw_31 N hN)
  have hA2 : 2 ^ N - 1 < 2 ^ 31 := by have := Nat.pow_le_pow_right (n := 2) (by decide) hN; omega
  obtain ⟨drow, row0, w0, a0, H_de, -⟩ := id hD
  refine e_aloadn d_X10_deals_0 rfl ?_
  refine e_iloadn d_X10_deals_1 rfl ?_
  refine e_callVI d_X10_deals_2 l_X10_deals_172 H_mc rfl rfl (s_X10_isText H_mc) rfl rfl (Nat.le_of_ble_eq_true rfl) ?_
  refine e_if_eq d_X10_deals_5 (fun z => by first | exact absurd (fun z => bI_0.mp z ⟨(nI_leI (a := 0) (by decide) (by omega)).mpr (by omega), (nI_ltI (by omega) (by omega)).mpr (by omega)⟩) z | exact absurd z (fun z => bI_0.mp z ⟨(nI_leI (a := 0) (by decide) (by omega)).mpr (by omega), (nI_ltI (by omega) (by omega)).mpr (by omega)⟩)) (fun _ => ?_)
  refine e_iloadn d_X10_deals_8 rfl ?_
  refine e_iconst (v := -1) d_X10_deals_9 (by decide) ?_
  refine e_icmp_ge d_X10_deals_10 (fun _ => ?_) (fun z => by first | exact absurd (hi) z | exact absurd z (hi))
  refine e_aloadn d_X10_deals_15 rfl ?_
  refine e_iloadn d_X10_deals_16 rfl ?_
  refine e_callKVV d_X10_deals_17 l_X10_deals_175 H_mc rfl rfl (s_X10_deal H_mc H_txs htx hC hT hJ hok hD hL0 (by omega) hsz hκ) rfl rfl (Nat.le_of_ble_eq_true rfl) (fun h_d q_d s_d => ?_)
  obtain ⟨hJd, hDd, fzd⟩ := q_d
  have hDD : Dd FSd h h_d tp _ _ := ⟨hJd, hDd, fzd.mono (by decide)⟩
  have hDk := hDd.ok
  have hC := ChC.fz hC fzd (by decide)
  have H_mc := fzd.hs H_mc (by decide)
  have H_txs := fzd.hs H_txs (by decide)
  have H_ch := fzd.hs H_ch (by decide)
  have H_sx := fzd.hs H_sx (by decide)
  obtain ⟨drowd, rowd, wd, ad, H_de, H_dw, H_da, H_dr, hdrowd, hLd1, hLd2, hdrnd, hRwd, hLd3⟩ := id hDd
  refine e_iloadn d_X10_deals_20 rfl ?_
  refine e_iconst (v := -1) d_X10_deals_21 (by decide) ?_
  refine e_icmp_ne d_X10_deals_22 (fun c_22 => ?_) (fun c_22 => ?_)
  · obtain ⟨k9, hk9, rfl⟩ : ∃ k : Nat, k < 2 ^ 31 ∧ i = nI k := i_nat hi c_22
    refine e_iloadn d_X10_deals_33 rfl ?_
    refine e_aloadn d_X10_deals_34 rfl ?_
    refine e_get d_X10_deals_35 f_X10_74 H_mc rfl ?_
    refine e_get d_X10_deals_38 f_X10_178 H_de rfl ?_
    refine e_icmp_ge d_X10_deals_41 (fun c => ?_) (fun c => ?_)
    · have c := i_le (by omega) hk9 c
      have hl9 : (DLs ca N nc kd cd many near)[k9]? = none := List.getElem?_eq_none (by omega)
      refine e_iconst (v := -1) d_X10_deals_68 (by decide) ?_
      exact e_iret d_X10_deals_69 rfl (rfl) (⟨_, rfl, by first | (rw [dealsA, if_neg c_22, nI_clamp hk9, hl9]; exact hRwd k9 _ hl9) | rw [dealsA, if_neg c_22, nI_clamp hk9, hl9], hDD⟩)
    · have c := i_nle (by omega) hk9 c
      obtain ⟨v9, hl9⟩ : ∃ v, (DLs ca N nc kd cd many near)[k9]? = some v := ⟨_, List.getElem?_eq_getElem c⟩
      refine e_iloadn d_X10_deals_44 rfl ?_
      refine e_aloadn d_X10_deals_45 rfl ?_
      refine e_get d_X10_deals_46 f_X10_74 H_mc rfl ?_
      refine e_get d_X10_deals_49 f_X10_179 H_de rfl ?_
      refine e_alenI d_X10_deals_52 H_dr ?_
      refine e_icmp_ge d_X10_deals_53 (fun z => by first | exact absurd (fun z => absurd (i_le (by omega) hk9 z) (by omega)) z | exact absurd z (fun z => absurd (i_le (by omega) hk9 z) (by omega))) (fun _ => ?_)
      refine e_aloadn d_X10_deals_56 rfl ?_
      refine e_get d_X10_deals_57 f_X10_74 H_mc rfl ?_
      refine e_get d_X10_deals_60 f_X10_179 H_de rfl ?_
      refine e_iloadn d_X10_deals_63 rfl ?_
      refine e_ialdN (k := k9) d_X10_deals_64 H_dr rfl (by omega) (by omega) ?_
      refine e_gt d_X10_deals_65 ?_
      exact e_iret d_X10_deals_69 rfl (rfl) (⟨_, rfl, by first | (rw [dealsA, if_neg c_22, nI_clamp hk9, hl9]; exact hRwd k9 _ hl9) | rw [dealsA, if_neg c_22, nI_clamp hk9, hl9], hDD⟩)
  · refine e_aloadn d_X10_deals_25 rfl ?_
    refine e_get d_X10_deals_26 f_X10_74 H_mc rfl ?_
    refine e_get d_X10_deals_29 f_X10_178 H_de rfl ?_
    exact e_iret d_X10_deals_32 rfl (rfl) (⟨_, rfl, by rw [dealsA, if_pos (by first | exact c_22 | exact Decidable.of_not_not c_22)], hDD⟩)

theorem s_X10_gapUpper2 {h : AH} {tc tl lf lp cost : Int32} {g1 g2 k1 k2 ans less : Nat → Int32} {T A B S : Nat} (H_mc : Hs h 0 (oMC tc tl lf lp cost)) (H_ta : Hs h 31 (oTa 31 (nI (pS (own ans less T A) 14 16383)))) (H_al : Hs h 32 (aI 128 g1)) (H_ah : Hs h 33 (aI 128 g2)) (hTA : TB g1 g2 (own ans less T A)) (H_tb : Hs h 35 (oTa 35 (nI (pS (own ans less T B) 14 16383)))) (H_bl : Hs h 36 (aI 128 k1)) (H_bh : Hs h 37 (aI 128 k2)) (hTB : TB k1 k2 (own ans less T B)) (hS : S < 16384) (hV : ∀ c, c < 14 → ans (T * 14 + c) = -1 ∨ ∃ v, v ≤ 99 ∧ ans (T * 14 + c) = nI v) : Sp M_X10_gapUpper (0, 0) h [.ref 0, .int (nI S)] (pJ (Int64.ofInt (gpU ans less T A B S)) h) := s_X10_gapUpper H_mc H_ta H_al H_ah hTA H_tb H_bl H_bh hTB hS hV
theorem s_X10_gapLower2 {h : AH} {tc tl lf lp cost : Int32} {g1 g2 k1 k2 ans less : Nat → Int32} {T A B S : Nat} (H_mc : Hs h 0 (oMC tc tl lf lp cost)) (H_ta : Hs h 31 (oTa 31 (nI (pS (own ans less T A) 14 16383)))) (H_al : Hs h 32 (aI 128 g1)) (H_ah : Hs h 33 (aI 128 g2)) (hTA : TB g1 g2 (own ans less T A)) (H_tb : Hs h 35 (oTa 35 (nI (pS (own ans less T B) 14 16383)))) (H_bl : Hs h 36 (aI 128 k1)) (H_bh : Hs h 37 (aI 128 k2)) (hTB : TB k1 k2 (own ans less T B)) (hS : S < 16384) (hV : ∀ c, c < 14 → ans (T * 14 + c) = -1 ∨ ∃ v, v ≤ 99 ∧ ans (T * 14 + c) = nI v) : Sp M_X10_gapLower (0, 0) h [.ref 0, .int (nI S)] (pJ (Int64.ofInt (gpL ans T A B S)) h) := s_X10_gapLower H_mc H_ta H_al H_ah hTA H_tb H_bl H_bh hTB hS hV
theorem s_X10_gap {h : AH} {κ : Nat × Nat} {tp nc : Nat} {kd : Nat → Nat} {cd : Nat → List Nat} {many near : Int32} {nms : Nat → Int32} {N : Nat} {ca : Nat → Nat → Nat} {co : Int32} {S0 tcn : Nat} {tl lf lp cost dtext : Int32} {texts : Nat → Option Nat} {drn : Nat} {L0 : List Nat} {T A B : Nat} {n : Nat} {less ans : Nat → Int32} (H_mc : Hs h 0 (oMC (nI tcn) tl lf lp cost)) (H_txs : Hs h 20 (aT 6 texts)) (htx : ∀ t, t < 6 → texts t = some (42 + 4 * t)) (hC : ChC h N ca co (nI S0)) (hT : TxC h tp nc kd cd many near) (hJ : JuC h nms) (hok : okT nc kd cd) (hD : DeX h dtext drn L0) (hL0 : dtext = nI tp → L0 = (DLs ca N nc kd cd many near)) (htp : tp < tcn) (htc : tcn ≤ 6) (hsz : 92 < h.2.1) (hS0 : S0 < 2 ^ N) (hκ : ¬ dtext = nI tp → drn < 2 ^ N → 1 ≤ κ.1 ∧ 2 ^ N ≤ κ.2) (H_th : Hs h 6 (oTh (nI n))) (H_tl_ : Hs h 9 (aZ 12 less)) (H_an : Hs h 11 (aI 168 ans)) (hn : n ≤ 12) (hV : ∀ t, t < 12 → ∀ c, c < 14 → ans (t * 14 + c) = -1 ∨ ∃ v, v ≤ 99 ∧ ans (t * 14 + c) = nI v) (hTa : TaOK h) (hTb : TbOK h) (hTn : T < n) (hA : A = (bs (fun c => decide (nI (ca c 0) = 0)) N)) (hB : B = (bs (fun c => decide (nI (ca c 0) = 1)) N)) : Sp M_X10_gap κ h [.ref 0, .int (nI tp), .int (nI T)] (rI (fun x h' => x = gapA ans less T A B S0 (dlF (DLs ca N nc kd cd many near)) (DLs ca N nc kd cd many near).length ∧ TaOK h' ∧ TbOK h' ∧ Dd FSg h h' tp (if dtext = nI tp then drn else max drn (2 ^ N)) (DLs ca N nc kd cd many near))) := by
  refine ⟨Nat.le_of_ble_eq_true rfl, ?_⟩
  show E _ _ _ 0 h [some (.ref 0), some (.int (nI tp)), some (.int (nI T)), none, none, none, none, none, none, none, none, none] []
  have hC9 := hC
  obtain ⟨hN, hca, sexes, wits, homes, works, H_ch, H_sx, H_wt, H_hm, H_wk, hc4⟩ := hC9
  have hS1 : S0 < 16384 := Nat.lt_of_lt_of_le hS0 (pw_31 N hN)
  have hA2 : 2 ^ N - 1 < 2 ^ 31 := by have := Nat.pow_le_pow_right (n := 2) (by decide) hN; omega
  obtain ⟨drow, row0, w0, a0, H_de, -⟩ := id hD
  have hA3 : A < 2 ^ 31 := by rw [hA]; have := bs_14 (fun c => decide (nI (ca c 0) = 0)) hN; omega
  have hB3 : B < 2 ^ 31 := by rw [hB]; have := bs_14 (fun c => decide (nI (ca c 0) = 1)) hN; omega
  refine e_aloadn d_X10_gap_0 rfl ?_
  refine e_iloadn d_X10_gap_1 rfl ?_
  refine e_callVI d_X10_gap_2 l_X10_gap_172 H_mc rfl rfl (s_X10_isText H_mc) rfl rfl (Nat.le_of_ble_eq_true rfl) ?_
  refine e_if_eq d_X10_gap_5 (fun z => by first | exact absurd (fun z => bI_0.mp z ⟨(nI_leI (a := 0) (by decide) (by omega)).mpr (by omega), (nI_ltI (by omega) (by omega)).mpr (by omega)⟩) z | exact absurd z (fun z => bI_0.mp z ⟨(nI_leI (a := 0) (by decide) (by omega)).mpr (by omega), (nI_ltI (by omega) (by omega)).mpr (by omega)⟩)) (fun _ => ?_)
  refine e_aloadn d_X10_gap_8 rfl ?_
  refine e_get d_X10_gap_9 f_X10_19 H_mc rfl ?_
  refine e_iloadn d_X10_gap_12 rfl ?_
  refine e_callVI d_X10_gap_13 l_X10_gap_124 H_th rfl rfl (s_X9_has H_th) rfl rfl (Nat.le_of_ble_eq_true rfl) ?_
  refine e_if_ne d_X10_gap_16 (fun _ => ?_) (fun z => by first | exact absurd (fun z => bI_0.mp z ⟨(nI_leI (a := 0) (by decide) (by omega)).mpr (by omega), (nI_ltI (by omega) (by omega)).mpr (by omega)⟩) z | exact absurd z (fun z => bI_0.mp z ⟨(nI_leI (a := 0) (by decide) (by omega)).mpr (by omega), (nI_ltI (by omega) (by omega)).mpr (by omega)⟩))
  refine e_aloadn d_X10_gap_21 rfl ?_
  refine e_iloadn d_X10_gap_22 rfl ?_
  refine e_callKVV d_X10_gap_23 l_X10_gap_175 H_mc rfl rfl (s_X10_deal H_mc H_txs htx hC hT hJ hok hD hL0 (by omega) hsz hκ) rfl rfl (Nat.le_of_ble_eq_true rfl) (fun h_d q_d s_d => ?_)
  obtain ⟨hJd, hDd, fzd⟩ := q_d
  have hDD : Dd FSg h h_d tp _ _ := ⟨hJd, hDd, fzd.mono (by decide)⟩
  have hDk := hDd.ok
  have hC := ChC.fz hC fzd (by decide)
  have hTa := TaOK.fz hTa fzd (by decide)
  have hTb := TbOK.fz hTb fzd (by decide)
  have H_mc := fzd.hs H_mc (by decide)
  have H_txs := fzd.hs H_txs (by decide)
  have H_ch := fzd.hs H_ch (by decide)
  have H_sx := fzd.hs H_sx (by decide)
  have H_th := fzd.hs H_th (by decide)
  have H_tl_ := fzd.hs H_tl_ (by decide)
  have H_an := fzd.hs H_an (by decide)
  obtain ⟨drowd, rowd, wd, ad, H_de, H_dw, H_da, H_dr, hdrowd, hLd1, hLd2, hdrnd, hRwd, hLd3⟩ := id hDd
  obtain ⟨wta, q1, q2, q3, H_ta, H_al, H_ah, H_am, h_al, h_ah⟩ := hTa
  obtain ⟨wtb, r1, r2, r3, H_tb, H_bl, H_bh, H_bm, h_bl, h_bh⟩ := hTb
  refine e_aloadn d_X10_gap_26 rfl ?_
  refine e_get d_X10_gap_27 f_X10_81 H_mc rfl ?_
  refine e_aloadn d_X10_gap_30 rfl ?_
  refine e_get d_X10_gap_31 f_X10_19 H_mc rfl ?_
  refine e_iloadn d_X10_gap_34 rfl ?_
  refine e_aloadn d_X10_gap_35 rfl ?_
  refine e_get d_X10_gap_36 f_X10_10 H_mc rfl ?_
  refine e_iconst (v := 0) d_X10_gap_39 (by decide) ?_
  refine e_callVI d_X10_gap_40 l_X10_gap_138 H_ch rfl rfl (s_X0_ofSex H_ch H_sx hN) rfl rfl (Nat.le_of_ble_eq_true rfl) ?_
  rw [show bs (fun c => decide (sexes c = 0)) N = A from (bs_cong (fun c hc => by rw [(hc4 c hc).1])).trans hA.symm]
  refine e_callRVV d_X10_gap_43 l_X10_gap_142 H_ta rfl rfl (s_X7_load_ar H_th H_tl_ H_an H_ta H_al H_ah h_al h_ah hTn hn hA3 (hV T (by omega))) rfl rfl (Nat.le_of_ble_eq_true rfl) (fun ha9 qa9 sa9 => ?_)
  obtain ⟨⟨ga1, ga2, H_ta, H_al, H_ah, hTA⟩, fra⟩ := qa9
  have H_mc := fra.hs H_mc (by first | decide | (simp; omega))
  have H_txs := fra.hs H_txs (by first | decide | (simp; omega))
  have H_de := fra.hs H_de (by first | decide | (simp; omega))
  have H_ch := fra.hs H_ch (by first | decide | (simp; omega))
  have H_sx := fra.hs H_sx (by first | decide | (simp; omega))
  have H_th := fra.hs H_th (by first | decide | (simp; omega))
  have H_tl_ := fra.hs H_tl_ (by first | decide | (simp; omega))
  have H_an := fra.hs H_an (by first | decide | (simp; omega))
  have H_dr := fra.hs H_dr (by first | decide | (simp; omega))
  have H_DE := DeOK.fr hDk fra (by decide)
  have H_am := fra.hs H_am (by first | decide | (simp; omega))
  have H_tb := fra.hs H_tb (by first | decide | (simp; omega))
  have H_bl := fra.hs H_bl (by first | decide | (simp; omega))
  have H_bh := fra.hs H_bh (by first | decide | (simp; omega))
  have H_bm := fra.hs H_bm (by first | decide | (simp; omega))
  have hDD := hDD.fr fra (by decide)
  refine e_aloadn d_X10_gap_46 rfl ?_
  refine e_get d_X10_gap_47 f_X10_85 H_mc rfl ?_
  refine e_aloadn d_X10_gap_50 rfl ?_
  refine e_get d_X10_gap_51 f_X10_19 H_mc rfl ?_
  refine e_iloadn d_X10_gap_54 rfl ?_
  refine e_aloadn d_X10_gap_55 rfl ?_
  refine e_get d_X10_gap_56 f_X10_10 H_mc rfl ?_
  refine e_iconst (v := 1) d_X10_gap_59 (by decide) ?_
  refine e_callVI d_X10_gap_60 l_X10_gap_138 H_ch rfl rfl (s_X0_ofSex H_ch H_sx hN) rfl rfl (Nat.le_of_ble_eq_true rfl) ?_
  rw [show bs (fun c => decide (sexes c = 1)) N = B from (bs_cong (fun c hc => by rw [(hc4 c hc).1])).trans hB.symm]
  refine e_callRVV d_X10_gap_63 l_X10_gap_142 H_tb rfl rfl (s_X7_load_br H_th H_tl_ H_an H_tb H_bl H_bh h_bl h_bh hTn hn hB3 (hV T (by omega))) rfl rfl (Nat.le_of_ble_eq_true rfl) (fun hb9 qb9 sb9 => ?_)
  obtain ⟨⟨gb1, gb2, H_tb, H_bl, H_bh, hTB⟩, frb⟩ := qb9
  have H_mc := frb.hs H_mc (by first | decide | (simp; omega))
  have H_txs := frb.hs H_txs (by first | decide | (simp; omega))
  have H_de := frb.hs H_de (by first | decide | (simp; omega))
  have H_ch := frb.hs H_ch (by first | decide | (simp; omega))
  have H_sx := frb.hs H_sx (by first | decide | (simp; omega))
  have H_th := frb.hs H_th (by first | decide | (simp; omega))
  have H_tl_ := frb.hs H_tl_ (by first | decide | (simp; omega))
  have H_an := frb.hs H_an (by first | decide | (simp; omega))
  have H_dr := frb.hs H_dr (by first | decide | (simp; omega))
  have H_DE := DeOK.fr H_DE frb (by decide)
  have H_ta := frb.hs H_ta (by first | decide | (simp; omega))
  have H_al := frb.hs H_al (by first | decide | (simp; omega))
  have H_ah := frb.hs H_ah (by first | decide | (simp; omega))
  have H_am := frb.hs H_am (by first | decide | (simp; omega))
  have H_bm := frb.hs H_bm (by first | decide | (simp; omega))
  have hDD := hDD.fr frb (by decide)
  refine e_aloadn d_X10_gap_66 rfl ?_
  refine e_aloadn d_X10_gap_67 rfl ?_
  refine e_get d_X10_gap_68 f_X10_10 H_mc rfl ?_
  refine e_get d_X10_gap_71 f_X10_117 H_ch rfl ?_
  refine e_callVJ d_X10_gap_74 l_X10_gap_254 H_mc rfl rfl (s_X10_gapLower2 H_mc H_ta H_al H_ah hTA H_tb H_bl H_bh hTB hS1 (hV T (by omega))) rfl rfl (Nat.le_of_ble_eq_true rfl) ?_
  refine e_lstoren d_X10_gap_77 (by decide) rfl ?_
  refine e_lloadn d_X10_gap_78 rfl ?_
  refine e_lconst (v := 0) d_X10_gap_79 (by decide) ?_
  refine e_lcmp_eq d_X10_gap_80 d_X10_gap_81 (fun c_80 => ?_) (fun c_80 => ?_)
  · have hz : (gpL ans T A B S0) = 0 := (i64_eq (b := 0) (by have := gpL_in (ans := ans) (T := T) (A := A) (B := B) (S := S0); omega) (by omega)).mp c_80
    refine e_iconst (v := -1) d_X10_gap_94 (by decide) ?_
    exact e_iret d_X10_gap_95 rfl (rfl) (⟨_, rfl, by first | rw [gapA, if_pos (Or.inl hz)] | rw [gapA, if_pos (Or.inr hd0)], ⟨_, ga1, ga2, q3, H_ta, H_al, H_ah, H_am, (TB_0 hTA).1, (TB_0 hTA).2⟩, ⟨_, gb1, gb2, r3, H_tb, H_bl, H_bh, H_bm, (TB_0 hTB).1, (TB_0 hTB).2⟩, hDD⟩)
  · have hz : ¬ (gpL ans T A B S0) = 0 := fun z => c_80 (by rw [z]; rfl)
    refine e_aloadn d_X10_gap_84 rfl ?_
    refine e_get d_X10_gap_85 f_X10_74 H_mc rfl ?_
    refine e_get d_X10_gap_88 f_X10_178 H_de rfl ?_
    refine e_if_ne d_X10_gap_91 (fun c_91 => ?_) (fun c_91 => ?_)
    · have hd0 : ¬ (DLs ca N nc kd cd many near).length = 0 := fun z => c_91 (by rw [z]; rfl)
      refine e_aloadn d_X10_gap_96 rfl ?_
      refine e_aloadn d_X10_gap_97 rfl ?_
      refine e_get d_X10_gap_98 f_X10_10 H_mc rfl ?_
      refine e_get d_X10_gap_101 f_X10_117 H_ch rfl ?_
      refine e_callVJ d_X10_gap_104 l_X10_gap_258 H_mc rfl rfl (s_X10_gapUpper2 H_mc H_ta H_al H_ah hTA H_tb H_bl H_bh hTB hS1 (hV T (by omega))) rfl rfl (Nat.le_of_ble_eq_true rfl) ?_
      refine e_lstore d_X10_gap_107 (by decide) rfl ?_
      refine e_iconst (v := 0) d_X10_gap_109 (by decide) ?_
      refine e_istore d_X10_gap_110 (by decide) rfl ?_
      refine e_iconst (v := 0) d_X10_gap_112 (by decide) ?_
      refine e_istore d_X10_gap_113 (by decide) rfl ?_
      have hA_115 : ∀ i, i ≤ (DLs ca N nc kd cd many near).length → ∀ (f : Int32) (y : Int32), (f = nI (cnt (gpF ans less T A B S0) (dlF (DLs ca N nc kd cd many near)) i)) → (y = nI i) → E M_X10_gap (0, 0) (rI (fun x h' => x = gapA ans less T A B S0 (dlF (DLs ca N nc kd cd many near)) (DLs ca N nc kd cd many near).length ∧ TaOK h' ∧ TbOK h' ∧ Dd FSg h h' tp (if dtext = nI tp then drn else max drn (2 ^ N)) (DLs ca N nc kd cd many near))) 115 (hb9) [some (.ref 0), some (.int (nI tp)), some (.int (nI T)), some (.long (Int64.ofInt (gpL ans T A B S0))), none, some (.long (Int64.ofInt (gpU ans less T A B S0))), none, some (.int f), some (.int y), none, none, none] [] := by
        refine loop_ind (n := (DLs ca N nc kd cd many near).length) ?_
        intro i hi_i ih_115 f y h_f h_y
        subst h_y
        refine e_iload d_X10_gap_115 rfl ?_
        refine e_aloadn d_X10_gap_117 rfl ?_
        refine e_get d_X10_gap_118 f_X10_74 H_mc rfl ?_
        refine e_get d_X10_gap_121 f_X10_178 H_de rfl ?_
        refine e_icmp_ge d_X10_gap_124 (fun c => ?_) (fun c => ?_)
        · have c := i_le (by omega) (by omega) c
          have ei : i = (DLs ca N nc kd cd many near).length := by omega
          refine e_iload d_X10_gap_193 rfl ?_
          exact e_iret d_X10_gap_195 rfl (rfl) (⟨_, rfl, by rw [h_f, ei, gapA, if_neg (by omega)], ⟨_, ga1, ga2, q3, H_ta, H_al, H_ah, H_am, (TB_0 hTA).1, (TB_0 hTA).2⟩, ⟨_, gb1, gb2, r3, H_tb, H_bl, H_bh, H_bm, (TB_0 hTB).1, (TB_0 hTB).2⟩, hDD⟩)
        · have c := i_nle (by omega) (by omega) c
          refine e_iload d_X10_gap_127 rfl ?_
          refine e_aloadn d_X10_gap_129 rfl ?_
          refine e_get d_X10_gap_130 f_X10_74 H_mc rfl ?_
          refine e_get d_X10_gap_133 f_X10_179 H_de rfl ?_
          refine e_alenI d_X10_gap_136 H_dr ?_
          refine e_icmp_ge d_X10_gap_137 (fun z => by first | exact absurd (fun z => absurd (i_le (by omega) (by omega) z) (by omega)) z | exact absurd z (fun z => absurd (i_le (by omega) (by omega) z) (by omega))) (fun _ => ?_)
          refine e_aloadn d_X10_gap_140 rfl ?_
          refine e_get d_X10_gap_141 f_X10_74 H_mc rfl ?_
          refine e_get d_X10_gap_144 f_X10_179 H_de rfl ?_
          refine e_iload d_X10_gap_147 rfl ?_
          refine e_ialdN (k := i) d_X10_gap_149 H_dr rfl (by omega) (by omega) ?_
          have hr1 : rowd i = nI (dlF (DLs ca N nc kd cd many near) i) := hRwd i _ (dlF_at c)
          have hr2 : dlF (DLs ca N nc kd cd many near) i < 16384 := hLd3 _ (List.mem_of_getElem? (dlF_at c))
          rw [hr1]
          generalize hds : dlF (DLs ca N nc kd cd many near) i = ds at hr2
          refine e_istore d_X10_gap_150 (by decide) rfl ?_
          refine e_aloadn d_X10_gap_152 rfl ?_
          refine e_iload d_X10_gap_153 rfl ?_
          refine e_callVJ d_X10_gap_155 l_X10_gap_254 H_mc rfl rfl (s_X10_gapLower2 H_mc H_ta H_al H_ah hTA H_tb H_bl H_bh hTB hr2 (hV T (by omega))) rfl rfl (Nat.le_of_ble_eq_true rfl) ?_
          refine e_lstore d_X10_gap_158 (by decide) rfl ?_
          refine e_lload d_X10_gap_160 rfl ?_
          refine e_lconst (v := 0) d_X10_gap_162 (by decide) ?_
          refine e_lcmp_eq d_X10_gap_163 d_X10_gap_164 (fun c_163 => ?_) (fun c_163 => ?_)
          · have hP : (gpF ans less T A B S0) (dlF (DLs ca N nc kd cd many near) i) = false := by rw [hds, gpF, decide_eq_false_iff_not]; exact fun z => z.1 ((i64_eq (b := 0) (by have := gpL_in (ans := ans) (T := T) (A := A) (B := B) (S := ds); omega) (by omega)).mp c_163)
            refine e_iincw (w := 1) d_X10_gap_187 rfl (by decide) (by decide) rfl ?_
            refine e_gt d_X10_gap_190 ?_
            refine e_drop1 9 ?_
            refine e_drop1 10 ?_
            refine ih_115 (i + 1) (by omega) (by omega) _ _ ?_ ?_
            · rw [h_f, cnt, cnt, sm]
              first | (rw [if_pos hP, nI_1]; done) | (rw [if_neg (by simpa using hP)]; rfl)
            · exact nI_1 i
          · have hz2 : ¬ gpL ans T A B ds = 0 := fun z => c_163 (by rw [z]; rfl)
            refine e_aloadn d_X10_gap_167 rfl ?_
            refine e_iload d_X10_gap_168 rfl ?_
            refine e_callVJ d_X10_gap_170 l_X10_gap_258 H_mc rfl rfl (s_X10_gapUpper2 H_mc H_ta H_al H_ah hTA H_tb H_bl H_bh hTB hr2 (hV T (by omega))) rfl rfl (Nat.le_of_ble_eq_true rfl) ?_
            refine e_lloadn d_X10_gap_173 rfl ?_
            refine e_lmul d_X10_gap_174 ?_
            refine e_lload d_X10_gap_175 rfl ?_
            refine e_lload d_X10_gap_177 rfl ?_
            refine e_lmul d_X10_gap_179 ?_
            rw [← Int64.ofInt_mul, ← Int64.ofInt_mul]
            have hcmp := i64_lt (gpm_in (gpU_in (less := less) (A := A) (B := B) (S := ds) (hV T (by omega))) (gpL_in (ans := ans) (T := T) (A := A) (B := B) (S := S0))) (gpm_in (gpU_in (less := less) (A := A) (B := B) (S := S0) (hV T (by omega))) (gpL_in (ans := ans) (T := T) (A := A) (B := B) (S := ds)))
            refine e_lcmp_lt d_X10_gap_180 d_X10_gap_181 (fun c_180 => ?_) (fun c_180 => ?_)
            · have hP : (gpF ans less T A B S0) (dlF (DLs ca N nc kd cd many near) i) = false := by rw [hds, gpF, decide_eq_false_iff_not]; exact fun z => absurd (hcmp.mp c_180) (by omega)
              refine e_iincw (w := 1) d_X10_gap_187 rfl (by decide) (by decide) rfl ?_
              refine e_gt d_X10_gap_190 ?_
              refine e_drop1 9 ?_
              refine e_drop1 10 ?_
              refine ih_115 (i + 1) (by omega) (by omega) _ _ ?_ ?_
              · rw [h_f, cnt, cnt, sm]
                first | (rw [if_pos hP, nI_1]; done) | (rw [if_neg (by simpa using hP)]; rfl)
              · exact nI_1 i
            · have hP : (gpF ans less T A B S0) (dlF (DLs ca N nc kd cd many near) i) = true := by rw [hds, gpF, decide_eq_true_eq]; exact ⟨hz2, Int.not_lt.mp (fun z => c_180 (hcmp.mpr z))⟩
              refine e_iincw (w := 1) d_X10_gap_184 rfl (by decide) (by decide) rfl ?_
              refine e_iincw (w := 1) d_X10_gap_187 rfl (by decide) (by decide) rfl ?_
              refine e_gt d_X10_gap_190 ?_
              refine e_drop1 9 ?_
              refine e_drop1 10 ?_
              refine ih_115 (i + 1) (by omega) (by omega) _ _ ?_ ?_
              · rw [h_f, cnt, cnt, sm]
                first | (rw [if_pos hP, nI_1]; done) | (rw [if_neg (by simpa using hP)]; rfl)
              · exact nI_1 i
      exact hA_115 0 (by omega) _ _ (rfl) (rfl)
    · have hd0 : (DLs ca N nc kd cd many near).length = 0 := (nI_eq (b := 0) (by omega) (by decide)).mp c_91
      refine e_iconst (v := -1) d_X10_gap_94 (by decide) ?_
      exact e_iret d_X10_gap_95 rfl (rfl) (⟨_, rfl, by first | rw [gapA, if_pos (Or.inl hz)] | rw [gapA, if_pos (Or.inr hd0)], ⟨_, ga1, ga2, q3, H_ta, H_al, H_ah, H_am, (TB_0 hTA).1, (TB_0 hTA).2⟩, ⟨_, gb1, gb2, r3, H_tb, H_bl, H_bh, H_bm, (TB_0 hTB).1, (TB_0 hTB).2⟩, hDD⟩)

theorem s_X5_goOn {h : AH} {k : Nat} {lnow lnext nl fr to : Nat} {lfew lways : Int32} {froms tos now nxt : Nat → Int32} {lf lt : Nat → Nat} (H_lk : Hs h 12 (oLk lnow lnext (nI nl) lfew lways)) (H_lf_ : Hs h 13 (aI 20 froms)) (H_lt : Hs h 14 (aI 20 tos)) (H_ln : Hs h lnow (aI 12 now)) (H_lx : Hs h lnext (aI 12 nxt)) (hnx : lnow = 15 ∧ lnext = 16 ∨ lnow = 16 ∧ lnext = 15) (hnl : nl ≤ 20) (hlk : ∀ i, i < nl → froms i = nI (lf i) ∧ lf i < 12 ∧ tos i = nI (lt i) ∧ lt i < 12) (hnow : ∀ t, t < 12 → now t = nI (wk lf lt nl fr k t)) : Sp M_X5_goOn (0, 0) h [.ref 12] (rV (fun h' => ∃ g1 g2 : Nat → Int32, Hs h' 12 (oLk lnext lnow (nI nl) lfew lways) ∧ Hs h' lnext (aI 12 g1) ∧ Hs h' lnow (aI 12 g2) ∧ (∀ t, t < 12 → g1 t = nI (wk lf lt nl fr (k + 1) t)) ∧ Fr [12, 15, 16] h h')) := by
  refine ⟨Nat.le_of_ble_eq_true rfl, ?_⟩
  show E _ _ _ 0 h [some (.ref 12), none, none, none] []
  refine e_aloadn d_X5_goOn_0 rfl ?_
  refine e_get d_X5_goOn_1 f_X5_21 H_lk rfl ?_
  refine e_iconst (v := 0) d_X5_goOn_4 (by decide) ?_
  refine e_callSV d_X5_goOn_5 l_X5_goOn_34 (s_J7_fill_53178 H_lx (by decide)) rfl rfl (Nat.le_of_ble_eq_true rfl) ?_
  refine e_iconst (v := 0) d_X5_goOn_8 (by decide) ?_
  refine e_istoren d_X5_goOn_9 (by decide) rfl ?_
  have hA_10 : ∀ i, i ≤ nl → ∀ (g : Nat → Int32) (y : Int32), (∀ t, t < 12 → g t = nI (sm (fun i => if lt i = t then wk lf lt nl fr k (lf i) else 0) i)) → (y = nI i) → E M_X5_goOn (0, 0) (rV (fun h' => ∃ g1 g2 : Nat → Int32, Hs h' 12 (oLk lnext lnow (nI nl) lfew lways) ∧ Hs h' lnext (aI 12 g1) ∧ Hs h' lnow (aI 12 g2) ∧ (∀ t, t < 12 → g1 t = nI (wk lf lt nl fr (k + 1) t)) ∧ Fr [12, 15, 16] h h')) 10 (up h lnext (aI 12 g)) [some (.ref 12), some (.int y), none, none] [] := by
    refine loop_ind (n := nl) ?_
    intro i hi_i ih_10 g y h_g h_y
    subst h_y
    refine e_iloadn d_X5_goOn_10 rfl ?_
    refine e_aloadn d_X5_goOn_11 rfl ?_
    refine e_get d_X5_goOn_12 f_X5_24 (H_lk.n (by omega)) rfl ?_
    refine e_icmp_ge d_X5_goOn_15 (fun c => ?_) (fun c => ?_)
    · have c := i_le (by omega) (by omega) c
      obtain rfl : nl = i := by omega
      refine e_aloadn d_X5_goOn_79 rfl ?_
      refine e_get d_X5_goOn_80 f_X5_18 (H_lk.n (by omega)) rfl ?_
      refine e_astoren d_X5_goOn_83 (by decide) rfl ?_
      refine e_aloadn d_X5_goOn_84 rfl ?_
      refine e_aloadn d_X5_goOn_85 rfl ?_
      refine e_get d_X5_goOn_86 f_X5_21 (H_lk.n (by omega)) rfl ?_
      refine e_puta d_X5_goOn_89 f_X5_18 (H_lk.n (by omega)) (Nat.le_of_ble_eq_true rfl) ?_
      refine e_aloadn d_X5_goOn_92 rfl ?_
      refine e_aloadn d_X5_goOn_93 rfl ?_
      refine e_puta d_X5_goOn_94 f_X5_21 ((H_lk.n (by omega)).s) (Nat.le_of_ble_eq_true rfl) ?_
      exact e_vret d_X5_goOn_97 rfl (⟨rfl, g, now, (((H_lk.n (by omega)).s).s), ((H_lx.s.n (by omega)).n (by omega)), (((H_ln.n (by omega)).n (by omega)).n (by omega)), fun t ht => (h_g t ht).trans rfl, ((((Fr.refl [12, 15, 16] _).up (by simp; omega)).up (by decide)).up (by decide))⟩)
    · have c := i_nle (by omega) (by omega) c
      refine e_aloadn d_X5_goOn_18 rfl ?_
      refine e_get d_X5_goOn_19 f_X5_9 (H_lk.n (by omega)) rfl ?_
      refine e_iloadn d_X5_goOn_22 rfl ?_
      obtain ⟨hl1, hl2, hl3, hl4⟩ := hlk i c
      refine e_ialdN (k := i) d_X5_goOn_23 (H_lf_.n (by omega)) rfl (by omega) (by omega) ?_
      rw [hl1]
      refine e_istoren d_X5_goOn_24 (by decide) rfl ?_
      refine e_aloadn d_X5_goOn_25 rfl ?_
      refine e_get d_X5_goOn_26 f_X5_15 (H_lk.n (by omega)) rfl ?_
      refine e_iloadn d_X5_goOn_29 rfl ?_
      refine e_ialdN (k := i) d_X5_goOn_30 (H_lt.n (by omega)) rfl (by omega) (by omega) ?_
      rw [hl3]
      refine e_istoren d_X5_goOn_31 (by decide) rfl ?_
      refine e_iloadn d_X5_goOn_32 rfl ?_
      refine e_if_lt d_X5_goOn_33 (fun z => by first | exact absurd (fun z => absurd (i_lt (b := 0) (by omega) (by decide) z) (by omega)) z | exact absurd z (fun z => absurd (i_lt (b := 0) (by omega) (by decide) z) (by omega))) (fun _ => ?_)
      refine e_iloadn d_X5_goOn_36 rfl ?_
      refine e_aloadn d_X5_goOn_37 rfl ?_
      refine e_get d_X5_goOn_38 f_X5_18 (H_lk.n (by omega)) rfl ?_
      refine e_alenI d_X5_goOn_41 (H_ln.n (by omega)) ?_
      refine e_icmp_ge d_X5_goOn_42 (fun z => by first | exact absurd (fun z => absurd (i_le (a := 12) (by decide) (by omega) z) (by omega)) z | exact absurd z (fun z => absurd (i_le (a := 12) (by decide) (by omega) z) (by omega))) (fun _ => ?_)
      refine e_iloadn d_X5_goOn_45 rfl ?_
      refine e_if_lt d_X5_goOn_46 (fun z => by first | exact absurd (fun z => absurd (i_lt (b := 0) (by omega) (by decide) z) (by omega)) z | exact absurd z (fun z => absurd (i_lt (b := 0) (by omega) (by decide) z) (by omega))) (fun _ => ?_)
      refine e_iloadn d_X5_goOn_49 rfl ?_
      refine e_aloadn d_X5_goOn_50 rfl ?_
      refine e_get d_X5_goOn_51 f_X5_21 (H_lk.n (by omega)) rfl ?_
      refine e_alenI d_X5_goOn_54 H_lx.s ?_
      refine e_icmp_ge d_X5_goOn_55 (fun z => by first | exact absurd (fun z => absurd (i_le (a := 12) (by decide) (by omega) z) (by omega)) z | exact absurd z (fun z => absurd (i_le (a := 12) (by decide) (by omega) z) (by omega))) (fun _ => ?_)
      refine e_aloadn d_X5_goOn_58 rfl ?_
      refine e_get d_X5_goOn_59 f_X5_21 (H_lk.n (by omega)) rfl ?_
      refine e_iloadn d_X5_goOn_62 rfl ?_
      refine e_dup2 d_X5_goOn_63 rfl rfl ?_
      refine e_ialdN (k := lt i) d_X5_goOn_64 H_lx.s rfl (by omega) (by omega) ?_
      refine e_aloadn d_X5_goOn_65 rfl ?_
      refine e_get d_X5_goOn_66 f_X5_18 (H_lk.n (by omega)) rfl ?_
      refine e_iloadn d_X5_goOn_69 rfl ?_
      refine e_ialdN (k := lf i) d_X5_goOn_70 (H_ln.n (by omega)) rfl (by omega) (by omega) ?_
      refine e_iadd d_X5_goOn_71 ?_
      refine e_iastN (k := lt i) d_X5_goOn_72 H_lx.s rfl (by omega) (by omega) ?_
      refine e_iincw (w := 1) d_X5_goOn_73 rfl (by decide) (by decide) rfl ?_
      refine e_gt d_X5_goOn_76 ?_
      rw [up_up]
      refine e_drop1 2 ?_
      refine e_drop1 3 ?_
      refine ih_10 (i + 1) (by omega) (by omega) _ _ ?_ ?_
      · intro t ht
        rw [sm]
        by_cases e : t = lt i
        · subst e; rw [va_up_self, h_g _ ht, hnow _ hl2, if_pos rfl, nI_add]
        · rw [va_up_ne _ _ e, h_g t ht, if_neg (fun z => e z.symm)]; rfl
      · exact nI_1 i
  exact hA_10 0 (by omega) _ _ (fun t ht => by simp only [fillTo, if_pos ht]; rfl) (rfl)

theorem s_X5_walk {h : AH} {lnow lnext nl fr to : Nat} {lfew lways : Int32} {froms tos now nxt : Nat → Int32} {lf lt : Nat → Nat} (H_lk : Hs h 12 (oLk lnow lnext (nI nl) lfew lways)) (H_lf_ : Hs h 13 (aI 20 froms)) (H_lt : Hs h 14 (aI 20 tos)) (H_ln : Hs h lnow (aI 12 now)) (H_lx : Hs h lnext (aI 12 nxt)) (hnx : lnow = 15 ∧ lnext = 16 ∨ lnow = 16 ∧ lnext = 15) (hnl : nl ≤ 20) (hlk : ∀ i, i < nl → froms i = nI (lf i) ∧ lf i < 12 ∧ tos i = nI (lt i) ∧ lt i < 12) (hfr : fr < 12) (hto : to < 12) (hwk : ∀ k, k ≤ 12 → ∀ t, t < 12 → wk lf lt nl fr k t < 1048577) : Sp M_X5_walk (0, 0) h [.ref 12, .int (nI fr), .int (nI to)] (rV (fun h' => ∃ a b, (a = 15 ∧ b = 16 ∨ a = 16 ∧ b = 15) ∧ Hs h' 12 (oLk a b (nI nl) (oI (wkF lf lt nl fr to 12)) (nI (wkS lf lt nl fr to 12))) ∧ Fr [12, 15, 16] h h' ∧ ∃ g : Nat → Int32, Hs h' a (aI 12 g) ∧ ∃ g2 : Nat → Int32, Hs h' b (aI 12 g2))) := by
  refine ⟨Nat.le_of_ble_eq_true rfl, ?_⟩
  show E _ _ _ 0 h [some (.ref 12), some (.int (nI fr)), some (.int (nI to)), none] []
  refine e_aloadn d_X5_walk_0 rfl ?_
  refine e_iconst (v := -1) d_X5_walk_1 (by decide) ?_
  refine e_puti d_X5_walk_2 f_X5_28 H_lk (Nat.le_of_ble_eq_true rfl) ?_
  refine e_aloadn d_X5_walk_5 rfl ?_
  refine e_iconst (v := 0) d_X5_walk_6 (by decide) ?_
  refine e_puti d_X5_walk_7 f_X5_31 H_lk.s (Nat.le_of_ble_eq_true rfl) ?_
  refine e_aloadn d_X5_walk_10 rfl ?_
  refine e_get d_X5_walk_11 f_X5_18 H_lk.s.s rfl ?_
  refine e_iconst (v := 0) d_X5_walk_14 (by decide) ?_
  refine e_callSV d_X5_walk_15 l_X5_walk_34 (s_J7_fill_53178 ((H_ln.n (by omega)).n (by omega)) (by decide)) rfl rfl (Nat.le_of_ble_eq_true rfl) ?_
  refine e_iloadn d_X5_walk_18 rfl ?_
  refine e_if_lt d_X5_walk_19 (fun z => by first | exact absurd (fun z => absurd (i_lt (b := 0) (by omega) (by decide) z) (by omega)) z | exact absurd z (fun z => absurd (i_lt (b := 0) (by omega) (by decide) z) (by omega))) (fun _ => ?_)
  refine e_iloadn d_X5_walk_22 rfl ?_
  refine e_aloadn d_X5_walk_23 rfl ?_
  refine e_get d_X5_walk_24 f_X5_18 (H_lk.s.s.n (by omega)) rfl ?_
  refine e_alenL (v := 12) d_X5_walk_27 (((H_ln.n (by omega)).n (by omega)).s) rfl ?_
  refine e_icmp_ge d_X5_walk_28 (fun z => by first | exact absurd (fun z => absurd (i_le (a := 12) (by decide) (by omega) z) (by omega)) z | exact absurd z (fun z => absurd (i_le (a := 12) (by decide) (by omega) z) (by omega))) (fun _ => ?_)
  refine e_iloadn d_X5_walk_31 rfl ?_
  refine e_if_lt d_X5_walk_32 (fun z => by first | exact absurd (fun z => absurd (i_lt (b := 0) (by omega) (by decide) z) (by omega)) z | exact absurd z (fun z => absurd (i_lt (b := 0) (by omega) (by decide) z) (by omega))) (fun _ => ?_)
  refine e_iloadn d_X5_walk_35 rfl ?_
  refine e_aloadn d_X5_walk_36 rfl ?_
  refine e_get d_X5_walk_37 f_X5_18 (H_lk.s.s.n (by omega)) rfl ?_
  refine e_alenL (v := 12) d_X5_walk_40 (((H_ln.n (by omega)).n (by omega)).s) rfl ?_
  refine e_icmp_lt d_X5_walk_41 (fun _ => ?_) (fun z => by first | exact absurd ((nI_ltI (b := 12) (by omega) (by decide)).mpr (by omega)) z | exact absurd z ((nI_ltI (b := 12) (by omega) (by decide)).mpr (by omega)))
  refine e_aloadn d_X5_walk_45 rfl ?_
  refine e_get d_X5_walk_46 f_X5_18 (H_lk.s.s.n (by omega)) rfl ?_
  refine e_iloadn d_X5_walk_49 rfl ?_
  refine e_iconst (v := 1) d_X5_walk_50 (by decide) ?_
  refine e_iastN (k := fr) d_X5_walk_51 (((H_ln.n (by omega)).n (by omega)).s) rfl (by omega) (by omega) ?_
  refine e_iconst (v := 0) d_X5_walk_52 (by decide) ?_
  refine e_istoren d_X5_walk_53 (by decide) rfl ?_
  have hA_54 : ∀ i, i ≤ 12 → ∀ (k : AH) (a : Nat) (b : Nat) (ab : Unit) (F : Unit) (K : Unit) (g : Unit) (x : Unit) (y : Int32), (a = 15 ∧ b = 16 ∨ a = 16 ∧ b = 15) → (Fr [12, 15, 16] h k) → (Hs k 12 (oLk a b (nI nl) (oI (wkF lf lt nl fr to i)) (nI (wkS lf lt nl fr to i)))) → (∃ g : Nat → Int32, Hs k a (aI 12 g) ∧ ∀ t, t < 12 → g t = nI (wk lf lt nl fr i t)) → (∃ g : Nat → Int32, Hs k b (aI 12 g)) → (y = nI i) → E M_X5_walk (0, 0) (rV (fun h' => ∃ a b, (a = 15 ∧ b = 16 ∨ a = 16 ∧ b = 15) ∧ Hs h' 12 (oLk a b (nI nl) (oI (wkF lf lt nl fr to 12)) (nI (wkS lf lt nl fr to 12))) ∧ Fr [12, 15, 16] h h' ∧ ∃ g : Nat → Int32, Hs h' a (aI 12 g) ∧ ∃ g2 : Nat → Int32, Hs h' b (aI 12 g2))) 54 (k) [some (.ref 12), some (.int (nI fr)), some (.int (nI to)), some (.int y)] [] := by
    refine loop_ind (n := 12) ?_
    intro i hi_i ih_54 k a b ab F K g x y h_ab h_F h_K h_g h_x h_y
    subst h_y
    have hB := hwk i (by omega) to hto
    have H_lf_ := h_F.hs H_lf_ (by decide)
    have H_lt := h_F.hs H_lt (by decide)
    have H_lk := h_K
    obtain ⟨gn, H_ln, hgn⟩ := h_g
    obtain ⟨gx, H_lx⟩ := h_x
    refine e_iloadn d_X5_walk_54 rfl ?_
    refine e_bipush (v := 12) d_X5_walk_55 (by decide) ?_
    refine e_icmp_ge d_X5_walk_57 (fun c => ?_) (fun c => ?_)
    · have c := i_le (a := 12) (by decide) (by omega) c
      obtain rfl : i = 12 := by omega
      exact e_vret d_X5_walk_114 rfl (⟨rfl, a, b, h_ab, h_K, h_F, gn, H_ln, gx, H_lx⟩)
    · have c := i_nle (a := 12) (by decide) (by omega) c
      refine e_aloadn d_X5_walk_60 rfl ?_
      refine e_dup d_X5_walk_61 rfl ?_
      refine e_get d_X5_walk_62 f_X5_31 H_lk rfl ?_
      refine e_aloadn d_X5_walk_65 rfl ?_
      refine e_get d_X5_walk_66 f_X5_18 H_lk rfl ?_
      refine e_iloadn d_X5_walk_69 rfl ?_
      refine e_ialdN (k := to) d_X5_walk_70 H_ln rfl (by omega) (by omega) ?_
      rw [hgn to hto]
      refine e_iadd d_X5_walk_71 ?_
      rw [nI_add]
      refine e_puti d_X5_walk_72 f_X5_31 H_lk (Nat.le_of_ble_eq_true rfl) ?_
      by_cases hf : wkF lf lt nl fr to i = none
      · have hfe : oI (wkF lf lt nl fr to i) = -1 := by rw [hf]; rfl
        refine e_aloadn d_X5_walk_75 rfl ?_
        refine e_aloadn d_X5_walk_76 rfl ?_
        refine e_get d_X5_walk_77 f_X5_28 H_lk.s rfl ?_
        refine e_iconst (v := -1) d_X5_walk_80 (by decide) ?_
        refine e_icmp_ne d_X5_walk_81 (fun z => by first | exact absurd (fun z => z hfe) z | exact absurd z (fun z => z hfe)) (fun _ => ?_)
        refine e_aloadn d_X5_walk_84 rfl ?_
        refine e_get d_X5_walk_85 f_X5_18 H_lk.s rfl ?_
        refine e_iloadn d_X5_walk_88 rfl ?_
        refine e_ialdN (k := to) d_X5_walk_89 (H_ln.n (by omega)) rfl (by omega) (by omega) ?_
        rw [hgn to hto]
        refine e_if_le d_X5_walk_90 (fun c_90 => ?_) (fun c_90 => ?_)
        · have hnz : wk lf lt nl fr i to = 0 := i_np (by omega) c_90
          have hF1 : oI (wkF lf lt nl fr to i) = oI (wkF lf lt nl fr to (i + 1)) := by rw [wkF, hf]; simp only []; rw [if_neg (by omega)]
          refine e_aloadn d_X5_walk_97 rfl ?_
          refine e_get d_X5_walk_98 f_X5_28 H_lk.s rfl ?_
          refine e_puti d_X5_walk_101 f_X5_28 H_lk.s (Nat.le_of_ble_eq_true rfl) ?_
          refine e_aloadn d_X5_walk_104 rfl ?_
          refine e_callRVV d_X5_walk_105 l_X5_walk_40 H_lk.s.s rfl rfl (s_X5_goOn (fr := fr) (to := to) (k := i) H_lk.s.s ((H_lf_.n (by decide)).n (by decide)) ((H_lt.n (by decide)).n (by decide)) ((H_ln.n (by omega)).n (by omega)) ((H_lx.n (by omega)).n (by omega)) h_ab hnl hlk hgn) rfl rfl (Nat.le_of_ble_eq_true rfl) (fun h_105 q_105 s_105 => ?_)
          obtain ⟨g1_105, g2_105, hK_105, hg1_105, hg2_105, hgg_105, fr_105⟩ := q_105
          refine e_iincw (w := 1) d_X5_walk_108 rfl (by decide) (by decide) rfl ?_
          refine e_gt d_X5_walk_111 ?_
          refine ih_54 (i + 1) (by omega) (by omega) _ b a () () () () () _ ?_ ?_ ?_ ?_ ?_ ?_
          · omega
          · exact ((h_F.up (by decide)).up (by decide)).trans fr_105
          · rw [← hF1]; exact hK_105
          · exact ⟨g1_105, hg1_105, hgg_105⟩
          · exact ⟨g2_105, hg2_105⟩
          · exact nI_1 i
        · have hnz : 0 < wk lf lt nl fr i to := i_pos (by omega) c_90
          have hF1 : nI i = oI (wkF lf lt nl fr to (i + 1)) := by rw [wkF, hf]; simp only []; rw [if_pos hnz]; rfl
          refine e_iloadn d_X5_walk_93 rfl ?_
          refine e_gt d_X5_walk_94 ?_
          refine e_puti d_X5_walk_101 f_X5_28 H_lk.s (Nat.le_of_ble_eq_true rfl) ?_
          refine e_aloadn d_X5_walk_104 rfl ?_
          refine e_callRVV d_X5_walk_105 l_X5_walk_40 H_lk.s.s rfl rfl (s_X5_goOn (fr := fr) (to := to) (k := i) H_lk.s.s ((H_lf_.n (by decide)).n (by decide)) ((H_lt.n (by decide)).n (by decide)) ((H_ln.n (by omega)).n (by omega)) ((H_lx.n (by omega)).n (by omega)) h_ab hnl hlk hgn) rfl rfl (Nat.le_of_ble_eq_true rfl) (fun h_105 q_105 s_105 => ?_)
          obtain ⟨g1_105, g2_105, hK_105, hg1_105, hg2_105, hgg_105, fr_105⟩ := q_105
          refine e_iincw (w := 1) d_X5_walk_108 rfl (by decide) (by decide) rfl ?_
          refine e_gt d_X5_walk_111 ?_
          refine ih_54 (i + 1) (by omega) (by omega) _ b a () () () () () _ ?_ ?_ ?_ ?_ ?_ ?_
          · omega
          · exact ((h_F.up (by decide)).up (by decide)).trans fr_105
          · rw [← hF1]; exact hK_105
          · exact ⟨g1_105, hg1_105, hgg_105⟩
          · exact ⟨g2_105, hg2_105⟩
          · exact nI_1 i
      · refine e_aloadn d_X5_walk_75 rfl ?_
        refine e_aloadn d_X5_walk_76 rfl ?_
        refine e_get d_X5_walk_77 f_X5_28 H_lk.s rfl ?_
        refine e_iconst (v := -1) d_X5_walk_80 (by decide) ?_
        obtain ⟨r9, hr9⟩ : ∃ r, wkF lf lt nl fr to i = some r := by
          cases e9 : wkF lf lt nl fr to i with
          | none => exact absurd e9 hf
          | some r => exact ⟨r, rfl⟩
        have hF1 : oI (wkF lf lt nl fr to i) = oI (wkF lf lt nl fr to (i + 1)) := by rw [wkF, hr9]
        refine e_icmp_ne d_X5_walk_81 (fun _ => ?_) (fun z => by first | exact absurd (by rw [hr9]; exact nI_neg1 (by have := wkF_lt hr9; omega)) z | exact absurd z (by rw [hr9]; exact nI_neg1 (by have := wkF_lt hr9; omega)))
        refine e_aloadn d_X5_walk_97 rfl ?_
        refine e_get d_X5_walk_98 f_X5_28 H_lk.s rfl ?_
        refine e_puti d_X5_walk_101 f_X5_28 H_lk.s (Nat.le_of_ble_eq_true rfl) ?_
        refine e_aloadn d_X5_walk_104 rfl ?_
        refine e_callRVV d_X5_walk_105 l_X5_walk_40 H_lk.s.s rfl rfl (s_X5_goOn (fr := fr) (to := to) (k := i) H_lk.s.s ((H_lf_.n (by decide)).n (by decide)) ((H_lt.n (by decide)).n (by decide)) ((H_ln.n (by omega)).n (by omega)) ((H_lx.n (by omega)).n (by omega)) h_ab hnl hlk hgn) rfl rfl (Nat.le_of_ble_eq_true rfl) (fun h_105 q_105 s_105 => ?_)
        obtain ⟨g1_105, g2_105, hK_105, hg1_105, hg2_105, hgg_105, fr_105⟩ := q_105
        refine e_iincw (w := 1) d_X5_walk_108 rfl (by decide) (by decide) rfl ?_
        refine e_gt d_X5_walk_111 ?_
        refine ih_54 (i + 1) (by omega) (by omega) _ b a () () () () () _ ?_ ?_ ?_ ?_ ?_ ?_
        · omega
        · exact ((h_F.up (by decide)).up (by decide)).trans fr_105
        · rw [← hF1]; exact hK_105
        · exact ⟨g1_105, hg1_105, hgg_105⟩
        · exact ⟨g2_105, hg2_105⟩
        · exact nI_1 i
  exact hA_54 0 (by omega) _ lnow lnext () () () () () _ (hnx) ((((Fr.refl [12, 15, 16] _).up (by decide)).up (by decide)).up (by simp; omega) |>.up (by simp; omega)) ((((H_lk.s).s.n (by omega)).n (by omega))) (⟨_, (Hs.s (Hs.s ((H_ln.n (by omega)).n (by omega)))), fun t ht => by simp only [va_up, fillTo, wk]; by_cases e : t = fr <;> simp [e, ht] <;> rfl⟩) (⟨_, ((((H_lx.n (by omega)).n (by omega)).n (by omega)).n (by omega))⟩) (rfl)

theorem wkS_in {lf lt : Nat → Nat} {nl fr to : Nat} (h : ∀ k, k ≤ 12 → ∀ t, t < 12 → wk lf lt nl fr k t < 1048577) (ht : to < 12) : wkS lf lt nl fr to 12 < 2 ^ 31 := by
  have := sm_le (f := fun i => wk lf lt nl fr i to) (b := 1048576) (k := 12) (fun c hc => by have := h c (by omega) to ht; omega)
  rw [wkS]; omega
theorem min_32 {a : Nat} (ha : a < 2 ^ 31) : (if (1000000 : Int32) < nI a then 1000000 else nI a) = nI (min a 1000000) := by
  have q : (1000000 : Int32) < nI a ↔ 1000000 < a := nI_ltI (a := 1000000) (by decide) ha
  by_cases h : 1000000 < a
  · rw [if_pos (q.mpr h), Nat.min_eq_right (by omega)]; rfl
  · rw [if_neg (fun z => h (q.mp z)), Nat.min_eq_left (by omega)]
theorem s_X10_ways {h : AH} {n : Nat} {tc tl lf9 lp cost w : Int32} {lnow lnext nl fr to : Nat} {lfew lways : Int32} {froms tos now nxt : Nat → Int32} {lf lt : Nat → Nat} (H_mc : Hs h 0 (oMC tc tl lf9 lp cost)) (H_th : Hs h 6 (oTh (nI n))) (H_lk : Hs h 12 (oLk lnow lnext (nI nl) lfew lways)) (H_lf_ : Hs h 13 (aI 20 froms)) (H_lt : Hs h 14 (aI 20 tos)) (H_ln : Hs h lnow (aI 12 now)) (H_lx : Hs h lnext (aI 12 nxt)) (hnx : lnow = 15 ∧ lnext = 16 ∨ lnow = 16 ∧ lnext = 15) (hnl : nl ≤ 20) (hlk : ∀ i, i < nl → froms i = nI (lf i) ∧ lf i < 12 ∧ tos i = nI (lt i) ∧ lt i < 12) (hn : n ≤ 12) (hfr : fr < n) (hto : to < n) (hw1 : 0 ≤ w ∧ w ≤ 1) (hwk : ∀ k, k ≤ 12 → ∀ t, t < 12 → wk lf lt nl fr k t < 1048577) : Sp M_X10_ways (0, 0) h [.ref 0, .int (nI fr), .int (nI to), .int w] (rI (fun x h' => x = (if w = 0 then oI (wkF lf lt nl fr to 12) else nI (min (wkS lf lt nl fr to 12) 1000000)) ∧ ∃ a b, (a = 15 ∧ b = 16 ∨ a = 16 ∧ b = 15) ∧ Hs h' 12 (oLk a b (nI nl) (oI (wkF lf lt nl fr to 12)) (nI (wkS lf lt nl fr to 12))) ∧ Fr [12, 15, 16] h h' ∧ ∃ g : Nat → Int32, Hs h' a (aI 12 g) ∧ ∃ g2 : Nat → Int32, Hs h' b (aI 12 g2))) := by
  refine ⟨Nat.le_of_ble_eq_true rfl, ?_⟩
  show E _ _ _ 0 h [some (.ref 0), some (.int (nI fr)), some (.int (nI to)), some (.int w)] []
  refine e_aloadn d_X10_ways_0 rfl ?_
  refine e_get d_X10_ways_1 f_X10_19 H_mc rfl ?_
  refine e_iloadn d_X10_ways_4 rfl ?_
  refine e_callVI d_X10_ways_5 l_X10_ways_124 H_th rfl rfl (s_X9_has H_th) rfl rfl (Nat.le_of_ble_eq_true rfl) ?_
  refine e_if_eq d_X10_ways_8 (fun z => by first | exact absurd (fun z => bI_0.mp z ⟨(nI_leI (a := 0) (by decide) (by omega)).mpr (by omega), (nI_ltI (by omega) (by omega)).mpr (by omega)⟩) z | exact absurd z (fun z => bI_0.mp z ⟨(nI_leI (a := 0) (by decide) (by omega)).mpr (by omega), (nI_ltI (by omega) (by omega)).mpr (by omega)⟩)) (fun _ => ?_)
  refine e_aloadn d_X10_ways_11 rfl ?_
  refine e_get d_X10_ways_12 f_X10_19 H_mc rfl ?_
  refine e_iloadn d_X10_ways_15 rfl ?_
  refine e_callVI d_X10_ways_16 l_X10_ways_124 H_th rfl rfl (s_X9_has H_th) rfl rfl (Nat.le_of_ble_eq_true rfl) ?_
  refine e_if_eq d_X10_ways_19 (fun z => by first | exact absurd (fun z => bI_0.mp z ⟨(nI_leI (a := 0) (by decide) (by omega)).mpr (by omega), (nI_ltI (by omega) (by omega)).mpr (by omega)⟩) z | exact absurd z (fun z => bI_0.mp z ⟨(nI_leI (a := 0) (by decide) (by omega)).mpr (by omega), (nI_ltI (by omega) (by omega)).mpr (by omega)⟩)) (fun _ => ?_)
  refine e_iloadn d_X10_ways_22 rfl ?_
  refine e_iconst (v := 1) d_X10_ways_23 (by decide) ?_
  refine e_callSI d_X10_ways_24 l_X10_ways_99 (s_X10_within) rfl rfl (Nat.le_of_ble_eq_true rfl) ?_
  refine e_if_ne d_X10_ways_27 (fun _ => ?_) (fun z => by first | exact absurd (fun z => bI_0.mp z hw1) z | exact absurd z (fun z => bI_0.mp z hw1))
  refine e_aloadn d_X10_ways_32 rfl ?_
  refine e_get d_X10_ways_33 f_X10_26 H_mc rfl ?_
  refine e_iloadn d_X10_ways_36 rfl ?_
  refine e_iloadn d_X10_ways_37 rfl ?_
  refine e_callRVV d_X10_ways_38 l_X10_ways_239 H_lk rfl rfl (s_X5_walk H_lk H_lf_ H_lt H_ln H_lx hnx hnl hlk (by omega) (by omega) hwk) rfl rfl (Nat.le_of_ble_eq_true rfl) (fun h_38 q_38 s_38 => ?_)
  obtain ⟨aw, bw, hab, hK, fr_38, hrows⟩ := q_38
  have H_mc := fr_38.hs H_mc (by first | decide | (simp; omega))
  have H_th := fr_38.hs H_th (by first | decide | (simp; omega))
  have H_lf_ := fr_38.hs H_lf_ (by first | decide | (simp; omega))
  have H_lt := fr_38.hs H_lt (by first | decide | (simp; omega))
  refine e_iloadn d_X10_ways_41 rfl ?_
  refine e_if_ne d_X10_ways_42 (fun c_42 => ?_) (fun c_42 => ?_)
  · refine e_aloadn d_X10_ways_55 rfl ?_
    refine e_get d_X10_ways_56 f_X10_26 H_mc rfl ?_
    refine e_get d_X10_ways_59 f_X10_245 hK rfl ?_
    refine e_ldc d_X10_ways_62 v_X10_248 ?_
    refine e_callSI d_X10_ways_64 l_X10_ways_249 (s_J9_min_7cf53) rfl rfl (Nat.le_of_ble_eq_true rfl) ?_
    exact e_iret d_X10_ways_67 rfl (rfl) (⟨_, rfl, by first | (rw [if_pos c_42]; done) | (rw [if_neg c_42, min_32 (wkS_in hwk (by omega))]; done), aw, bw, hab, hK, fr_38, hrows⟩)
  · refine e_aloadn d_X10_ways_45 rfl ?_
    refine e_get d_X10_ways_46 f_X10_26 H_mc rfl ?_
    refine e_get d_X10_ways_49 f_X10_243 hK rfl ?_
    refine e_gt d_X10_ways_52 ?_
    exact e_iret d_X10_ways_67 rfl (rfl) (⟨_, rfl, by first | (rw [if_pos c_42]; done) | (rw [if_neg c_42, min_32 (wkS_in hwk (by omega))]; done), aw, bw, hab, hK, fr_38, hrows⟩)

theorem s_X10_back {h : AH} {N : Nat} {ca : Nat → Nat → Nat} {co : Int32} {S0 S cst : Nat} {tc tl lf lp w : Int32} {prices : Nat → Int32} {pr : Nat → Nat} {n : Nat} {less ans : Nat → Int32} (H_mc : Hs h 0 (oMC tc tl lf lp (nI cst))) (hC : ChC h N ca co (nI S0)) (H_tp : Hs h 10 (aI 12 prices)) (H_th : Hs h 6 (oTh (nI n))) (H_tl_ : Hs h 9 (aZ 12 less)) (H_an : Hs h 11 (aI 168 ans)) (hn : n ≤ 12) (hV : ∀ t, t < 12 → ∀ c, c < 14 → ans (t * 14 + c) = -1 ∨ ∃ v, v ≤ 99 ∧ ans (t * 14 + c) = nI v) (hTa : TaOK h) (hS0 : S0 < 2 ^ N) (hS : S < 2 ^ n) (hpr : ∀ t, t < n → prices t = nI (pr t) ∧ pr t ≤ 999) (hcst : 1 ≤ cst ∧ cst ≤ 9999) (hw1 : 0 ≤ w ∧ w ≤ 1) : Sp M_X10_back (0, 0) h [.ref 0, .int (nI S), .int w] (rI (fun x h' => x = backA (bkA pr (fun t => thC ans less (2 ^ N - 1) t S0) S n) cst w ∧ TaOK h' ∧ Fr [31, 32, 33, 34] h h')) := by
  refine ⟨Nat.le_of_ble_eq_true rfl, ?_⟩
  show E _ _ _ 0 h [some (.ref 0), some (.int (nI S)), some (.int w), none, none, none, none, none, none, none, none, none] []
  have hC9 := hC
  obtain ⟨hN, hca, sexes, wits, homes, works, H_ch, H_sx, H_wt, H_hm, H_wk, hc4⟩ := hC9
  have hS1 : S0 < 16384 := Nat.lt_of_lt_of_le hS0 (pw_31 N hN)
  have hA2 : 2 ^ N - 1 < 2 ^ 31 := by have := Nat.pow_le_pow_right (n := 2) (by decide) hN; omega
  have G_mc := H_mc
  have G_ch := H_ch
  have G_tp := H_tp
  have G_th := H_th
  have G_tl_ := H_tl_
  have G_an := H_an
  have hS12 := p12 hS hn
  refine e_aloadn d_X10_back_0 rfl ?_
  refine e_get d_X10_back_1 f_X10_19 H_mc rfl ?_
  refine e_iloadn d_X10_back_4 rfl ?_
  refine e_callVI d_X10_back_5 l_X10_back_192 H_th rfl rfl (s_X9_hasAll H_th) rfl rfl (Nat.le_of_ble_eq_true rfl) ?_
  refine e_if_eq d_X10_back_8 (fun z => by first | exact absurd (fun z => bI_0.mp z ((hasAll_N (by omega) hn).mpr hS)) z | exact absurd z (fun z => bI_0.mp z ((hasAll_N (by omega) hn).mpr hS))) (fun _ => ?_)
  refine e_iloadn d_X10_back_11 rfl ?_
  refine e_iconst (v := 1) d_X10_back_12 (by decide) ?_
  refine e_callSI d_X10_back_13 l_X10_back_99 (s_X10_within) rfl rfl (Nat.le_of_ble_eq_true rfl) ?_
  refine e_if_ne d_X10_back_16 (fun _ => ?_) (fun z => by first | exact absurd (fun z => bI_0.mp z hw1) z | exact absurd z (fun z => bI_0.mp z hw1))
  refine e_lconst (v := 0) d_X10_back_22 (by decide) ?_
  refine e_lstoren d_X10_back_23 (by decide) rfl ?_
  refine e_lconst (v := 0) d_X10_back_24 (by decide) ?_
  refine e_lstore d_X10_back_25 (by decide) rfl ?_
  refine e_iconst (v := -1) d_X10_back_27 (by decide) ?_
  refine e_istore d_X10_back_28 (by decide) rfl ?_
  refine e_iconst (v := 0) d_X10_back_30 (by decide) ?_
  refine e_istore d_X10_back_31 (by decide) rfl ?_
  have hA_33 : ∀ i, i ≤ n → ∀ (k : AH) (F : Unit) (A : Unit) (s : Int64) (g : Int64) (m : Int32) (y : Int32), (Fr [31, 32, 33, 34] h k) → (TaOK k) → (s = Int64.ofInt (bkA pr (fun t => thC ans less (2 ^ N - 1) t S0) S i).1) → (g = Int64.ofInt (bkA pr (fun t => thC ans less (2 ^ N - 1) t S0) S i).2.2) → (m = oI (bkA pr (fun t => thC ans less (2 ^ N - 1) t S0) S i).2.1) → (y = nI i) → E M_X10_back (0, 0) (rI (fun x h' => x = backA (bkA pr (fun t => thC ans less (2 ^ N - 1) t S0) S n) cst w ∧ TaOK h' ∧ Fr [31, 32, 33, 34] h h')) 33 (k) [some (.ref 0), some (.int (nI S)), some (.int w), some (.long s), none, some (.long g), none, some (.int m), some (.int y), none, none, none] [] := by
    refine loop_ind (n := n) ?_
    intro i hi_i ih_33 k F A s g m y h_F h_A h_s h_g h_m h_y
    subst h_y
    subst h_s
    subst h_g
    subst h_m
    have H_mc := h_F.hs G_mc (by decide)
    have H_ch := h_F.hs G_ch (by decide)
    have H_tp := h_F.hs G_tp (by decide)
    have H_th := h_F.hs G_th (by decide)
    have H_tl_ := h_F.hs G_tl_ (by decide)
    have H_an := h_F.hs G_an (by decide)
    have hTa := h_A
    obtain ⟨b1, b2, b3⟩ := bk_in (pr := pr) (d := (fun t => thC ans less (2 ^ N - 1) t S0)) (S := S) (n := i) (fun t ht => ⟨(hpr t (by omega)).2, thC_in (hV t (by omega))⟩)
    refine e_iload d_X10_back_33 rfl ?_
    refine e_aloadn d_X10_back_35 rfl ?_
    refine e_get d_X10_back_36 f_X10_19 H_mc rfl ?_
    refine e_get d_X10_back_39 f_X10_120 H_th rfl ?_
    refine e_icmp_ge d_X10_back_42 (fun c => ?_) (fun c => ?_)
    · have c := i_le (by omega) (by omega) c
      obtain rfl : n = i := by omega
      refine e_iload d_X10_back_125 rfl ?_
      refine e_iconst (v := -1) d_X10_back_127 (by decide) ?_
      refine e_icmp_eq d_X10_back_128 (fun c128 => ?_) (fun c128 => ?_)
      · have hb0 := oI_none c128 b3 (by omega)
        refine e_ldc d_X10_back_139 v_X10_133 ?_
        exact e_iret d_X10_back_141 rfl (rfl) (⟨_, rfl, by simp only [backA]; rw [hb0], h_A, h_F⟩)
      · obtain ⟨r9, hr9⟩ := oI_some c128
        refine e_aloadn d_X10_back_131 rfl ?_
        refine e_get d_X10_back_132 f_X10_61 H_mc rfl ?_
        refine e_iconst (v := 1) d_X10_back_135 (by decide) ?_
        refine e_icmp_ge d_X10_back_136 (fun _ => ?_) (fun z => by first | exact absurd ((nI_leI (a := 1) (by decide) (by omega)).mpr (by omega)) z | exact absurd z ((nI_leI (a := 1) (by decide) (by omega)).mpr (by omega)))
        refine e_iloadn d_X10_back_142 rfl ?_
        refine e_if_ne d_X10_back_143 (fun c_143 => ?_) (fun c_143 => ?_)
        · refine e_iload d_X10_back_157 rfl ?_
          exact e_iret d_X10_back_159 rfl (rfl) (⟨_, rfl, by simp only [backA]; rw [hr9]; first | (rw [Int64.toInt32_ofInt]; simp only []; rw [if_pos (by first | exact c_143 | exact Decidable.of_not_not c_143)]; done) | (simp only []; rw [if_neg c_143]; rfl), h_A, h_F⟩)
        · refine e_lloadn d_X10_back_146 rfl ?_
          refine e_aloadn d_X10_back_147 rfl ?_
          refine e_get d_X10_back_148 f_X10_61 H_mc rfl ?_
          refine e_i2l d_X10_back_151 ?_
          rw [show (nI cst).toInt64 = Int64.ofInt (cst : Int) from i64_of32 (z := (cst : Int)) (by omega) (by omega)]
          refine e_ldiv d_X10_back_152 (fun z => absurd ((i64_eq (b := 0) (by omega) (by omega)).mp z) (by omega)) ?_
          rw [i64_div (by omega) (by omega)]
          refine e_l2i d_X10_back_153 ?_
          refine e_gt d_X10_back_154 ?_
          exact e_iret d_X10_back_159 rfl (rfl) (⟨_, rfl, by simp only [backA]; rw [hr9]; first | (rw [Int64.toInt32_ofInt]; simp only []; rw [if_pos (by first | exact c_143 | exact Decidable.of_not_not c_143)]; done) | (simp only []; rw [if_neg c_143]; rfl), h_A, h_F⟩)
    · have c := i_nle (by omega) (by omega) c
      by_cases hb : bt S i = true
      · refine e_iloadn d_X10_back_45 rfl ?_
        refine e_iload d_X10_back_46 rfl ?_
        refine e_ishr d_X10_back_48 ?_
        refine e_iconst (v := 1) d_X10_back_49 (by decide) ?_
        refine e_iand d_X10_back_50 ?_
        refine e_iconst (v := 1) d_X10_back_51 (by decide) ?_
        refine e_icmp_ne d_X10_back_52 (fun z => by first | exact absurd (fun z => z ((bit1 (by omega) (by omega)).mpr hb)) z | exact absurd z (fun z => z ((bit1 (by omega) (by omega)).mpr hb))) (fun _ => ?_)
        refine e_aloadn d_X10_back_55 rfl ?_
        refine e_iload d_X10_back_56 rfl ?_
        refine e_callRVI d_X10_back_58 l_X10_back_222 H_mc rfl rfl (s_X10_thousandths (T := i) H_mc H_ch H_th H_tl_ H_an hTa (by omega) hN hn hS1 (hV _ (by omega))) rfl rfl (Nat.le_of_ble_eq_true rfl) (fun x_58 h_58 q_58 s_58 => ?_)
        obtain ⟨rfl, hTa_58, fr_58⟩ := q_58
        have H_mc := fr_58.hs H_mc (by first | decide | (simp; omega))
        have H_ch := fr_58.hs H_ch (by first | decide | (simp; omega))
        have H_tp := fr_58.hs H_tp (by first | decide | (simp; omega))
        have H_th := fr_58.hs H_th (by first | decide | (simp; omega))
        have H_tl_ := fr_58.hs H_tl_ (by first | decide | (simp; omega))
        have H_an := fr_58.hs H_an (by first | decide | (simp; omega))
        have hdi := thC_in (less := less) (A := 2 ^ N - 1) (T := i) (S0 := S0) (hV _ (by omega))
        refine e_gt d_X10_back_61 ?_
        refine e_istore d_X10_back_66 (by decide) rfl ?_
        refine e_iload d_X10_back_68 rfl ?_
        refine e_ldc d_X10_back_70 v_X10_133 ?_
        refine e_icmp_eq d_X10_back_72 (fun c72 => ?_) (fun c72 => ?_)
        · have he := (i32_eq (b := -1000000) (by omega) (by omega)).mp c72
          have hbk : bkA pr (fun t => thC ans less (2 ^ N - 1) t S0) S (i + 1) = bkA pr (fun t => thC ans less (2 ^ N - 1) t S0) S i := by rw [bkA, if_neg (fun z => z.2 he)]
          refine e_iincw (w := 1) d_X10_back_119 rfl (by decide) (by decide) rfl ?_
          refine e_gt d_X10_back_122 ?_
          refine e_drop1 9 ?_
          refine ih_33 (i + 1) (by omega) (by omega) _ () () _ _ _ _ ?_ ?_ ?_ ?_ ?_ ?_
          · first
            | exact h_F.trans fr_58
            | exact h_F
          · first
            | exact hTa_58
            | exact h_A
          · rw [hbk]
            try rfl
          · rw [hbk]
            try rfl
          · rw [hbk]
            try rfl
          · exact nI_1 i
        · have hne : ¬ thC ans less (2 ^ N - 1) i S0 = -1000000 := fun z => c72 (by rw [z]; rfl)
          refine e_aloadn d_X10_back_75 rfl ?_
          refine e_get d_X10_back_76 f_X10_19 H_mc rfl ?_
          refine e_get d_X10_back_79 f_X10_225 H_th rfl ?_
          refine e_iload d_X10_back_82 rfl ?_
          refine e_ialdN (k := i) d_X10_back_84 H_tp rfl (by omega) (by omega) ?_
          refine e_i2l d_X10_back_85 ?_
          rw [(hpr i c).1]
          refine e_iload d_X10_back_86 rfl ?_
          refine e_i2l d_X10_back_88 ?_
          refine e_lmul d_X10_back_89 ?_
          rw [mul64 (hpr i c).2 hdi]
          have hpi : -4846149000 ≤ (pr i : Int) * thC ans less (2 ^ N - 1) i S0 ∧ (pr i : Int) * thC ans less (2 ^ N - 1) i S0 ≤ 4846149000 := by
            have q1 : (pr i : Int).natAbs * (thC ans less (2 ^ N - 1) i S0).natAbs ≤ 999 * 4851000 := Nat.mul_le_mul (by have := (hpr i c).2; omega) (by omega)
            rw [← Int.natAbs_mul] at q1
            omega
          refine e_lstore d_X10_back_90 (by decide) rfl ?_
          refine e_lloadn d_X10_back_92 rfl ?_
          refine e_lload d_X10_back_93 rfl ?_
          refine e_ladd d_X10_back_95 ?_
          rw [← Int64.ofInt_add]
          refine e_lstoren d_X10_back_96 (by decide) rfl ?_
          refine e_iload d_X10_back_97 rfl ?_
          refine e_iconst (v := -1) d_X10_back_99 (by decide) ?_
          refine e_icmp_eq d_X10_back_100 (fun c100 => ?_) (fun c100 => ?_)
          · have hbk : bkA pr (fun t => thC ans less (2 ^ N - 1) t S0) S (i + 1) = ((bkA pr (fun t => thC ans less (2 ^ N - 1) t S0) S i).1 + (pr i : Int) * thC ans less (2 ^ N - 1) i S0, some i, (pr i : Int) * thC ans less (2 ^ N - 1) i S0) := by rw [bkA, if_pos ⟨hb, hne⟩, if_pos (Or.inl (oI_none c100 b3 (by omega)))]
            refine e_iload d_X10_back_111 rfl ?_
            refine e_istore d_X10_back_113 (by decide) rfl ?_
            refine e_lload d_X10_back_115 rfl ?_
            refine e_lstore d_X10_back_117 (by decide) rfl ?_
            refine e_iincw (w := 1) d_X10_back_119 rfl (by decide) (by decide) rfl ?_
            refine e_gt d_X10_back_122 ?_
            refine e_drop1 9 ?_
            refine e_drop1 10 ?_
            refine ih_33 (i + 1) (by omega) (by omega) _ () () _ _ _ _ ?_ ?_ ?_ ?_ ?_ ?_
            · first
              | exact h_F.trans fr_58
              | exact h_F
            · first
              | exact hTa_58
              | exact h_A
            · rw [hbk]
              try rfl
            · rw [hbk]
              try rfl
            · rw [hbk]
              try rfl
            · exact nI_1 i
          · obtain ⟨r9, hr9⟩ := oI_some c100
            refine e_lload d_X10_back_103 rfl ?_
            refine e_lload d_X10_back_105 rfl ?_
            refine e_lcmp_le d_X10_back_107 d_X10_back_108 (fun c107 => ?_) (fun c107 => ?_)
            · have hle : (pr i : Int) * thC ans less (2 ^ N - 1) i S0 ≤ (bkA pr (fun t => thC ans less (2 ^ N - 1) t S0) S i).2.2 := by
                have := i64_lt (a := (bkA pr (fun t => thC ans less (2 ^ N - 1) t S0) S i).2.2) (b := (pr i : Int) * thC ans less (2 ^ N - 1) i S0) (by omega) (by omega)
                have c9 : ¬ Int64.ofInt (bkA pr (fun t => thC ans less (2 ^ N - 1) t S0) S i).2.2 < Int64.ofInt ((pr i : Int) * thC ans less (2 ^ N - 1) i S0) := by first | exact Int64.not_lt.mpr c107 | exact c107 | exact fun z => absurd z c107
                rw [this] at c9; omega
              have hbk : bkA pr (fun t => thC ans less (2 ^ N - 1) t S0) S (i + 1) = ((bkA pr (fun t => thC ans less (2 ^ N - 1) t S0) S i).1 + (pr i : Int) * thC ans less (2 ^ N - 1) i S0, (bkA pr (fun t => thC ans less (2 ^ N - 1) t S0) S i).2) := by rw [bkA, if_pos ⟨hb, hne⟩, if_neg (by rw [hr9]; simp; omega)]
              refine e_iincw (w := 1) d_X10_back_119 rfl (by decide) (by decide) rfl ?_
              refine e_gt d_X10_back_122 ?_
              refine e_drop1 9 ?_
              refine e_drop1 10 ?_
              refine ih_33 (i + 1) (by omega) (by omega) _ () () _ _ _ _ ?_ ?_ ?_ ?_ ?_ ?_
              · first
                | exact h_F.trans fr_58
                | exact h_F
              · first
                | exact hTa_58
                | exact h_A
              · rw [hbk]
                try rfl
              · rw [hbk]
                try rfl
              · rw [hbk]
                try rfl
              · exact nI_1 i
            · have hgt : (bkA pr (fun t => thC ans less (2 ^ N - 1) t S0) S i).2.2 < (pr i : Int) * thC ans less (2 ^ N - 1) i S0 := by
                have := i64_lt (a := (bkA pr (fun t => thC ans less (2 ^ N - 1) t S0) S i).2.2) (b := (pr i : Int) * thC ans less (2 ^ N - 1) i S0) (by omega) (by omega)
                have c9 : Int64.ofInt (bkA pr (fun t => thC ans less (2 ^ N - 1) t S0) S i).2.2 < Int64.ofInt ((pr i : Int) * thC ans less (2 ^ N - 1) i S0) := by first | exact Int64.not_le.mp c107 | exact c107 | exact Decidable.of_not_not c107
                exact this.mp c9
              have hbk : bkA pr (fun t => thC ans less (2 ^ N - 1) t S0) S (i + 1) = ((bkA pr (fun t => thC ans less (2 ^ N - 1) t S0) S i).1 + (pr i : Int) * thC ans less (2 ^ N - 1) i S0, some i, (pr i : Int) * thC ans less (2 ^ N - 1) i S0) := by rw [bkA, if_pos ⟨hb, hne⟩, if_pos (Or.inr hgt)]
              refine e_iload d_X10_back_111 rfl ?_
              refine e_istore d_X10_back_113 (by decide) rfl ?_
              refine e_lload d_X10_back_115 rfl ?_
              refine e_lstore d_X10_back_117 (by decide) rfl ?_
              refine e_iincw (w := 1) d_X10_back_119 rfl (by decide) (by decide) rfl ?_
              refine e_gt d_X10_back_122 ?_
              refine e_drop1 9 ?_
              refine e_drop1 10 ?_
              refine ih_33 (i + 1) (by omega) (by omega) _ () () _ _ _ _ ?_ ?_ ?_ ?_ ?_ ?_
              · first
                | exact h_F.trans fr_58
                | exact h_F
              · first
                | exact hTa_58
                | exact h_A
              · rw [hbk]
                try rfl
              · rw [hbk]
                try rfl
              · rw [hbk]
                try rfl
              · exact nI_1 i
      · refine e_iloadn d_X10_back_45 rfl ?_
        refine e_iload d_X10_back_46 rfl ?_
        refine e_ishr d_X10_back_48 ?_
        refine e_iconst (v := 1) d_X10_back_49 (by decide) ?_
        refine e_iand d_X10_back_50 ?_
        refine e_iconst (v := 1) d_X10_back_51 (by decide) ?_
        refine e_icmp_ne d_X10_back_52 (fun _ => ?_) (fun z => by first | exact absurd (fun z => hb ((bit1 (by omega) (by omega)).mp z)) z | exact absurd z (fun z => hb ((bit1 (by omega) (by omega)).mp z)))
        refine e_ldc d_X10_back_64 v_X10_133 ?_
        refine e_istore d_X10_back_66 (by decide) rfl ?_
        refine e_iload d_X10_back_68 rfl ?_
        refine e_ldc d_X10_back_70 v_X10_133 ?_
        have hbk : bkA pr (fun t => thC ans less (2 ^ N - 1) t S0) S (i + 1) = bkA pr (fun t => thC ans less (2 ^ N - 1) t S0) S i := by rw [bkA, if_neg (fun z => hb z.1)]
        refine e_icmp_eq d_X10_back_72 (fun _ => ?_) (fun z => by first | exact absurd (rfl) z | exact absurd z (rfl))
        refine e_iincw (w := 1) d_X10_back_119 rfl (by decide) (by decide) rfl ?_
        refine e_gt d_X10_back_122 ?_
        refine e_drop1 9 ?_
        refine ih_33 (i + 1) (by omega) (by omega) _ () () _ _ _ _ ?_ ?_ ?_ ?_ ?_ ?_
        · first
          | exact h_F.trans fr_58
          | exact h_F
        · first
          | exact hTa_58
          | exact h_A
        · rw [hbk]
          try rfl
        · rw [hbk]
          try rfl
        · rw [hbk]
          try rfl
        · exact nI_1 i
  exact hA_33 0 (by omega) _ () () _ _ _ _ (Fr.refl _ _) (hTa) (rfl) (rfl) (rfl) (rfl)
