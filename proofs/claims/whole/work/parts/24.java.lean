/-! JAVA'S OWN small functions; Tally's sums -/
theorem s_J9_max_7cf53 {h : AH} {x y : Int32}  : Sp M_J9_max_7cf53 (0, 0) h [.int x, .int y] (pI (if x < y then y else x) h) := by
  refine ⟨Nat.le_of_ble_eq_true rfl, ?_⟩
  show E _ _ _ 0 h [some (.int x), some (.int y)] []
  refine e_iloadn d_J9_max_7cf53_0 rfl ?_
  refine e_iloadn d_J9_max_7cf53_1 rfl ?_
  refine e_icmp_lt d_J9_max_7cf53_2 (fun c_2 => ?_) (fun c_2 => ?_)
  · refine e_iloadn d_J9_max_7cf53_9 rfl ?_
    exact e_iret d_J9_max_7cf53_10 rfl (rfl) (⟨by grind, rfl⟩)
  · refine e_iloadn d_J9_max_7cf53_5 rfl ?_
    refine e_gt d_J9_max_7cf53_6 ?_
    exact e_iret d_J9_max_7cf53_10 rfl (rfl) (⟨by grind, rfl⟩)

theorem s_J9_min_7cf53 {h : AH} {x y : Int32}  : Sp M_J9_min_7cf53 (0, 0) h [.int x, .int y] (pI (if y < x then y else x) h) := by
  refine ⟨Nat.le_of_ble_eq_true rfl, ?_⟩
  show E _ _ _ 0 h [some (.int x), some (.int y)] []
  refine e_iloadn d_J9_min_7cf53_0 rfl ?_
  refine e_iloadn d_J9_min_7cf53_1 rfl ?_
  refine e_icmp_gt d_J9_min_7cf53_2 (fun c_2 => ?_) (fun c_2 => ?_)
  · refine e_iloadn d_J9_min_7cf53_9 rfl ?_
    exact e_iret d_J9_min_7cf53_10 rfl (rfl) (⟨by grind, rfl⟩)
  · refine e_iloadn d_J9_min_7cf53_5 rfl ?_
    refine e_gt d_J9_min_7cf53_6 ?_
    exact e_iret d_J9_min_7cf53_10 rfl (rfl) (⟨by grind, rfl⟩)

theorem s_J9_max_f86c9 {h : AH} {x y : Int64}  : Sp M_J9_max_f86c9 (0, 0) h [.long x, .long y] (pJ (if x < y then y else x) h) := by
  refine ⟨Nat.le_of_ble_eq_true rfl, ?_⟩
  show E _ _ _ 0 h [some (.long x), none, some (.long y), none] []
  refine e_lloadn d_J9_max_f86c9_0 rfl ?_
  refine e_lloadn d_J9_max_f86c9_1 rfl ?_
  refine e_lcmp_lt d_J9_max_f86c9_2 d_J9_max_f86c9_3 (fun c_2 => ?_) (fun c_2 => ?_)
  · refine e_lloadn d_J9_max_f86c9_10 rfl ?_
    exact e_lret d_J9_max_f86c9_11 rfl (⟨by grind, rfl⟩)
  · refine e_lloadn d_J9_max_f86c9_6 rfl ?_
    refine e_gt d_J9_max_f86c9_7 ?_
    exact e_lret d_J9_max_f86c9_11 rfl (⟨by grind, rfl⟩)

theorem s_J9_min_f86c9 {h : AH} {x y : Int64}  : Sp M_J9_min_f86c9 (0, 0) h [.long x, .long y] (pJ (if y < x then y else x) h) := by
  refine ⟨Nat.le_of_ble_eq_true rfl, ?_⟩
  show E _ _ _ 0 h [some (.long x), none, some (.long y), none] []
  refine e_lloadn d_J9_min_f86c9_0 rfl ?_
  refine e_lloadn d_J9_min_f86c9_1 rfl ?_
  refine e_lcmp_gt d_J9_min_f86c9_2 d_J9_min_f86c9_3 (fun c_2 => ?_) (fun c_2 => ?_)
  · refine e_lloadn d_J9_min_f86c9_10 rfl ?_
    exact e_lret d_J9_min_f86c9_11 rfl (⟨by grind, rfl⟩)
  · refine e_lloadn d_J9_min_f86c9_6 rfl ?_
    refine e_gt d_J9_min_f86c9_7 ?_
    exact e_lret d_J9_min_f86c9_11 rfl (⟨by grind, rfl⟩)

theorem s_J9_abs_0f7a4 {h : AH} {x : Int32}  : Sp M_J9_abs_0f7a4 (0, 0) h [.int x] (pI (if x < 0 then -x else x) h) := by
  refine ⟨Nat.le_of_ble_eq_true rfl, ?_⟩
  show E _ _ _ 0 h [some (.int x)] []
  refine e_iloadn d_J9_abs_0f7a4_0 rfl ?_
  refine e_if_ge d_J9_abs_0f7a4_1 (fun c_1 => ?_) (fun c_1 => ?_)
  · refine e_iloadn d_J9_abs_0f7a4_9 rfl ?_
    exact e_iret d_J9_abs_0f7a4_10 rfl (rfl) (⟨by grind, rfl⟩)
  · refine e_iloadn d_J9_abs_0f7a4_4 rfl ?_
    refine e_ineg d_J9_abs_0f7a4_5 ?_
    refine e_gt d_J9_abs_0f7a4_6 ?_
    exact e_iret d_J9_abs_0f7a4_10 rfl (rfl) (⟨by grind, rfl⟩)

theorem s_J9_abs_067f4 {h : AH} {x : Int64}  : Sp M_J9_abs_067f4 (0, 0) h [.long x] (pJ (if x < 0 then -x else x) h) := by
  refine ⟨Nat.le_of_ble_eq_true rfl, ?_⟩
  show E _ _ _ 0 h [some (.long x), none] []
  refine e_lloadn d_J9_abs_067f4_0 rfl ?_
  refine e_lconst (v := 0) d_J9_abs_067f4_1 (by decide) ?_
  refine e_lcmp_ge d_J9_abs_067f4_2 d_J9_abs_067f4_3 (fun c_2 => ?_) (fun c_2 => ?_)
  · refine e_lloadn d_J9_abs_067f4_11 rfl ?_
    exact e_lret d_J9_abs_067f4_12 rfl (⟨by grind, rfl⟩)
  · refine e_lloadn d_J9_abs_067f4_6 rfl ?_
    refine e_lneg d_J9_abs_067f4_7 ?_
    refine e_gt d_J9_abs_067f4_8 ?_
    exact e_lret d_J9_abs_067f4_12 rfl (⟨by grind, rfl⟩)

theorem s_J9_floorDiv_7cf53 {h : AH} {x y : Int32}  (hy : ¬ y = 0) : Sp M_J9_floorDiv_7cf53 (0, 0) h [.int x, .int y] (pI (if x ^^^ y < 0 ∧ ¬ x / y * y = x then x / y - 1 else x / y) h) := by
  refine ⟨Nat.le_of_ble_eq_true rfl, ?_⟩
  show E _ _ _ 0 h [some (.int x), some (.int y), none] []
  refine e_iloadn d_J9_floorDiv_7cf53_0 rfl ?_
  refine e_iloadn d_J9_floorDiv_7cf53_1 rfl ?_
  refine e_idiv d_J9_floorDiv_7cf53_2 (hy) ?_
  refine e_istoren d_J9_floorDiv_7cf53_3 (by decide) rfl ?_
  refine e_iloadn d_J9_floorDiv_7cf53_4 rfl ?_
  refine e_iloadn d_J9_floorDiv_7cf53_5 rfl ?_
  refine e_ixor d_J9_floorDiv_7cf53_6 ?_
  refine e_if_ge d_J9_floorDiv_7cf53_7 (fun c_7 => ?_) (fun c_7 => ?_)
  · refine e_iloadn d_J9_floorDiv_7cf53_21 rfl ?_
    exact e_iret d_J9_floorDiv_7cf53_22 rfl (rfl) (⟨by grind, rfl⟩)
  · refine e_iloadn d_J9_floorDiv_7cf53_10 rfl ?_
    refine e_iloadn d_J9_floorDiv_7cf53_11 rfl ?_
    refine e_imul d_J9_floorDiv_7cf53_12 ?_
    refine e_iloadn d_J9_floorDiv_7cf53_13 rfl ?_
    refine e_icmp_eq d_J9_floorDiv_7cf53_14 (fun c_14 => ?_) (fun c_14 => ?_)
    · refine e_iloadn d_J9_floorDiv_7cf53_21 rfl ?_
      exact e_iret d_J9_floorDiv_7cf53_22 rfl (rfl) (⟨by grind, rfl⟩)
    · refine e_iloadn d_J9_floorDiv_7cf53_17 rfl ?_
      refine e_iconst (v := 1) d_J9_floorDiv_7cf53_18 (by decide) ?_
      refine e_isub d_J9_floorDiv_7cf53_19 ?_
      exact e_iret d_J9_floorDiv_7cf53_20 rfl (rfl) (⟨by grind, rfl⟩)

def us (x s : Int32) : Int32 := (x.toUInt32 >>> (s.toUInt32 &&& Int32.toUInt32 31)).toInt32
def bitC1 (x : Int32) : Int32 := x - (us x 1 &&& 1431655765)
def bitC2 (x : Int32) : Int32 := (x &&& 858993459) + (us x 2 &&& 858993459)
def bitC3 (x : Int32) : Int32 := (x + us x 4) &&& 252645135
def bitC4 (x : Int32) : Int32 := x + us x 8
def bitC5 (x : Int32) : Int32 := x + us x 16
def bitC (x : Int32) : Int32 := bitC5 (bitC4 (bitC3 (bitC2 (bitC1 x)))) &&& 63
theorem s_J6_bitCount_0f7a4 {h : AH} {x : Int32}  : Sp M_J6_bitCount_0f7a4 (0, 0) h [.int x] (pI (bitC x) h) := by
  refine ⟨Nat.le_of_ble_eq_true rfl, ?_⟩
  show E _ _ _ 0 h [some (.int x)] []
  refine e_iloadn d_J6_bitCount_0f7a4_0 rfl ?_
  refine e_iloadn d_J6_bitCount_0f7a4_1 rfl ?_
  refine e_iconst (v := 1) d_J6_bitCount_0f7a4_2 (by decide) ?_
  refine e_iushr d_J6_bitCount_0f7a4_3 ?_
  refine e_ldcw d_J6_bitCount_0f7a4_4 v_J6_265 ?_
  refine e_iand d_J6_bitCount_0f7a4_7 ?_
  refine e_isub d_J6_bitCount_0f7a4_8 ?_
  refine e_istoren d_J6_bitCount_0f7a4_9 (by decide) rfl ?_
  refine e_iloadn d_J6_bitCount_0f7a4_10 rfl ?_
  refine e_ldcw d_J6_bitCount_0f7a4_11 v_J6_266 ?_
  refine e_iand d_J6_bitCount_0f7a4_14 ?_
  refine e_iloadn d_J6_bitCount_0f7a4_15 rfl ?_
  refine e_iconst (v := 2) d_J6_bitCount_0f7a4_16 (by decide) ?_
  refine e_iushr d_J6_bitCount_0f7a4_17 ?_
  refine e_ldcw d_J6_bitCount_0f7a4_18 v_J6_266 ?_
  refine e_iand d_J6_bitCount_0f7a4_21 ?_
  refine e_iadd d_J6_bitCount_0f7a4_22 ?_
  refine e_istoren d_J6_bitCount_0f7a4_23 (by decide) rfl ?_
  refine e_iloadn d_J6_bitCount_0f7a4_24 rfl ?_
  refine e_iloadn d_J6_bitCount_0f7a4_25 rfl ?_
  refine e_iconst (v := 4) d_J6_bitCount_0f7a4_26 (by decide) ?_
  refine e_iushr d_J6_bitCount_0f7a4_27 ?_
  refine e_iadd d_J6_bitCount_0f7a4_28 ?_
  refine e_ldcw d_J6_bitCount_0f7a4_29 v_J6_267 ?_
  refine e_iand d_J6_bitCount_0f7a4_32 ?_
  refine e_istoren d_J6_bitCount_0f7a4_33 (by decide) rfl ?_
  refine e_iloadn d_J6_bitCount_0f7a4_34 rfl ?_
  refine e_iloadn d_J6_bitCount_0f7a4_35 rfl ?_
  refine e_bipush (v := 8) d_J6_bitCount_0f7a4_36 (by decide) ?_
  refine e_iushr d_J6_bitCount_0f7a4_38 ?_
  refine e_iadd d_J6_bitCount_0f7a4_39 ?_
  refine e_istoren d_J6_bitCount_0f7a4_40 (by decide) rfl ?_
  refine e_iloadn d_J6_bitCount_0f7a4_41 rfl ?_
  refine e_iloadn d_J6_bitCount_0f7a4_42 rfl ?_
  refine e_bipush (v := 16) d_J6_bitCount_0f7a4_43 (by decide) ?_
  refine e_iushr d_J6_bitCount_0f7a4_45 ?_
  refine e_iadd d_J6_bitCount_0f7a4_46 ?_
  refine e_istoren d_J6_bitCount_0f7a4_47 (by decide) rfl ?_
  refine e_iloadn d_J6_bitCount_0f7a4_48 rfl ?_
  refine e_bipush (v := 63) d_J6_bitCount_0f7a4_49 (by decide) ?_
  refine e_iand d_J6_bitCount_0f7a4_51 ?_
  exact e_iret d_J6_bitCount_0f7a4_52 rfl (rfl) (⟨rfl, rfl⟩)

theorem sgn_xor {x y : Int32} (hy : 0 < y.toInt) : x ^^^ y < 0 ↔ x.toInt < 0 := by
  have hm : ∀ z : Int32, z < 0 ↔ z.toBitVec.msb = true := by
    intro z
    rw [Int32.lt_iff_toInt_lt, BitVec.msb_eq_toInt]
    simp [Int32.toInt_toBitVec]
  rw [hm, Int32.toBitVec_xor, BitVec.msb_xor, BitVec.msb_eq_toInt, BitVec.msb_eq_toInt]
  simp only [Int32.toInt_toBitVec]
  have : decide (y.toInt < 0) = false := by simp; omega
  rw [this]
  simp
theorem i32_ofInt {z : Int} (h1 : -2147483648 ≤ z) (h2 : z < 2147483648) : (Int32.ofInt z).toInt = z := Int32.toInt_ofInt_of_le (by simpa using h1) (by simpa using h2)
theorem fdiv_32 {x y : Int} (hx1 : -2147483647 ≤ x) (hx2 : x < 2147483648) (hy1 : 0 < y) (hy2 : y < 2147483648) :
    (if Int32.ofInt x ^^^ Int32.ofInt y < 0 ∧ ¬ Int32.ofInt x / Int32.ofInt y * Int32.ofInt y = Int32.ofInt x then Int32.ofInt x / Int32.ofInt y - 1 else Int32.ofInt x / Int32.ofInt y) = Int32.ofInt (x.fdiv y) := by
  have ex := i32_ofInt (z := x) (by omega) hx2
  have ey := i32_ofInt (z := y) (by omega) hy2
  have hq : Int32.ofInt x / Int32.ofInt y = Int32.ofInt (x.tdiv y) := by
    apply Int32.toInt_inj.mp
    have hb : -2147483648 ≤ x.tdiv y ∧ x.tdiv y < 2147483648 := by
      have h1 := Int.natAbs_tdiv_le_natAbs x y
      omega
    have hne : Int32.ofInt x ≠ Int32.minValue := fun z => by
      have h2 := congrArg Int32.toInt z
      rw [ex] at h2
      have h3 : Int32.minValue.toInt = -2147483648 := by decide
      omega
    rw [Int32.toInt_div_of_ne_left _ _ hne, ex, ey, i32_ofInt hb.1 hb.2]
  have hmul : x.tdiv y * y = x - x.tmod y := by have := Int.mul_tdiv_add_tmod x y; rw [Int.mul_comm] at this; omega
  have hbm : -2147483648 ≤ x.tdiv y * y ∧ x.tdiv y * y < 2147483648 := by
    rw [hmul]
    have h1 := tmod_bounds (a := x) hy1
    rcases Int.le_total 0 x with h0 | h0
    · have := Int.tmod_nonneg y h0; omega
    · have : x.tmod y ≤ 0 := by
        have h3 := Int.tmod_nonneg y (a := -x) (by omega)
        rw [Int.neg_tmod] at h3; omega
      omega
  have he : Int32.ofInt (x.tdiv y * y) = Int32.ofInt x ↔ x.tmod y = 0 := by
    rw [← Int32.toInt_inj, i32_ofInt hbm.1 hbm.2, ex, hmul]; omega
  have hs := sgn_xor (x := Int32.ofInt x) (y := Int32.ofInt y) (by omega)
  rw [ex] at hs
  simp only [hq, ← Int32.ofInt_mul, he, hs]
  rw [show (1 : Int32) = Int32.ofInt 1 from rfl, ← Int32.ofInt_sub]
  rw [Int.fdiv_eq_tdiv]
  split
  · rename_i h
    congr 1
    rw [if_neg (by rw [Int.dvd_iff_tmod_eq_zero]; exact h.2), if_neg (by omega), if_pos (by omega), Int.sign_eq_one_of_pos hy1]
  · rename_i h
    congr 1
    by_cases hd : x.tmod y = 0
    · rw [if_pos (by rw [Int.dvd_iff_tmod_eq_zero]; exact hd)]; omega
    · have h0 : ¬ x < 0 := fun z => h ⟨z, hd⟩
      rw [if_neg (by rw [Int.dvd_iff_tmod_eq_zero]; exact hd), if_pos (by omega), if_pos (by omega)]
      omega
