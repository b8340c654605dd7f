/-! SETS as numbers -/
theorem nI_bv (n : Nat) : (nI n).toBitVec = BitVec.ofNat 32 n := rfl
theorem nI_or (a b : Nat) : nI a ||| nI b = nI (a ||| b) := by
  apply Int32.toBitVec_inj.mp
  rw [Int32.toBitVec_or, nI_bv, nI_bv, nI_bv, BitVec.ofNat_or]
theorem nI_and (a b : Nat) : nI a &&& nI b = nI (a &&& b) := by
  apply Int32.toBitVec_inj.mp
  rw [Int32.toBitVec_and, nI_bv, nI_bv, nI_bv, BitVec.ofNat_and]
theorem nI_xor (a b : Nat) : nI a ^^^ nI b = nI (a ^^^ b) := by
  apply Int32.toBitVec_inj.mp
  rw [Int32.toBitVec_xor, nI_bv, nI_bv, nI_bv, BitVec.ofNat_xor]
/-- a without b -/
def sd (a b : Nat) : Nat := a ^^^ (a &&& b)
theorem nI_sd (a b : Nat) : nI a &&& ~~~(nI b) = nI (sd a b) := by
  rw [sd, ← nI_xor, ← nI_and]
  apply Int32.toBitVec_inj.mp
  simp only [Int32.toBitVec_and, Int32.toBitVec_xor, Int32.toBitVec_not]
  apply BitVec.eq_of_getLsbD_eq
  intro i hi
  simp [hi]
  cases (nI a).toBitVec[i] <;> cases (nI b).toBitVec[i] <;> rfl
theorem bt_sd (a b c : Nat) : bt (sd a b) c = (bt a c && !bt b c) := by
  simp only [bt_tb, sd, Nat.testBit_xor, Nat.testBit_and]
  cases a.testBit c <;> cases b.testBit c <;> rfl
theorem bt_or (a b c : Nat) : bt (a ||| b) c = (bt a c || bt b c) := by simp only [bt_tb, Nat.testBit_or]
theorem bt_and (a b c : Nat) : bt (a &&& b) c = (bt a c && bt b c) := by simp only [bt_tb, Nat.testBit_and]
theorem bt_xor (a b c : Nat) : bt (a ^^^ b) c = (bt a c ^^ bt b c) := by simp only [bt_tb, Nat.testBit_xor]
theorem bt_pow (i c : Nat) : bt (2 ^ i) c = decide (c = i) := by
  rw [bt_tb, Nat.testBit_two_pow]
  by_cases h : i = c <;> simp [h, eq_comm]
theorem sd_le (a b : Nat) : sd a b ≤ a := by
  apply Nat.le_of_testBit
  intro i h
  rw [← bt_tb, bt_sd] at h
  simp only [Bool.and_eq_true] at h
  rw [← bt_tb]; exact h.1
theorem bt_ext {a b : Nat} (h : ∀ c, bt a c = bt b c) : a = b := Nat.eq_of_testBit_eq (fun i => by rw [← bt_tb, ← bt_tb]; exact h i)
theorem bt_ge {a k c : Nat} (ha : a < 2 ^ k) (h : k ≤ c) : bt a c = false := by
  rw [bt_tb]; exact Nat.testBit_lt_two_pow (Nat.lt_of_lt_of_le ha (Nat.pow_le_pow_right (by decide) h))
theorem bt_lt {a k : Nat} (h : ∀ c, k ≤ c → bt a c = false) : a < 2 ^ k := Nat.lt_pow_two_of_testBit a (fun i hi => by rw [← bt_tb]; exact h i hi)
theorem bt_zero (c : Nat) : bt 0 c = false := by simp [bt]
/-- those below k of whom P is so -/
def bs (P : Nat → Bool) : Nat → Nat
  | 0 => 0
  | k + 1 => bs P k ||| (if P k then 2 ^ k else 0)
theorem bt_bs {P : Nat → Bool} {c : Nat} : ∀ k, bt (bs P k) c = (decide (c < k) && P c)
  | 0 => by simp [bs, bt]
  | k + 1 => by
    rw [bs, bt_or, bt_bs k]
    by_cases h : c = k
    · subst h
      cases e : P c <;> simp [bt_pow, bt_zero]
    · have : bt (if P k then 2 ^ k else 0) c = false := by split <;> simp [bt_pow, bt_zero, h]
      rw [this]
      by_cases h2 : c < k
      · simp [h2, Nat.lt_succ_of_lt h2]
      · simp [h2, show ¬ c < k + 1 by omega]
theorem bs_lt (P : Nat → Bool) (k : Nat) : bs P k < 2 ^ k := bt_lt (fun c hc => by rw [bt_bs]; simp [show ¬ c < k by omega])
theorem bs_14 (P : Nat → Bool) {k : Nat} (hk : k ≤ 14) : bs P k < 16384 := Nat.lt_of_lt_of_le (bs_lt P k) (show 2 ^ k ≤ 2 ^ 14 from Nat.pow_le_pow_right (by decide) hk)
theorem bs_cong {P R : Nat → Bool} : ∀ {k : Nat}, (∀ c, c < k → P c = R c) → bs P k = bs R k
  | 0, _ => rfl
  | k + 1, h => by rw [bs, bs, bs_cong (fun c hc => h c (by omega)), h k (by omega)]
/-- the whole of n -/
theorem al_14 : ∀ n, n ≤ 14 → (1 : Int32) <<< (nI n &&& 31) - 1 = nI (2 ^ n - 1) := by decide +kernel
theorem pw14 : ∀ i, i ≤ 14 → (1 : Int32) <<< (nI i &&& 31) = nI (2 ^ i) := by decide +kernel
theorem pw_31 : ∀ i, i ≤ 14 → 2 ^ i ≤ 16384 := by decide +kernel
theorem bt_ones {n c : Nat} : bt (2 ^ n - 1) c = decide (c < n) := by rw [bt_tb, Nat.testBit_two_pow_sub_one]
theorem bt_below {n c : Nat} (h : c < n) : bt (2 ^ n - 1) c = true := by rw [bt_ones]; simp [h]
theorem bt_31 {S c : Nat} (hS : S < 2 ^ 31) (hc : c < 31) {P : Prop} (h1 : bt S c = true → P) (h0 : bt S c = false → ¬ P) : ((nI S >>> (nI c &&& 31)) &&& 1 = 1) ↔ P := by
  rw [bit1 hS hc]
  cases e : bt S c
  · simp [h0 e]
  · simp [h1 e]
/-- how many -/
def pc (S : Nat) : Nat → Nat
  | 0 => 0
  | k + 1 => pc S k + (if bt S k then 1 else 0)
theorem pc_le (S : Nat) : ∀ k, pc S k ≤ k
  | 0 => Nat.le_refl _
  | k + 1 => by have := pc_le S k; simp only [pc]; split <;> omega
theorem pc_cong {S T : Nat} : ∀ {k : Nat}, (∀ c, c < k → bt S c = bt T c) → pc S k = pc T k
  | 0, _ => rfl
  | k + 1, h => by rw [pc, pc, pc_cong (fun c hc => h c (by omega)), h k (by omega)]
theorem bt_0 (S : Nat) : bt S 0 = (S % 2 == 1) := by simp [bt]
theorem bt_div (S c : Nat) : bt S (c + 1) = bt (S / 2) c := by
  simp only [bt]
  rw [Nat.pow_succ, Nat.mul_comm, Nat.div_div_eq_div_mul]
theorem pc_div (S : Nat) : ∀ k, pc S (k + 1) = S % 2 + pc (S / 2) k
  | 0 => by simp only [pc, bt_0]; rcases Nat.mod_two_eq_zero_or_one S with h | h <;> simp [h]
  | k + 1 => by
    rw [pc, pc_div S k, pc, bt_div, Nat.add_assoc]
def pcN : Nat → Nat → Nat
  | 0, _ => 0
  | k + 1, S => S % 2 + pcN k (S / 2)
theorem pcN_eq : ∀ k S, pcN k S = pc S k
  | 0, _ => rfl
  | k + 1, S => by rw [pcN, pcN_eq k, pc_div]
def bitCN (S : Nat) : Nat :=
  let a := S - ((S / 2) &&& 1431655765); let b := (a &&& 858993459) + ((a / 4) &&& 858993459); let c := (b + b / 16) &&& 252645135; let d := c + c / 256; let e := d + d / 65536
  e &&& 63
theorem us_N {x : Nat} (hx : x < 2 ^ 32) (s : Int32) (k : Nat) (hs : ((s.toUInt32 &&& Int32.toUInt32 31).toBitVec % 32).toNat = k) : us (nI x) s = nI (x / 2 ^ k) := pk_ushrN hx s k hs
theorem and_l (a b : Nat) : a &&& b ≤ a := Nat.and_le_left
theorem and_r (a b : Nat) : a &&& b ≤ b := Nat.and_le_right
theorem bitC_N {S : Nat} (hS : S < 2 ^ 32) : bitC (nI S) = nI (bitCN S) := by
  have h1 : bitC1 (nI S) = nI (S - ((S / 2) &&& 1431655765)) := by
    have e : us (nI S) (nI 1) = nI (S / 2) := us_N hS _ 1 (by decide)
    simp only [bitC1, fa_lit, e, nI_and]
    exact pk_sub (Nat.le_trans (and_l _ _) (Nat.div_le_self _ _))
  rw [bitC, h1]
  generalize ha : S - ((S / 2) &&& 1431655765) = a
  have hal : a < 2 ^ 32 := by omega
  have h2 : bitC2 (nI a) = nI ((a &&& 858993459) + ((a / 4) &&& 858993459)) := by
    have e : us (nI a) (nI 2) = nI (a / 4) := us_N hal _ 2 (by decide)
    simp only [bitC2, fa_lit, e, nI_and, nI_add]
  rw [h2]
  have hb1 := and_r a 858993459
  have hb2 := and_r (a / 4) 858993459
  generalize hb : (a &&& 858993459) + ((a / 4) &&& 858993459) = b
  have hbl : b < 2 ^ 32 := by omega
  have h3 : bitC3 (nI b) = nI ((b + b / 16) &&& 252645135) := by
    have e : us (nI b) (nI 4) = nI (b / 16) := us_N hbl _ 4 (by decide)
    simp only [bitC3, fa_lit, e, nI_and, nI_add]
  rw [h3]
  have hc1 := and_r (b + b / 16) 252645135
  generalize hc : (b + b / 16) &&& 252645135 = c
  have h4 : bitC4 (nI c) = nI (c + c / 256) := by
    simp only [bitC4, us_N (show c < 2 ^ 32 by omega) 8 8 (by decide), nI_add]
  rw [h4]
  have h5 : bitC5 (nI (c + c / 256)) = nI (c + c / 256 + (c + c / 256) / 65536) := by
    simp only [bitC5, us_N (show c + c / 256 < 2 ^ 32 by omega) 16 16 (by decide), nI_add]
  rw [h5]
  simp only [fa_lit, nI_and, bitCN, ha, hb, hc]
def lowN : Nat → Nat → Nat
  | 0, _ => 0
  | k + 1, S => if S % 2 = 1 then 0 else 1 + lowN k (S / 2)
theorem bitC_tbl : (List.range 16384).all (fun S => Nat.beq (bitCN S) (pcN 14 S)) = true := by decide +kernel
theorem low_tbl : (List.range 16384).all (fun S => let L := S &&& (4294967296 - S); Nat.beq S 0 || (Nat.ble 1 L && Nat.beq (bitCN (L - 1)) (lowN 14 S))) = true := by decide +kernel
theorem rng_all {f : Nat → Bool} {n : Nat} (h : (List.range n).all f = true) {S : Nat} (hS : S < n) : f S = true := List.all_eq_true.mp h S (List.mem_range.mpr hS)
theorem bitC_pc {S : Nat} (hS : S < 16384) : bitC (nI S) = nI (pc S 14) := by
  have := Nat.eq_of_beq_eq_true (rng_all bitC_tbl hS)
  rw [bitC_N (by omega), this, pcN_eq]
theorem nI_neg {S : Nat} (hS : S ≤ 4294967296) : -(nI S) = nI (4294967296 - S) := by
  have : nI 4294967296 = 0 := by decide
  rw [← pk_sub hS, this]
  exact (Int32.zero_sub _).symm
theorem low_lowN {S : Nat} (hS : S < 16384) (h0 : S ≠ 0) : bitC ((nI S &&& -(nI S)) - 1) = nI (lowN 14 S) := by
  have := rng_all low_tbl hS
  simp only [Bool.or_eq_true, Bool.and_eq_true] at this
  rcases this with h | ⟨h1, h2⟩
  · exact absurd (Nat.eq_of_beq_eq_true h) h0
  · rw [nI_neg (by omega), nI_and, show (1 : Int32) = nI 1 from rfl, pk_sub (Nat.le_of_ble_eq_true h1), bitC_N (by have := and_l S (4294967296 - S); omega), Nat.eq_of_beq_eq_true h2]
theorem lowN_spec : ∀ k S, S ≠ 0 → S < 2 ^ k → lowN k S < k ∧ bt S (lowN k S) = true ∧ ∀ j, j < lowN k S → bt S j = false
  | 0, S, h0, h => absurd (by simpa using h) h0
  | k + 1, S, h0, h => by
    rw [lowN]
    by_cases e : S % 2 = 1
    · rw [if_pos e]
      exact ⟨by omega, by simp [bt_0, e], fun j hj => absurd hj (by omega)⟩
    · rw [if_neg e]
      rw [Nat.pow_succ] at h
      obtain ⟨h1, h2, h3⟩ := lowN_spec k (S / 2) (by omega) (by omega)
      refine ⟨by omega, by rw [Nat.add_comm, bt_div]; exact h2, fun j hj => ?_⟩
      cases j with
      | zero => simp [bt_0, e]
      | succ j => rw [bt_div]; exact h3 j (by omega)
/-- without its lowest -/
def rl (S : Nat) : Nat := S &&& (S - 1)
theorem nI_rl {S : Nat} : nI S &&& (nI S - 1) = nI (rl S) := by
  by_cases h : S = 0
  · subst h; decide
  · rw [show (1 : Int32) = nI 1 from rfl, pk_sub (by omega), nI_and, rl]
theorem bt_rl : ∀ c S, bt (rl S) c = (bt S c && decide (0 < pc S c))
  | 0, S => by
    simp only [rl, bt_and, pc]
    rcases Nat.mod_two_eq_zero_or_one S with h | h
    · simp [bt_0, h]
    · have : (S - 1) % 2 = 0 := by omega
      simp [bt_0, this]
  | c + 1, S => by
    rw [bt_div S, pc_div, rl, bt_and, bt_div, bt_div]
    rcases Nat.mod_two_eq_zero_or_one S with h | h
    · by_cases h0 : S = 0
      · subst h0; simp [bt_zero]
      · have e : (S - 1) / 2 = S / 2 - 1 := by omega
        have := bt_rl c (S / 2)
        rw [rl, bt_and] at this
        rw [e, this, h]; simp
    · have e : (S - 1) / 2 = S / 2 := by omega
      rw [e, h]
      simp
      intro _; omega
theorem pc_rl (S : Nat) : ∀ k, pc (rl S) k = pc S k - 1
  | 0 => rfl
  | k + 1 => by
    rw [pc, pc, pc_rl S k, bt_rl]
    by_cases h : 0 < pc S k
    · simp only [h, decide_true, Bool.and_true]; split <;> omega
    · simp only [h, decide_false, Bool.and_false]
      have h' : pc S k = 0 := by omega
      rw [h']; cases bt S k <;> rfl
/-- the first four -/
def fw (S k : Nat) : Nat := bs (fun c => bt S c && decide (pc S c < 4)) k
theorem sd_rl4 {S : Nat} (hS : S < 16384) : sd S (rl (rl (rl (rl S)))) = fw S 14 := by
  apply bt_ext
  intro c
  rw [bt_sd, fw, bt_bs]
  simp only [bt_rl, pc_rl]
  by_cases h : c < 14
  · cases e : bt S c
    · simp
    · simp only [h, decide_true, Bool.true_and, Bool.and_eq_true]
      by_cases h4 : pc S c < 4
      · simp [h4]; omega
      · simp [h4]; omega
  · rw [bt_ge (k := 14) hS (by omega)]; simp
theorem pc_fw (S : Nat) : ∀ k n, k ≤ n → pc (fw S n) k = min 4 (pc S k)
  | 0, n, _ => by simp [pc]
  | k + 1, n, h => by
    rw [pc, pc, pc_fw S k n (by omega), fw, bt_bs]
    simp only [show k < n by omega, decide_true, Bool.true_and]
    cases e : bt S k
    · simp
    · by_cases h4 : pc S k < 4
      · simp [h4]; omega
      · simp [h4]; omega
