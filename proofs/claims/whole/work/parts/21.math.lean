/-! SUMS OVER CHILDREN; D -/
def sm (f : Nat → Nat) : Nat → Nat
  | 0 => 0
  | k + 1 => sm f k + f k
theorem sm_le {f : Nat → Nat} {b : Nat} : ∀ {k : Nat}, (∀ c, c < k → f c ≤ b) → sm f k ≤ b * k
  | 0, _ => Nat.zero_le _
  | k + 1, h => by
    have h1 := sm_le (f := f) (b := b) (k := k) (fun c hc => h c (by omega))
    have h2 := h k (by omega)
    simp only [sm]
    rw [Nat.mul_succ]
    omega
theorem sm_cong {f g : Nat → Nat} : ∀ {k : Nat}, (∀ c, c < k → f c = g c) → sm f k = sm g k
  | 0, _ => rfl
  | k + 1, h => by simp only [sm]; rw [sm_cong (fun c hc => h c (by omega)), h k (by omega)]
theorem sm_add (f g : Nat → Nat) : ∀ k, sm (fun c => f c + g c) k = sm f k + sm g k
  | 0 => rfl
  | k + 1 => by simp only [sm]; rw [sm_add f g k]; omega
theorem sm_mul (b : Nat) (f : Nat → Nat) : ∀ k, sm (fun c => b * f c) k = b * sm f k
  | 0 => rfl
  | k + 1 => by simp only [sm]; rw [sm_mul b f k, Nat.mul_add]
theorem sm_zero {f : Nat → Nat} : ∀ {k : Nat}, (∀ c, c < k → f c = 0) → sm f k = 0
  | 0, _ => rfl
  | k + 1, h => by simp only [sm]; rw [sm_zero (fun c hc => h c (by omega)), h k (by omega)]
theorem sm_split (f : Nat → Nat) (m : Nat) : ∀ n, sm f (m + n) = sm f m + sm (fun k => f (m + k)) n
  | 0 => rfl
  | n + 1 => by rw [← Nat.add_assoc]; simp only [sm]; rw [sm_split f m n]; omega
theorem sm_mono {f g : Nat → Nat} : ∀ {k : Nat}, (∀ c, c < k → f c ≤ g c) → sm f k ≤ sm g k
  | 0, _ => Nat.le_refl _
  | k + 1, h => by
    have h1 := sm_mono (f := f) (g := g) (k := k) (fun c hc => h c (by omega))
    have h2 := h k (by omega)
    simp only [sm]; omega
/-- bit c of a set -/
def bt (S c : Nat) : Bool := S / 2 ^ c % 2 == 1
theorem smod32 {c : Nat} (hc : c < 31) : ((nI c).toBitVec.smod 32).toNat = c := by
  have h : ∀ c, c < 31 → ((nI c).toBitVec.smod 32).toNat = c := by decide +kernel
  exact h c hc
theorem and31 {c : Nat} (hc : c < 32) : nI c &&& 31 = nI c := by
  have h : ∀ c, c < 32 → nI c &&& 31 = nI c := by decide +kernel
  exact h c hc
theorem shrN {S c : Nat} (hS : S < 2 ^ 31) (hc : c < 31) : nI S >>> (nI c &&& 31) = nI (S / 2 ^ c) := by
  rw [and31 (by omega)]
  exact pk_shrN hS _ c (smod32 hc)
theorem shlN {S c : Nat} (hc : c < 31) (h : S * 2 ^ c < 2 ^ 32) : nI S <<< (nI c &&& 31) = nI (S * 2 ^ c) := by
  rw [and31 (by omega)]
  exact pk_shlN _ c (smod32 hc) h
theorem bitAt {S c : Nat} (hS : S < 2 ^ 31) (hc : c < 31) : (nI S >>> (nI c &&& 31)) &&& 1 = nI (S / 2 ^ c % 2) := by
  rw [shrN hS hc]
  exact pk_andN (k := 1) (Nat.lt_of_le_of_lt (Nat.div_le_self _ _) (by omega)) rfl
theorem bit1 {S c : Nat} (hS : S < 2 ^ 31) (hc : c < 31) : (nI S >>> (nI c &&& 31)) &&& 1 = 1 ↔ bt S c = true := by
  rw [bitAt hS hc, show (1 : Int32) = nI 1 from rfl, nI_eq (by omega) (by decide)]
  simp [bt]
/-- of those counted (F) how many are in S, not in S; the sums of V -/
def dN (F : Nat → Bool) (S k : Nat) : Nat := sm (fun c => if F c && bt S c then 1 else 0) k
def dM (F : Nat → Bool) (S k : Nat) : Nat := sm (fun c => if F c && !bt S c then 1 else 0) k
def dS (F : Nat → Bool) (V : Nat → Nat) (S k : Nat) : Nat := sm (fun c => if F c && bt S c then V c else 0) k
def dR (F : Nat → Bool) (V : Nat → Nat) (S k : Nat) : Nat := sm (fun c => if F c && !bt S c then V c else 0) k
theorem dN_le {F : Nat → Bool} {S k : Nat} : dN F S k ≤ k := by
  have := sm_le (f := fun c => if F c && bt S c then 1 else 0) (b := 1) (k := k) (fun c _ => by split <;> omega)
  simp only [dN]; omega
theorem dM_le {F : Nat → Bool} {S k : Nat} : dM F S k ≤ k := by
  have := sm_le (f := fun c => if F c && !bt S c then 1 else 0) (b := 1) (k := k) (fun c _ => by split <;> omega)
  simp only [dM]; omega
theorem dNM_le {F : Nat → Bool} {S k : Nat} : dN F S k + dM F S k ≤ k := by
  have := sm_le (f := fun c => (if F c && bt S c then 1 else 0) + (if F c && !bt S c then 1 else 0)) (b := 1) (k := k) (fun c _ => by cases F c <;> cases bt S c <;> simp)
  simp only [dN, dM]; rw [sm_add] at this; omega
theorem dS_le {F : Nat → Bool} {V : Nat → Nat} {S k : Nat} (hV : ∀ c, c < k → F c = true → V c ≤ 99) : dS F V S k ≤ 99 * dN F S k := by
  have := sm_mono (f := fun c => if F c && bt S c then V c else 0) (g := fun c => 99 * if F c && bt S c then 1 else 0) (k := k) (fun c hc => by
    split
    · rename_i h; simp only [Bool.and_eq_true] at h; have := hV c hc h.1; omega
    · omega)
  rw [sm_mul] at this
  exact this
theorem dR_le {F : Nat → Bool} {V : Nat → Nat} {S k : Nat} (hV : ∀ c, c < k → F c = true → V c ≤ 99) : dR F V S k ≤ 99 * dM F S k := by
  have := sm_mono (f := fun c => if F c && !bt S c then V c else 0) (g := fun c => 99 * if F c && !bt S c then 1 else 0) (k := k) (fun c hc => by
    split
    · rename_i h; simp only [Bool.and_eq_true] at h; have := hV c hc h.1; omega
    · omega)
  rw [sm_mul] at this
  exact this
/-- D's upper: s m - r n -/
def dU (F : Nat → Bool) (V : Nat → Nat) (S k : Nat) : Int := ((dS F V S k * dM F S k : Nat) : Int) - ((dR F V S k * dN F S k : Nat) : Int)
theorem mul_bnd {a b x y : Nat} (h1 : a ≤ x) (h2 : b ≤ y) : a * b ≤ x * y := Nat.mul_le_mul h1 h2
theorem dNM_mul {F : Nat → Bool} {S k : Nat} (hk : k ≤ 14) : dN F S k * dM F S k ≤ 49 := by
  have h := dNM_le (F := F) (S := S) (k := k)
  generalize dN F S k = a at *
  generalize dM F S k = b at *
  have h1 : ∀ a, a ≤ 14 → ∀ b, b ≤ 14 → a + b ≤ 14 → a * b ≤ 49 := by decide +kernel
  exact h1 a (by omega) b (by omega) (by omega)
theorem dU_bnd {F : Nat → Bool} {V : Nat → Nat} {S k : Nat} (hk : k ≤ 14) (hV : ∀ c, c < k → F c = true → V c ≤ 99) : -4851 ≤ dU F V S k ∧ dU F V S k ≤ 4851 := by
  have h1 := dNM_mul (F := F) (S := S) hk
  have h2 := Nat.mul_le_mul_right (dM F S k) (dS_le (S := S) hV)
  have h3 := Nat.mul_le_mul_right (dN F S k) (dR_le (S := S) hV)
  have e2 : 99 * dN F S k * dM F S k = 99 * (dN F S k * dM F S k) := Nat.mul_assoc _ _ _
  have e3 : 99 * dM F S k * dN F S k = 99 * (dN F S k * dM F S k) := by rw [Nat.mul_assoc, Nat.mul_comm (dM F S k)]
  rw [e2] at h2
  rw [e3] at h3
  simp only [dU]
  omega
theorem ofInt_nI (n : Nat) : nI n = Int32.ofInt (n : Int) := rfl
theorem i64_of32 {z : Int} (h1 : -2147483648 ≤ z) (h2 : z < 2147483648) : (Int32.ofInt z).toInt64 = Int64.ofInt z := by
  apply Int64.toInt_inj.mp
  rw [Int32.toInt_toInt64, Int32.toInt_ofInt_of_le (by simpa using h1) (by simpa using h2), Int64.toInt_ofInt_of_le (by simp; omega) (by simp; omega)]
