/-! FRAMES: which cells a call may change -/
def Fr (S : List Nat) (h h' : AH) : Prop := h'.1 = h.1 ∧ h.2.1 ≤ h'.2.1 ∧ ∀ k, k < h.2.1 → k ∉ S → h'.2.2 k = h.2.2 k
theorem Fr.hs {S : List Nat} {h h' : AH} {k : Nat} {c : AC} (F : Fr S h h') (H : Hs h k c) (hk : k ∉ S) : Hs h' k c := ⟨Nat.lt_of_lt_of_le H.1 F.2.1, (F.2.2 k H.1 hk).trans H.2⟩
theorem Fr.refl (S : List Nat) (h : AH) : Fr S h h := ⟨rfl, Nat.le_refl _, fun _ _ _ => rfl⟩
theorem Fr.trans {S : List Nat} {h h1 h2 : AH} (F : Fr S h h1) (G : Fr S h1 h2) : Fr S h h2 := ⟨G.1.trans F.1, Nat.le_trans F.2.1 G.2.1, fun k hk hS => (G.2.2 k (Nat.lt_of_lt_of_le hk F.2.1) hS).trans (F.2.2 k hk hS)⟩
theorem Fr.mono {S T : List Nat} {h h' : AH} (F : Fr S h h') (hT : ∀ k, k ∈ S → k ∈ T) : Fr T h h' := ⟨F.1, F.2.1, fun k hk hS => F.2.2 k hk (fun z => hS (hT k z))⟩
theorem Fr.up {S : List Nat} {h h' : AH} {k : Nat} {c : AC} (F : Fr S h h') (hk : k ∈ S) : Fr S h (up h' k c) := ⟨F.1, F.2.1, fun j hj hS => (va_up_ne _ _ (fun z => hS (by rw [z]; exact hk))).trans (F.2.2 j hj hS)⟩
theorem Fr.pu {S : List Nat} {h h' : AH} {c : AC} (F : Fr S h h') : Fr S h (pu h' c) := ⟨F.1, Nat.le_succ_of_le F.2.1, fun j hj hS => (va_up_ne _ _ (Nat.ne_of_lt (Nat.lt_of_lt_of_le hj F.2.1))).trans (F.2.2 j hj hS)⟩
theorem nI_sdx (a b : Nat) : nI a &&& (nI b ^^^ (-1)) = nI (sd a b) := by
  rw [← nI_sd]
  congr 1
  apply Int32.toBitVec_inj.mp
  simp only [Int32.toBitVec_xor, Int32.toBitVec_not]
  exact BitVec.xor_allOnes
/-! the deals: how many are as far -/
/-- what AS FAR wants of S, F and V known; upper and lower really U, L -/
def asF (F : Nat → Bool) (V : Nat → Nat) (U : Int) (L S : Nat) : Bool := decide (0 < dN F S 14 ∧ 0 < dM F S 14 ∧ U * ((dN F S 14 * dM F S 14 : Nat) : Int) ≤ dU F V S 14 * (L : Int))
def cnt (P : Nat → Bool) (dl : Nat → Nat) (D : Nat) : Nat := sm (fun i => if P (dl i) then 1 else 0) D
theorem cnt_le {P : Nat → Bool} {dl : Nat → Nat} {D : Nat} : cnt P dl D ≤ D := by
  have := sm_le (f := fun i => if P (dl i) then 1 else 0) (b := 1) (k := D) (fun c _ => by split <;> omega)
  simp only [cnt]; omega
/-- the class's table -/
def nd (U : Int) (A Z L n : Nat) : Int := U * (n : Int) * ((A - n : Nat) : Int) + ((Z * n * L : Nat) : Int)
def ltb (U : Int) (A Z L n : Nat) : Int32 := if 1 ≤ n ∧ n < A then Int32.ofInt (-((-(nd U A Z L n)).fdiv ((A * L : Nat) : Int))) else 65536
theorem nd_bnd {U : Int} {A Z L n : Nat} (h1 : -4851 ≤ U) (h2 : U ≤ 4851) (hA : A ≤ 14) (hZ : Z ≤ 1386) (hL : L ≤ 49) (hn : n ≤ 14) : -2000000 ≤ nd U A Z L n ∧ nd U A Z L n ≤ 2000000 := by
  have p1 : n * (A - n) ≤ 14 * 14 := Nat.mul_le_mul hn (by omega)
  have p2 : Z * n * L ≤ 1386 * 14 * 49 := Nat.mul_le_mul (Nat.mul_le_mul hZ hn) hL
  have e : nd U A Z L n = U * ((n * (A - n) : Nat) : Int) + ((Z * n * L : Nat) : Int) := by simp only [nd]; push_cast; rw [Int.mul_assoc]
  rw [e]
  generalize hp : n * (A - n) = p at *
  generalize Z * n * L = q at *
  have h3 : -4851 * (p : Int) ≤ U * (p : Int) := Int.mul_le_mul_of_nonneg_right h1 (by omega)
  have h4 : U * (p : Int) ≤ 4851 * (p : Int) := Int.mul_le_mul_of_nonneg_right h2 (by omega)
  omega
theorem ofInt_mul_n (z : Int) (n : Nat) : Int32.ofInt z * nI n = Int32.ofInt (z * (n : Int)) := by rw [Int32.ofInt_mul]; rfl
theorem ofInt_add_n (z : Int) (n : Nat) : Int32.ofInt z + nI n = Int32.ofInt (z + (n : Int)) := by rw [Int32.ofInt_add]; rfl
theorem nd_32 {U : Int} {A Z L n : Nat} (hn : n ≤ A) : Int32.ofInt U * nI n * (nI A - nI n) + nI Z * nI n * nI L = Int32.ofInt (nd U A Z L n) := by
  rw [pk_sub hn, ofInt_mul_n, ofInt_mul_n, pk_mul, pk_mul, ofInt_add_n]
  rfl
theorem ltb_32 {U : Int} {A Z L n : Nat} (h1 : -4851 ≤ U) (h2 : U ≤ 4851) (hA : A ≤ 14) (hZ : Z ≤ 1386) (hL : L ≤ 49) (hL0 : 0 < L) (hn : 1 ≤ n ∧ n < A) {x y : Int32} (hx : x = -(Int32.ofInt (nd U A Z L n))) (hy : y = nI (A * L)) :
    -(if x ^^^ y < 0 ∧ ¬ x / y * y = x then x / y - 1 else x / y) = ltb U A Z L n := by
  have hb := nd_bnd (n := n) h1 h2 hA hZ hL (by omega)
  have hd : 0 < A * L := Nat.mul_pos (by omega) hL0
  have hd2 : A * L ≤ 14 * 49 := Nat.mul_le_mul hA hL
  rw [ltb, if_pos hn, hx, hy, ← Int32.ofInt_neg, ofInt_nI, fdiv_32 (by omega) (by omega) (by omega) (by omega), ← Int32.ofInt_neg]
theorem i32_lt {s : Nat} {z : Int} (hs : s < 100000) (h1 : -100000000 ≤ z) (h2 : z < 100000000) : nI s < Int32.ofInt z ↔ (s : Int) < z := by
  rw [Int32.lt_iff_toInt_lt, nI_toInt (by omega), i32_ofInt (by omega) (by omega)]
/-- a set is as far just when its sum passes the table -/
theorem asF_tab {F : Nat → Bool} {V : Nat → Nat} {U : Int} {L S : Nat} (hV : ∀ c, c < 14 → F c = true → V c ≤ 99) (h1 : -4851 ≤ U) (h2 : U ≤ 4851) (hL : L ≤ 49) (hL0 : 0 < L) :
    ¬ (nI (dS F V S 14) < ltb U (dN F 16383 14) (dS F V 16383 14) L (dN F S 14)) ↔ asF F V U L S = true := by
  have eA : dN F 16383 14 = dN F S 14 + dM F S 14 := dN_all
  have eZ : dS F V 16383 14 = dS F V S 14 + dR F V S 14 := dS_all
  have hs := dS_le (S := S) hV
  have hr := dR_le (S := S) hV
  have hnm := dNM_le (F := F) (S := S) (k := 14)
  rw [show asF F V U L S = true ↔ _ from decide_eq_true_iff]
  simp only [dU]
  rw [eA, eZ]
  generalize dN F S 14 = n at *
  generalize dM F S 14 = m at *
  generalize dS F V S 14 = s at *
  generalize dR F V S 14 = r at *
  by_cases hn : 1 ≤ n ∧ n < n + m
  · have hd : 0 < (n + m) * L := Nat.mul_pos (by omega) hL0
    have hb := nd_bnd (A := n + m) (Z := s + r) (n := n) h1 h2 (by omega) (by omega) hL (by omega)
    have hf : (-(nd U (n + m) (s + r) L n)).fdiv (((n + m) * L : Nat) : Int) = (-(nd U (n + m) (s + r) L n)) / (((n + m) * L : Nat) : Int) := Int.fdiv_eq_ediv_of_nonneg _ (by omega)
    have hb2 : -2000000 ≤ (-(nd U (n + m) (s + r) L n)) / (((n + m) * L : Nat) : Int) ∧ (-(nd U (n + m) (s + r) L n)) / (((n + m) * L : Nat) : Int) ≤ 2000000 := by
      constructor
      · rw [Int.le_ediv_iff_mul_le (by omega)]
        have : (-2000000 : Int) * (((n + m) * L : Nat) : Int) ≤ -2000000 * 1 := Int.mul_le_mul_of_nonpos_left (by omega) (by omega)
        omega
      · rw [← Int.lt_add_one_iff, Int.ediv_lt_iff_lt_mul (by omega)]
        have : (2000001 : Int) * 1 ≤ (2000000 + 1) * (((n + m) * L : Nat) : Int) := Int.mul_le_mul_of_nonneg_left (by omega) (by omega)
        omega
    rw [ltb, if_pos hn, hf, i32_lt (by omega) (by omega) (by omega), Int.not_lt]
    have key : -((-(nd U (n + m) (s + r) L n)) / (((n + m) * L : Nat) : Int)) ≤ (s : Int) ↔ nd U (n + m) (s + r) L n ≤ (s : Int) * (((n + m) * L : Nat) : Int) := by
      have h3 := Int.le_ediv_iff_mul_le (a := -(s : Int)) (b := -(nd U (n + m) (s + r) L n)) (c := (((n + m) * L : Nat) : Int)) (by omega)
      rw [Int.neg_mul] at h3
      constructor
      · intro z; have := h3.mp (by omega); omega
      · intro z; have := h3.mpr (by omega); omega
    rw [key]
    have e : nd U (n + m) (s + r) L n = U * ((n * m : Nat) : Int) + ((s * n * L : Nat) : Int) + ((r * n * L : Nat) : Int) := by
      simp only [nd]
      rw [Nat.add_sub_cancel_left]
      push_cast
      grind
    have e2 : (s : Int) * (((n + m) * L : Nat) : Int) = ((s * n * L : Nat) : Int) + ((s * m * L : Nat) : Int) := by push_cast; grind
    have e3 : (((s * m : Nat) : Int) - ((r * n : Nat) : Int)) * (L : Int) = ((s * m * L : Nat) : Int) - ((r * n * L : Nat) : Int) := by push_cast; grind
    rw [e, e2, e3]
    have hm : 0 < m := by omega
    have hn0 : 0 < n := by omega
    simp only [hm, hn0, true_and]
    omega
  · rw [ltb, if_neg hn]
    have h3 : nI s < (65536 : Int32) := (nI_ltI (b := 65536) (by omega) (by decide)).mpr (by omega)
    simp only [h3, not_true_eq_false, false_iff]
    omega
/-- Tally's cells hold something, the parts of no CHILD 0 -/
def TaOK (h : AH) : Prop := ∃ (w : Int32) (g1 g2 g3 : Nat → Int32), Hs h 31 (oTa 31 w) ∧ Hs h 32 (aI 128 g1) ∧ Hs h 33 (aI 128 g2) ∧ Hs h 34 (aI 16 g3) ∧ g1 0 = 0 ∧ g2 0 = 0
def TbOK (h : AH) : Prop := ∃ (w : Int32) (g1 g2 g3 : Nat → Int32), Hs h 35 (oTa 35 w) ∧ Hs h 36 (aI 128 g1) ∧ Hs h 37 (aI 128 g2) ∧ Hs h 38 (aI 16 g3) ∧ g1 0 = 0 ∧ g2 0 = 0
theorem TB_0 {g1 g2 : Nat → Int32} {o : Nat → Nat} (h : TB g1 g2 o) : g1 0 = 0 ∧ g2 0 = 0 := by
  have e : ∀ o : Nat → Nat, pS o 7 0 = 0 := fun o => sm_zero (fun c _ => by simp [bt_zero])
  rw [h.1 0 (by decide), h.2 0 (by decide), e, e]
  exact ⟨rfl, rfl⟩
