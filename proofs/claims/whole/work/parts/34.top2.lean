/-! MORNINGCOIN'S methods: deals, gap, ways, back, paid, changed, course, live -/
def dealsA (L : List Nat) (i : Int32) : Int32 := if i = -1 then nI L.length else match L[i.toNatClampNeg]? with
  | none => -1
  | some v => nI v
theorem lOf_bt {keys : Nat → Int32} {S : Nat} : ∀ k r, lOf keys S k = some r → bt S r = true
  | 0, r, h => by simp [lOf] at h
  | k + 1, r, h => by
    simp only [lOf] at h
    split at h
    · rename_i hb
      split at h
      · simp at h; subst h; exact hb
      · rename_i q hq
        have := lOf_bt k q hq
        split at h <;> (simp at h; subst h; assumption)
    · exact lOf_bt k r h
theorem lOf_cong {f g : Nat → Int32} {S : Nat} : ∀ {k : Nat}, (∀ j, j < k → bt S j = true → f j = g j) → lOf f S k = lOf g S k
  | 0, _ => rfl
  | k + 1, h => by
    have ih := lOf_cong (fun j hj hb => h j (Nat.lt_succ_of_lt hj) hb)
    simp only [lOf, ih]
    split
    · rename_i hb
      split
      · rfl
      · rename_i r hr
        rw [h k (Nat.lt_succ_self k) hb, h r (by have := lOf_lt k r hr; omega) (lOf_bt k r hr)]
    · rfl
theorem oI_none {o : Option Nat} {b : Nat} (h : oI o = -1) (hb : ∀ r, o = some r → r < b) (h2 : b < 2147483648) : o = none := by
  cases o with
  | none => rfl
  | some r => exact absurd h (nI_neg1 (by have := hb r rfl; omega))
theorem oI_some {o : Option Nat} (h : ¬ oI o = -1) : ∃ r, o = some r := by
  cases o with
  | none => exact absurd rfl h
  | some r => exact ⟨r, rfl⟩
theorem nI_dec {k : Nat} (h : 0 < k) : nI k + (-1) = nI (k - 1) := by
  obtain ⟨j, rfl⟩ : ∃ j, k = j + 1 := ⟨k - 1, by omega⟩
  rw [← nI_1]; simp; grind
/-- the dearest first: what is paid of those left -/
def paidA (G : Nat → Int32) (t : Int32) (D : Nat) : Nat → Nat → Nat → Nat
  | 0, _, p => p
  | k + 1, L, p => match lOf G L 12 with
    | none => p
    | some r => if stC (G r * nI (k + 1)) t D = true then paidA G t D k (sd L (2 ^ r)) (p ||| 2 ^ r) else p
/-- those left of a set when i of the least are gone -/
def lfA (K : Nat → Int32) (L : Nat) : Nat → Nat
  | 0 => L
  | i + 1 => match lOf K (lfA K L i) 12 with
    | none => lfA K L i
    | some r => sd (lfA K L i) (2 ^ r)
def coP (K : Nat → Int32) (L : Nat) (st : Nat → Bool) (i : Nat) : Bool := match lOf K (lfA K L i) 12 with
  | none => false
  | some r => st r
theorem lfA_le {K : Nat → Int32} {L : Nat} : ∀ i, lfA K L i ≤ L
  | 0 => Nat.le_refl _
  | i + 1 => by
    rw [lfA]
    split
    · exact lfA_le i
    · exact Nat.le_trans (sd_le _ _) (lfA_le i)
/-- a COURSE -/
def coA (B m : Nat) (w : Int32) : Int32 := if w = 0 then nI B else if w = 1 then oI (fBeh (fun i => !bt B i) (lowO B) m) else oI (fBeh (fun i => bt B i) (fBeh (fun i => !bt B i) (lowO B) m) m)
theorem not_tbl : (List.range 4096).all (fun B => (List.range 12).all (fun i => (decide (((nI B ^^^ (-1)) >>> (nI i &&& 31)) &&& 1 = 1)) == !bt B i)) = true := by decide +kernel
theorem not_bit {B i : Nat} (hB : B < 4096) (hi : i < 12) : ((nI B ^^^ (-1)) >>> (nI i &&& 31)) &&& 1 = 1 ↔ (!bt B i) = true := by
  have h := rng_all (rng_all not_tbl hB) hi
  rw [beq_iff_eq] at h
  rw [← h, decide_eq_true_eq]
theorem bs_12 (P : Nat → Bool) {k : Nat} (hk : k ≤ 12) : bs P k < 4096 := Nat.lt_of_lt_of_le (bs_lt P k) (show 2 ^ k ≤ 2 ^ 12 from Nat.pow_le_pow_right (by decide) hk)
theorem fBeh_lt {P : Nat → Bool} {p : Option Nat} {n q : Nat} (h : fBeh P p n = some q) : q < n := by
  unfold fBeh at h
  split at h
  · cases h
  · have := List.mem_of_find?_eq_some h
    rwa [List.mem_range] at this
theorem lowO_lt {B q : Nat} (hB : B < 16384) (h : lowO B = some q) : q < 14 := by
  unfold lowO at h
  split at h
  · cases h
  · rename_i h0
    cases h
    exact (lowN_spec 14 B h0 hB).1
/-- subsets, rising -/
def sbs (T : Nat) : Nat → List Nat
  | 0 => [0]
  | k + 1 => if bt T k then sbs T k ++ (sbs T k).map (fun s => s + 2 ^ k) else sbs T k
def nxS (T s : Nat) : Nat := ((s + (4294967296 - T)) % 4294967296) &&& T
def chS (T : Nat) : Nat → Nat → List Nat
  | 0, _ => []
  | k + 1, s => s :: chS T k (nxS T s)
def eqL : List Nat → List Nat → Bool
  | [], [] => true
  | a :: r, b :: s => Nat.beq a b && eqL r s
  | _, _ => false
theorem eqL_eq : ∀ {a b : List Nat}, eqL a b = true → a = b
  | [], [], _ => rfl
  | x :: r, y :: s, h => by
    simp only [eqL, Bool.and_eq_true] at h
    rw [Nat.eq_of_beq_eq_true h.1, eqL_eq h.2]
  | [], _ :: _, h => by simp [eqL] at h
  | _ :: _, [], h => by simp [eqL] at h
def shl2 : Nat → Nat
  | 0 => 1
  | k + 1 => shl2 k + shl2 k
theorem shl2_eq : ∀ k, shl2 k = 2 ^ k
  | 0 => rfl
  | k + 1 => by rw [shl2, shl2_eq k, Nat.pow_succ]; omega
theorem sub_tbl : (List.range 16384).all (fun T => Nat.blt 4 (pcN 14 T) || eqL (chS T (shl2 (pcN 14 T)) 0) (sbs T 14)) = true := by decide +kernel
theorem sub_ch {T : Nat} (hT : T < 16384) (h4 : pc T 14 ≤ 4) : chS T (2 ^ pc T 14) 0 = sbs T 14 := by
  have h := rng_all sub_tbl hT
  rw [Bool.or_eq_true] at h
  rcases h with h | h
  · have := Nat.le_of_ble_eq_true h
    rw [pcN_eq] at this; omega
  · have := eqL_eq h
    rwa [shl2_eq, pcN_eq] at this
theorem chS_len (T : Nat) : ∀ k s, (chS T k s).length = k
  | 0, _ => rfl
  | k + 1, s => by simp [chS, chS_len T k]
def itS (T : Nat) : Nat → Nat
  | 0 => 0
  | i + 1 => nxS T (itS T i)
theorem itS_le {T : Nat} : ∀ i, itS T i ≤ T
  | 0 => Nat.zero_le _
  | i + 1 => Nat.and_le_right
theorem chS_app (T : Nat) : ∀ k s, chS T (k + 1) s = chS T k s ++ [Nat.repeat (nxS T) k s]
  | 0, s => rfl
  | k + 1, s => by
    rw [chS, chS_app T k]
    simp only [chS, List.cons_append, List.cons.injEq, true_and]
    congr 2
    clear chS_app
    induction k with
    | zero => rfl
    | succ k ih => rw [Nat.repeat, ih]; rfl
theorem itS_rep (T : Nat) : ∀ i, Nat.repeat (nxS T) i 0 = itS T i
  | 0 => rfl
  | i + 1 => by rw [Nat.repeat, itS_rep T i]; rfl
def updA (mo : Bool) (b f : Int32) : Int32 := if f ≠ -1 ∧ (b = -1 ∨ (if mo = true then b < f else f < b)) then f else b
def chA (mo : Bool) (G : Nat → Int32) (L : List Nat) : Int32 := L.foldl (fun b s => updA mo b (G s)) (-1)
theorem chA_succ {mo : Bool} {G : Nat → Int32} {T i : Nat} : chA mo G (chS T (i + 1) 0) = updA mo (chA mo G (chS T i 0)) (G (itS T i)) := by
  rw [chS_app, itS_rep, chA, List.foldl_append]; rfl
theorem nI_nx {s T : Nat} (hs : s ≤ T) (hT : T < 16384) : (nI s - nI T) &&& nI T = nI (nxS T s) := by
  have e : nI s - nI T = nI (s + (4294967296 - T)) := by
    rw [Int32.sub_eq_add_neg, nI_neg (by omega), nI_add]
  have e2 : nI (s + (4294967296 - T)) = nI ((s + (4294967296 - T)) % 4294967296) := by
    rw [← Int32.toBitVec_inj]
    simp only [nI_bv]
    apply BitVec.eq_of_toNat_eq
    simp
  rw [e, e2, nI_and]; rfl
theorem xor_14 {a b : Nat} (ha : a < 16384) (hb : b < 16384) : a ^^^ b < 16384 := Nat.xor_lt_two_pow (n := 14) ha hb
/-- the rows of k LINKS that come to t -/
def wk (lf lt : Nat → Nat) (nl fr : Nat) : Nat → Nat → Nat
  | 0, t => if t = fr then 1 else 0
  | k + 1, t => sm (fun i => if lt i = t then wk lf lt nl fr k (lf i) else 0) nl
def wkF (lf lt : Nat → Nat) (nl fr to : Nat) : Nat → Option Nat
  | 0 => none
  | k + 1 => match wkF lf lt nl fr to k with
    | none => if 0 < wk lf lt nl fr k to then some k else none
    | some r => some r
def wkS (lf lt : Nat → Nat) (nl fr to k : Nat) : Nat := sm (fun i => wk lf lt nl fr i to) k
theorem wkF_lt {lf lt : Nat → Nat} {nl fr to : Nat} : ∀ {k r : Nat}, wkF lf lt nl fr to k = some r → r < k
  | 0, r, h => by simp [wkF] at h
  | k + 1, r, h => by
    rw [wkF] at h
    split at h
    · split at h <;> simp at h; omega
    · rename_i q hq
      simp at h
      have := wkF_lt hq; omega
/-- what comes back -/
def bkA (pr : Nat → Nat) (d : Nat → Int) (S : Nat) : Nat → Int × Option Nat × Int
  | 0 => (0, none, 0)
  | t + 1 => if bt S t = true ∧ ¬ d t = -1000000 then
      ((bkA pr d S t).1 + (pr t : Int) * d t, if (bkA pr d S t).2.1 = none ∨ (bkA pr d S t).2.2 < (pr t : Int) * d t then (some t, (pr t : Int) * d t) else (bkA pr d S t).2)
    else bkA pr d S t
def backA (b : Int × Option Nat × Int) (cost : Nat) (w : Int32) : Int32 := match b.2.1 with
  | none => -1000000
  | some t => if w = 0 then Int32.ofInt (b.1.tdiv (cost : Int)) else nI t
theorem bk_in {pr : Nat → Nat} {d : Nat → Int} {S : Nat} : ∀ {n : Nat}, (∀ t, t < n → pr t ≤ 999 ∧ -4851000 ≤ d t ∧ d t ≤ 4851000) → (-(4846149000 * (n : Int)) ≤ (bkA pr d S n).1 ∧ (bkA pr d S n).1 ≤ 4846149000 * (n : Int)) ∧ (-4846149000 ≤ (bkA pr d S n).2.2 ∧ (bkA pr d S n).2.2 ≤ 4846149000) ∧ ∀ r, (bkA pr d S n).2.1 = some r → r < n
  | 0, _ => by simp [bkA]
  | n + 1, h => by
    obtain ⟨h1, h2, h3⟩ := bk_in (S := S) (fun t ht => h t (Nat.lt_succ_of_lt ht))
    obtain ⟨p1, p2⟩ := h n (Nat.lt_succ_self n)
    have hm : -4846149000 ≤ (pr n : Int) * d n ∧ (pr n : Int) * d n ≤ 4846149000 := by
      have q1 : (pr n : Int).natAbs * (d n).natAbs ≤ 999 * 4851000 := Nat.mul_le_mul (by omega) (by omega)
      rw [← Int.natAbs_mul] at q1
      omega
    rw [bkA]
    split
    · dsimp only
      refine ⟨by omega, ?_, ?_⟩
      · split
        · exact hm
        · exact h2
      · intro r hr
        split at hr
        · simp at hr; omega
        · have := h3 r hr; omega
    · exact ⟨by omega, h2, fun r hr => by have := h3 r hr; omega⟩
theorem mul64 {p : Nat} {d : Int} (hp : p ≤ 999) (hd : -4851000 ≤ d ∧ d ≤ 4851000) : (nI p).toInt64 * (Int32.ofInt d).toInt64 = Int64.ofInt ((p : Int) * d) := by
  rw [nI_int, i64_of32 (by omega) (by omega), i64_of32 (by omega) (by omega), ← Int64.ofInt_mul]
/-- a life's draws -/
def xq (seed : Nat) : Nat → Nat
  | 0 => seed * 7 + 11
  | c + 1 => (xq seed c * 171 + 5) % 30323
theorem xq_lt {seed : Nat} (h : seed ≤ 9999) : ∀ c, xq seed c ≤ 70004
  | 0 => by rw [xq]; omega
  | c + 1 => by rw [xq]; omega
def nmL (ca : Nat → Nat → Nat) (S0 age seed c : Nat) : Nat → Int := fun t => if t < 4 then (ca c t : Int) else if t = 8 then (if bt S0 c then 1 else 0) else if t = 9 then (age : Int) else if t = 10 then ((xq seed c % 100 : Nat) : Int) else 0
def hasK (nc : Nat) (kd : Nat → Nat) (k : Nat) : Bool := anyN (fun i => decide (kd i = k)) nc
def lvF (ca : Nat → Nat → Nat) (S0 age seed nc : Nat) (kd : Nat → Nat) (cd : Nat → List Nat) (c : Nat) : Bool := !hasK nc kd 20 || isS (nmL ca S0 age seed c) nc kd cd 20
def lvV (ca : Nat → Nat → Nat) (S0 age seed nc : Nat) (kd : Nat → Nat) (cd : Nat → List Nat) (c : Nat) : Int32 := if lvF ca S0 age seed nc kd cd c = true then Int32.ofInt (mxI 0 (mnI (valN (nmL ca S0 age seed c) nc kd cd) 99)) else -1
def lvC (ca : Nat → Nat → Nat) (S0 age seed nc : Nat) (kd : Nat → Nat) (cd : Nat → List Nat) (k : Nat) : Nat := sm (fun c => if lvF ca S0 age seed nc kd cd c = true then 1 else 0) k
/-- ANSWERS of a THING told anew, by a life -/
def lvS (f : Nat → Int32) (v : Nat → Int32) (T k : Nat) : Nat → Int32 := fun j => if T * 14 ≤ j ∧ j < T * 14 + k then v (j - T * 14) else f j
theorem lvS_succ {f v : Nat → Int32} {T k : Nat} : va_up (lvS f v T k) (T * 14 + k) (v k) = lvS f v T (k + 1) := by
  funext j
  simp only [va_up, lvS]
  by_cases e : j = T * 14 + k
  · subst e
    rw [if_pos rfl, if_pos (by omega)]; congr 1; omega
  · rw [if_neg e]
    by_cases h : T * 14 ≤ j ∧ j < T * 14 + k
    · rw [if_pos h, if_pos (by omega)]
    · rw [if_neg h, if_neg (by omega)]
theorem lvS_0 {f v : Nat → Int32} {T : Nat} : lvS f v T 0 = f := funext fun j => by simp only [lvS]; rw [if_neg (by omega)]
theorem irem_N {a b : Nat} (ha : a < 2 ^ 31) (hb : b < 2 ^ 31) (h0 : 0 < b) : nI a % nI b = nI (a % b) := by
  rw [nI_int, nI_int, nI_int, ← Int32.toInt_inj, Int32.toInt_mod, i32_ofInt (by omega) (by omega), i32_ofInt (by omega) (by omega), i32_ofInt (by omega) (by have := Nat.mod_lt a h0; omega), Int.ofNat_tmod]
