/-! THE MODEL: lost, few, changed -/
theorem sng_tbl : ∀ c, c < 14 → pc (2 ^ c) 14 = 1 ∧ lowO (2 ^ c) = some c ∧ lowO (rl (2 ^ c)) = none := by decide +kernel
theorem dbl_tbl : ∀ c, c < 14 → ∀ d, d < 14 → c < d → pc (2 ^ c ||| 2 ^ d) 14 = 2 ∧ lowO (2 ^ c ||| 2 ^ d) = some c ∧ lowO (rl (2 ^ c ||| 2 ^ d)) = some d := by decide +kernel
theorem few_0 {f w : Int32} (hf : ¬ f = -1) : fewA f (some 0) w = if w = 0 then 0 else -1 := by
  simp only [fewA]
  rw [if_neg hf]
  by_cases h : w = 0
  · rw [if_pos h, if_pos h]; rfl
  · rw [if_neg h, if_neg h]
    split <;> rfl
theorem few_1 {f w : Int32} {c : Nat} (hf : ¬ f = -1) (hc : c < 14) : fewA f (some (2 ^ c)) w = if w = 0 then 1 else if w = 1 then nI c else -1 := by
  obtain ⟨h1, h2, h3⟩ := sng_tbl c hc
  simp only [fewA]
  rw [if_neg hf]
  by_cases h : w = 0
  · rw [if_pos h, if_pos h, h1]; rfl
  · rw [if_neg h, if_neg h]
    by_cases g : w = 1
    · rw [if_pos g, if_pos g, h2]; rfl
    · rw [if_neg g, if_neg g, h3]; rfl
theorem few_2 {f w : Int32} {c d : Nat} (hf : ¬ f = -1) (hc : c < d) (hd : d < 14) : fewA f (some (2 ^ c ||| 2 ^ d)) w = if w = 0 then 2 else if w = 1 then nI c else nI d := by
  obtain ⟨h1, h2, h3⟩ := dbl_tbl c (by omega) d hd hc
  simp only [fewA]
  rw [if_neg hf]
  by_cases h : w = 0
  · rw [if_pos h, if_pos h, h1]; rfl
  · rw [if_neg h, if_neg h]
    by_cases g : w = 1
    · rw [if_pos g, if_pos g, h2]; rfl
    · rw [if_neg g, if_neg g, h3]; rfl
theorem fewS_0 {st : Nat → Bool} {N : Nat} (h0 : st (2 ^ N - 1) = false) : fewS st N = some 0 := by rw [fewS, if_pos h0]
theorem fewS_1 {st : Nat → Bool} {N c : Nat} (h0 : st (2 ^ N - 1) = true) (hc : c < N) (h1 : ∀ j, j < c → st (sd (2 ^ N - 1) (2 ^ j)) = true) (h2 : st (sd (2 ^ N - 1) (2 ^ c)) = false) : fewS st N = some (2 ^ c) := by
  rw [fewS, if_neg (by rw [h0]; decide), rng_some hc (by simpa using h2) (fun j hj => by simpa using h1 j hj)]
theorem oI_inj_p {o : Option Nat} {v : Nat} (hv : v < 2147483648) (ho : ∀ r, o = some r → r < 2147483648) (h : nI v = oI o) : o = some v := by
  cases o with
  | none => exact absurd h (nI_neg1 hv)
  | some r => rw [(nI_eq (a := v) (b := r) (by omega) (by have := ho r rfl; omega)).mp h]
theorem oI_inj_n {o : Option Nat} (ho : ∀ r, o = some r → r < 2147483648) (h : (-1 : Int32) = oI o) : o = none := by
  cases o with
  | none => rfl
  | some r => exact absurd h.symm (nI_neg1 (ho r rfl))
/-- a THING's ANSWERS, those of some left out -/
theorem mAn_without {a ans less : Nat → Int32} {N T A k : Nat} {s : Int32} (hk : k < N) (hN : N ≤ 14) (R : mAn a ans less N T A s) : mAn (va_up a (150 + 14 * T + k) (-1)) ans less N T (sd A (2 ^ k)) s := by
  refine ⟨fun c hc hb => R.1 c hc (by rw [bt_sd, Bool.and_eq_true] at hb; exact hb.1), fun c hc => ?_, ?_, R.2.2.2⟩
  · by_cases e : c = k
    · subst e
      have h1 : mF (va_up a (150 + 14 * T + c) (-1)) T s c = false := by rw [mF, va_up_self]; simp
      have h2 : cF ans T (sd A (2 ^ c)) c = false := by rw [cF, bt_sd, bt_pow]; simp
      exact ⟨by rw [h1, h2], fun z => by rw [h2] at z; cases z⟩
    · have h1 : mF (va_up a (150 + 14 * T + k) (-1)) T s c = mF a T s c := by rw [mF, mF, va_up_ne _ _ (by omega), va_up_ne _ _ (by omega)]
      have h2 : cF ans T (sd A (2 ^ k)) c = cF ans T A c := by rw [cF, cF, bt_sd, bt_pow]; simp [e]
      rw [h1, h2, va_up_ne _ _ (by omega)]
      exact R.2.1 c hc
  · rw [va_up_ne _ _ (by omega)]; exact R.2.2.1
theorem sd_sd (A a b : Nat) : sd (sd A a) b = sd A (a ||| b) := bt_ext (fun c => by rw [bt_sd, bt_sd, bt_sd, bt_or]; cases bt A c <;> cases bt a c <;> cases bt b c <;> rfl)
theorem va_back {a : Nat → Int32} {k : Nat} {x : Int32} : va_up (va_up a k x) k (a k) = a := by
  funext j
  by_cases e : j = k
  · subst e; rw [va_up_self]
  · rw [va_up_ne _ _ e, va_up_ne _ _ e]
theorem va_back2 {a : Nat → Int32} {j k : Nat} {x y : Int32} (h : j ≠ k) : va_up (va_up (va_up (va_up a j x) k y) j (a j)) k (a k) = a := by
  funext i
  by_cases e : i = k
  · subst e; rw [va_up_self]
  · rw [va_up_ne _ _ e]
    by_cases e2 : i = j
    · subst e2; rw [va_up_self]
    · rw [va_up_ne _ _ e2, va_up_ne _ _ e, va_up_ne _ _ e2]
theorem hV_up {a : Nat → Int32} {N T k : Nat} (h : ∀ c, c < N → a (150 + 14 * T + c) = -1 ∨ ∃ v, v ≤ 99 ∧ a (150 + 14 * T + c) = nI v) : ∀ c, c < N → va_up a (150 + 14 * T + k) (-1) (150 + 14 * T + c) = -1 ∨ ∃ v, v ≤ 99 ∧ va_up a (150 + 14 * T + k) (-1) (150 + 14 * T + c) = nI v := by
  intro c hc
  by_cases e : c = k
  · subst e; rw [va_up_self]; exact Or.inl rfl
  · rw [va_up_ne _ _ (by omega)]; exact h c hc
theorem bits_up {f : Nat → Int32} {j : Nat} {x : Int32} (hj : 94 ≤ j) : ∀ {n : Nat}, n ≤ 14 → bitsOf (fun c => va_up f j x (80 + c)) n = bitsOf (fun c => f (80 + c)) n
  | 0, _ => rfl
  | n + 1, h => by rw [bitsOf, bitsOf, bits_up hj (by omega), va_up_ne _ _ (by omega)]
theorem fw_succ {S k : Nat} : fw S (k + 1) = fw S k ||| (if (bt S k && decide (pc S k < 4)) = true then 2 ^ k else 0) := rfl
theorem fw_full {S k : Nat} (h : 4 ≤ pc S k) : ∀ n, fw S (k + n) = fw S k
  | 0 => rfl
  | n + 1 => by
    have hm : ∀ m, pc S k ≤ pc S (k + m) := by
      intro m
      induction m with
      | zero => exact Nat.le_refl _
      | succ m ih => rw [← Nat.add_assoc, pc]; omega
    rw [← Nat.add_assoc, fw_succ, fw_full h n, if_neg (by have := hm n; simp; intro _; omega), Nat.or_zero]
theorem fw_end {S N : Nat} (hS : S < 2 ^ N) : ∀ n, fw S (N + n) = fw S N
  | 0 => rfl
  | n + 1 => by rw [← Nat.add_assoc, fw_succ, fw_end hS n, bt_ge hS (by omega)]; simp
/-- the subsets of T below 2 ^ k -/
theorem sub_flt (T : Nat) : ∀ k, (List.range (2 ^ k)).filter (fun s => decide (sd s T = 0)) = sbs T k
  | 0 => by
    rw [Nat.pow_zero, sbs]
    have : sd 0 T = 0 := by simp [sd]
    simp [List.range_succ, this]
  | k + 1 => by
    have e : List.range (2 ^ (k + 1)) = List.range (2 ^ k) ++ (List.range (2 ^ k)).map (fun s => s + 2 ^ k) := by
      rw [Nat.pow_succ, Nat.mul_two, List.range_add]
      congr 1
      exact List.map_congr_left (fun s _ => Nat.add_comm _ _)
    have hb : ∀ s, s < 2 ^ k → s + 2 ^ k = s ||| 2 ^ k := fun s hs => by
      have h9 := Nat.two_pow_add_eq_or_of_lt hs 1
      rw [Nat.mul_one] at h9
      rw [Nat.add_comm, h9, Nat.or_comm]
    rw [e, List.filter_append, sub_flt T k, sbs]
    have h2 : (List.map (fun s => s + 2 ^ k) (List.range (2 ^ k))).filter (fun s => decide (sd s T = 0)) = if bt T k then ((List.range (2 ^ k)).filter (fun s => decide (sd s T = 0))).map (fun s => s + 2 ^ k) else [] := by
      rw [List.filter_map]
      by_cases hT : bt T k = true
      · rw [if_pos hT]
        congr 1
        refine List.filter_congr (fun s hs => ?_)
        rw [List.mem_range] at hs
        simp only [Function.comp]
        congr 1
        rw [hb s hs]
        have : sd (s ||| 2 ^ k) T = sd s T := bt_ext (fun c => by
          rw [bt_sd, bt_sd, bt_or, bt_pow]
          by_cases e : c = k
          · subst e; rw [hT]; simp
          · simp [e])
        rw [this]
      · rw [if_neg hT, List.map_eq_nil_iff, List.filter_eq_nil_iff]
        intro s hs
        rw [List.mem_range] at hs
        simp only [Function.comp, decide_eq_true_eq]
        rw [hb s hs]
        intro z
        have h9 : bt (sd (s ||| 2 ^ k) T) k = true := by rw [bt_sd, bt_or, bt_pow]; simp [hT]
        rw [z, bt_zero] at h9
        cases h9
    rw [h2]
    split
    · rw [sub_flt T k]
    · rw [List.append_nil]
theorem sbs_N {T N : Nat} (hT : T < 2 ^ N) : ∀ n, sbs T (N + n) = sbs T N
  | 0 => rfl
  | n + 1 => by rw [← Nat.add_assoc, sbs, if_neg (by rw [bt_ge hT (by omega)]; decide), sbs_N hT n]
theorem ch_flt {T N : Nat} (hT : T < 2 ^ N) (hN : N ≤ 14) (h4 : pc T 14 ≤ 4) : (List.range (2 ^ N)).filter (fun s => decide (sd s T = 0)) = chS T (2 ^ pc T 14) 0 := by
  have h14 : T < 16384 := Nat.lt_of_lt_of_le hT (pw_31 N hN)
  rw [sub_flt, sub_ch h14 h4]
  have := sbs_N hT (14 - N)
  rw [show N + (14 - N) = 14 by omega] at this
  exact this.symm
/-- as far as i of all sets -/
def chM (mo : Bool) (G : Nat → Int32) (T i : Nat) : Int32 := chA mo G ((List.range i).filter (fun s => decide (sd s T = 0)))
theorem chM_t {mo : Bool} {G : Nat → Int32} {T i : Nat} (h : sd i T = 0) : chM mo G T (i + 1) = updA mo (chM mo G T i) (G i) := by
  rw [chM, List.range_succ, List.filter_append, chA, List.foldl_append]
  simp [h, chM, chA]
theorem chM_f {mo : Bool} {G : Nat → Int32} {T i : Nat} (h : ¬ sd i T = 0) : chM mo G T (i + 1) = chM mo G T i := by
  rw [chM, List.range_succ, List.filter_append]
  simp [h, chM]
theorem upd_g {b f : Int32} (h : ¬ f = -1) (h2 : ¬ b = -1) : (if f < b then b else f) = updA true b f := by
  refine upd_m h h2 rfl ?_
  by_cases e : f ≤ b
  · exact Or.inl ⟨e, by grind⟩
  · exact Or.inr ⟨e, by grind⟩
theorem upd_s {b f : Int32} (h : ¬ f = -1) (h2 : ¬ b = -1) : (if b < f then b else f) = updA false b f := by
  refine upd_n h h2 (by decide) ?_
  by_cases e : b ≤ f
  · exact Or.inl ⟨e, by grind⟩
  · exact Or.inr ⟨e, by grind⟩
