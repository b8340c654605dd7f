/-! A TEXT'S FORMULAS: what they are, as numbers; Judge -/
def bnd (x : Int) : Int := if 1000000 < x then 1000000 else if x < -1000000 then -1000000 else x
/-- what joins two, by the class's tokens: AND 12, OR 13, AT_MOST 21 .. UNLIKE 26, PLUS 27, MINUS 28, TIMES 29, BY 30 -/
def jr (o : Nat) (a b : Int) : Int :=
  if o = 12 then a * b else if o = 13 then (if 0 < a + b then 1 else 0) else if o = 21 then (if a ≤ b then 1 else 0) else if o = 22 then (if b ≤ a then 1 else 0) else
  if o = 23 then (if a < b then 1 else 0) else if o = 24 then (if b < a then 1 else 0) else if o = 25 then (if a = b then 1 else 0) else if o = 26 then (if a = b then 0 else 1) else
  if o = 27 then a + b else if o = 28 then a - b else if o = 29 then a * b else if b = 0 then 0 else a.tdiv b
def ev1 (nm : Nat → Int) (t : Nat) (S : List Int) : List Int :=
  if 100 ≤ t then ((t - 100 : Nat) : Int) :: S else if t < 11 then nm t :: S else
  match S with
  | [] => []
  | a :: r => if t = 11 then (1 - a) :: r else if t = 31 then (-a) :: r else
    match r with
    | [] => []
    | b :: r' => bnd (jr t b a) :: r'
def evS (nm : Nat → Int) : List Nat → List Int → List Int
  | [], S => S
  | t :: c, S => evS nm c (ev1 nm t S)
def evV (nm : Nat → Int) (c : List Nat) : Int := (evS nm c []).headD 0
/-- the kinds of what waits: true, an asking one -/
def ty1 (t : Nat) (S : List Bool) : Option (List Bool) :=
  if (100 ≤ t ∧ t ≤ 10099) ∨ t < 11 then (if S.length < 24 then some (false :: S) else none) else
  match S with
  | [] => none
  | a :: r => if t = 11 then (if a = true then some (true :: r) else none) else if t = 31 then (if a = false then some (false :: r) else none) else
    match r with
    | [] => none
    | b :: r' => if t = 12 ∨ t = 13 then (if a = true ∧ b = true then some (true :: r') else none) else if 21 ≤ t ∧ t ≤ 26 then (if a = false ∧ b = false then some (true :: r') else none) else if 27 ≤ t ∧ t ≤ 30 then (if a = false ∧ b = false then some (false :: r') else none) else none
def tyS : List Nat → List Bool → Option (List Bool)
  | [], S => some S
  | t :: c, S => (ty1 t S).bind (tyS c)
def okV (τ : Bool) (v : Int) : Prop := (τ = true → v = 0 ∨ v = 1) ∧ -1000000 ≤ v ∧ v ≤ 1000000
def OKS : List Bool → List Int → Prop
  | [], [] => True
  | τ :: T, v :: S => okV τ v ∧ OKS T S
  | _, _ => False
theorem OKS_len : ∀ {T : List Bool} {S : List Int}, OKS T S → T.length = S.length
  | [], [], _ => rfl
  | _ :: T, _ :: S, h => by simp [OKS_len h.2]
  | [], _ :: _, h => h.elim
  | _ :: _, [], h => h.elim
theorem bnd_in (x : Int) : -1000000 ≤ bnd x ∧ bnd x ≤ 1000000 := by
  unfold bnd
  split
  · omega
  · split <;> omega
theorem bnd_id {x : Int} (h1 : -1000000 ≤ x) (h2 : x ≤ 1000000) : bnd x = x := by unfold bnd; rw [if_neg (by omega), if_neg (by omega)]
/-- a token, and what it makes of what waits: the four ways -/
theorem ev1_ok {nm : Nat → Int} {t : Nat} {T T' : List Bool} {S : List Int} (hnm : t < 11 → -1000000 ≤ nm t ∧ nm t ≤ 1000000) (h : ty1 t T = some T') (hO : OKS T S) : OKS T' (ev1 nm t S) := by
  unfold ty1 at h
  split at h
  · rename_i hp
    split at h
    · cases h
      rcases hp with hp | hp
      · simp only [ev1, if_pos hp.1]; exact ⟨⟨fun z => by simp at z, by omega, by omega⟩, hO⟩
      · simp only [ev1, if_neg (show ¬ 100 ≤ t by omega), if_pos hp]; exact ⟨⟨fun z => by simp at z, hnm hp⟩, hO⟩
    · cases h
  · rename_i hp
    have g1 : ¬ 100 ≤ t ∨ 10099 < t := by omega
    match T, S, hO with
    | [], [], _ => simp at h
    | a :: r, v :: S, hO =>
      dsimp only at h
      split at h
      · rename_i ht; subst ht
        split at h
        · rename_i ha; cases h
          simp only [ev1, if_neg (show ¬ 100 ≤ 11 by omega), if_neg (show ¬ 11 < 11 by omega), if_true]
          have := hO.1.1 ha
          exact ⟨⟨fun _ => by omega, by omega, by omega⟩, hO.2⟩
        · cases h
      · rename_i ht
        split at h
        · rename_i ht2; subst ht2
          split at h
          · cases h
            simp only [ev1, if_neg (show ¬ 100 ≤ 31 by omega), if_neg (show ¬ 31 < 11 by omega), if_neg (show ¬ 31 = 11 by omega), if_true]
            have := hO.1.2
            exact ⟨⟨fun z => by simp at z, by omega, by omega⟩, hO.2⟩
          · cases h
        · rename_i ht2
          match r, S, hO with
          | [], [], _ => simp at h
          | b :: r', w :: S, hO =>
            dsimp only at h
            have g2 : ¬ t < 11 := by omega
            split at h
            · rename_i ht3
              split at h
              · rename_i hab; cases h
                simp only [ev1, if_neg (show ¬ 100 ≤ t by omega), if_neg g2, if_neg ht, if_neg ht2]
                have e1 := hO.1.1 hab.1
                have e2 := hO.2.1.1 hab.2
                refine ⟨?_, hO.2.2⟩
                rcases ht3 with rfl | rfl <;> rcases e1 with rfl | rfl <;> rcases e2 with rfl | rfl <;> simp [jr, bnd, okV]
              · cases h
            · split at h
              · rename_i ht4
                split at h
                · cases h
                  simp only [ev1, if_neg (show ¬ 100 ≤ t by omega), if_neg g2, if_neg ht, if_neg ht2]
                  have hj : jr t w v = 0 ∨ jr t w v = 1 := by
                    have : t = 21 ∨ t = 22 ∨ t = 23 ∨ t = 24 ∨ t = 25 ∨ t = 26 := by omega
                    rcases this with rfl | rfl | rfl | rfl | rfl | rfl <;> simp [jr] <;> omega
                  refine ⟨?_, hO.2.2⟩
                  rcases hj with e | e <;> rw [e] <;> simp [bnd, okV]
                · cases h
              · split at h
                · rename_i ht5
                  split at h
                  · cases h
                    simp only [ev1, if_neg (show ¬ 100 ≤ t by omega), if_neg g2, if_neg ht, if_neg ht2]
                    exact ⟨⟨fun z => by simp at z, (bnd_in _).1, (bnd_in _).2⟩, hO.2.2⟩
                  · cases h
                · cases h
theorem evS_ok {nm : Nat → Int} : ∀ {c : List Nat} {T T' : List Bool} {S : List Int}, (∀ t, t ∈ c → t < 11 → -1000000 ≤ nm t ∧ nm t ≤ 1000000) → tyS c T = some T' → OKS T S → OKS T' (evS nm c S)
  | [], T, T', S, _, h, hO => by simp [tyS] at h; subst h; exact hO
  | t :: c, T, T', S, hn, h, hO => by
    rw [tyS] at h
    cases e : ty1 t T with
    | none => rw [e] at h; simp at h
    | some U =>
      rw [e] at h
      exact evS_ok (c := c) (fun u hu => hn u (List.mem_cons_of_mem _ hu)) h (ev1_ok (hn t List.mem_cons_self) e hO)
/-- a row holds what waits, its bottom at 0 -/
def SR (f : Nat → Int32) : List Int → Prop
  | [] => True
  | v :: S => f S.length = Int32.ofInt v ∧ SR f S
theorem SR.up {f : Nat → Int32} {k : Nat} {x : Int32} : ∀ {S : List Int}, SR f S → S.length ≤ k → SR (va_up f k x) S
  | [], _, _ => trivial
  | v :: S, h, hk => ⟨by rw [va_up_ne _ _ (by simp at hk; omega)]; exact h.1, SR.up h.2 (by simp at hk; omega)⟩
theorem SR.push {f : Nat → Int32} {S : List Int} {v : Int} {x : Int32} (h : SR f S) (hx : x = Int32.ofInt v) : SR (va_up f S.length x) (v :: S) := ⟨by rw [va_up_self]; exact hx, h.up (Nat.le_refl _)⟩
theorem i64_in {x : Int} (h1 : -1000000000000000 ≤ x) (h2 : x ≤ 1000000000000000) : (Int64.ofInt x).toInt = x := Int64.toInt_ofInt_of_le (by omega) (by omega)
theorem i64_le {a b : Int} (ha : -1000000000000000 ≤ a ∧ a ≤ 1000000000000000) (hb : -1000000000000000 ≤ b ∧ b ≤ 1000000000000000) : Int64.ofInt a ≤ Int64.ofInt b ↔ a ≤ b := by
  rw [Int64.le_iff_toInt_le, i64_in ha.1 ha.2, i64_in hb.1 hb.2]
theorem i64_lt {a b : Int} (ha : -1000000000000000 ≤ a ∧ a ≤ 1000000000000000) (hb : -1000000000000000 ≤ b ∧ b ≤ 1000000000000000) : Int64.ofInt a < Int64.ofInt b ↔ a < b := by
  rw [Int64.lt_iff_toInt_lt, i64_in ha.1 ha.2, i64_in hb.1 hb.2]
theorem i64_eq {a b : Int} (ha : -1000000000000000 ≤ a ∧ a ≤ 1000000000000000) (hb : -1000000000000000 ≤ b ∧ b ≤ 1000000000000000) : Int64.ofInt a = Int64.ofInt b ↔ a = b := by
  rw [← Int64.toInt_inj, i64_in ha.1 ha.2, i64_in hb.1 hb.2]
theorem i64_div {a b : Int} (ha : -1000000000000000 ≤ a ∧ a ≤ 1000000000000000) (hb : -1000000000000000 ≤ b ∧ b ≤ 1000000000000000) : Int64.ofInt a / Int64.ofInt b = Int64.ofInt (a.tdiv b) := by
  refine (Int64.ofInt_tdiv ?_ ?_ ?_ ?_).symm <;> simp [Int64.minValue, Int64.maxValue] <;> omega
theorem i64_lit (n : Nat) : (OfNat.ofNat n : Int64) = Int64.ofInt (n : Int) := rfl
theorem jr_in {o : Nat} {a b : Int} (ha : -1000000 ≤ a ∧ a ≤ 1000000) (hb : -1000000 ≤ b ∧ b ≤ 1000000) : -1000000000000000 ≤ jr o a b ∧ jr o a b ≤ 1000000000000000 := by
  have hm : -1000000000000 ≤ a * b ∧ a * b ≤ 1000000000000 := by
    have h1 : a.natAbs * b.natAbs ≤ 1000000 * 1000000 := Nat.mul_le_mul (by omega) (by omega)
    rw [← Int.natAbs_mul] at h1
    omega
  have hd : -1000000 ≤ a.tdiv b ∧ a.tdiv b ≤ 1000000 := by
    have h1 := Int.natAbs_tdiv_le_natAbs a b
    omega
  unfold jr
  repeat' split
  all_goals omega
theorem cl_bnd {x : Int} (h : -1000000000000000 ≤ x ∧ x ≤ 1000000000000000) : (if (-1000000 : Int64) < (if (1000000 : Int64) < Int64.ofInt x then 1000000 else Int64.ofInt x) then (if (1000000 : Int64) < Int64.ofInt x then 1000000 else Int64.ofInt x) else -1000000 : Int64).toInt32 = Int32.ofInt (bnd x) := by
  have e1 : (1000000 : Int64) = Int64.ofInt 1000000 := rfl
  have e2 : (-1000000 : Int64) = Int64.ofInt (-1000000) := rfl
  rw [e2, e1]
  have q := i64_lt (a := 1000000) (b := x) (by omega) h
  have q2 := i64_lt (a := -1000000) (b := x) (by omega) h
  by_cases hx : 1000000 < x
  · rw [if_pos (q.mpr hx), if_pos (by decide), bnd, if_pos hx]; rfl
  · rw [if_neg (fun z => hx (q.mp z))]
    by_cases hx2 : -1000000 < x
    · rw [if_pos (q2.mpr hx2), Int64.toInt32_ofInt, bnd, if_neg hx, if_neg (by omega)]
    · rw [if_neg (fun z => hx2 (q2.mp z)), bnd, if_neg hx]
      by_cases e : x < -1000000
      · rw [if_pos e]; rfl
      · rw [if_neg e, show x = -1000000 by omega]; rfl
theorem and01 {a b : Int} (ha : a = 0 ∨ a = 1) (hb : b = 0 ∨ b = 1) : Int64.ofInt a &&& Int64.ofInt b = Int64.ofInt (a * b) := by rcases ha with rfl | rfl <;> rcases hb with rfl | rfl <;> rfl
theorem or01 {a b : Int} (ha : a = 0 ∨ a = 1) (hb : b = 0 ∨ b = 1) : Int64.ofInt a ||| Int64.ofInt b = Int64.ofInt (if 0 < a + b then 1 else 0) := by rcases ha with rfl | rfl <;> rcases hb with rfl | rfl <;> rfl
/-- a clause's code: from its edge on -/
def CLc (edges code : Nat → Int32) (K : Nat) (c : List Nat) : Prop := ∃ e : Nat, edges K = nI e ∧ edges (K + 1) = nI (e + c.length) ∧ e + c.length ≤ 300 ∧ ∀ (j v : Nat), c[j]? = some v → code (e + j) = nI v
/-- what Judge's names are, where a code asks for them -/
def NMc (f : Nat → Int32) (nm : Nat → Int) (c : List Nat) : Prop := ∀ t, t ∈ c → t < 11 → f t = Int32.ofInt (nm t) ∧ -1000000 ≤ nm t ∧ nm t ≤ 1000000
/-- TEXT number tp as the class has it: kinds and codes of its clauses, MANY, NEAR -/
def TxC (h : AH) (tp nc : Nat) (kd : Nat → Nat) (cd : Nat → List Nat) (many near : Int32) : Prop := nc ≤ 10 ∧ ∃ kinds edges code : Nat → Int32, Hs h (42 + 4 * tp) (oTx tp (nI nc) many near) ∧ Hs h (43 + 4 * tp) (aI 10 kinds) ∧ Hs h (44 + 4 * tp) (aI 11 edges) ∧ Hs h (45 + 4 * tp) (aI 300 code) ∧ (∀ i, i < nc → kinds i = nI (kd i) ∧ kd i < 100) ∧ ∀ i, i < nc → CLc edges code i (cd i)
theorem TxC.fr {S : List Nat} {h h' : AH} {tp nc : Nat} {kd : Nat → Nat} {cd : Nat → List Nat} {many near : Int32} (T : TxC h tp nc kd cd many near) (F : Fr S h h') (hS : ∀ k, k ∈ S → k < 42) : TxC h' tp nc kd cd many near := by
  obtain ⟨h0, a, b, c, h1, h2, h3, h4, h5⟩ := T
  exact ⟨h0, a, b, c, F.hs h1 (fun z => by have := hS _ z; omega), F.hs h2 (fun z => by have := hS _ z; omega), F.hs h3 (fun z => by have := hS _ z; omega), F.hs h4 (fun z => by have := hS _ z; omega), h5⟩
/-- Judge's cells, its names -/
def JuC (h : AH) (nms : Nat → Int32) : Prop := Hs h 24 oJu ∧ Hs h 25 (aI 11 nms) ∧ ∃ stk : Nat → Int32, Hs h 26 (aI 32 stk)
theorem JuC.fr {S : List Nat} {h h' : AH} {nms : Nat → Int32} (T : JuC h nms) (F : Fr S h h') (hS : 24 ∉ S ∧ 25 ∉ S ∧ 26 ∉ S) : JuC h' nms := ⟨F.hs T.1 hS.1, F.hs T.2.1 hS.2.1, T.2.2.elim fun s q => ⟨s, F.hs q hS.2.2⟩⟩
theorem nI_int (n : Nat) : nI n = Int32.ofInt (n : Int) := rfl
theorem nI_m {n : Nat} : nI (n + 1) - 1 = nI n := by rw [← nI_1]; grind
theorem nI_m2 (n : Nat) : nI (n + 1 + 1) + (-1) - 1 = nI n := by rw [← nI_1, ← nI_1]; grind
theorem nI_m1x (n : Nat) : nI (n + 1 + 1) + (-1) = nI (n + 1) := by rw [← nI_1 (n + 1)]; grind
theorem i32_sub1 (a : Int) : (1 : Int32) - Int32.ofInt a = Int32.ofInt (1 - a) := by rw [Int32.ofInt_sub]; rfl
theorem i32_64 {a : Int} (h1 : -1000000 ≤ a) (h2 : a ≤ 1000000) : (Int32.ofInt a).toInt64 = Int64.ofInt a := i64_of32 (by omega) (by omega)
theorem num_of {t : Nat} (h : 100 ≤ t) : nI t - 100 = Int32.ofInt ((t - 100 : Nat) : Int) := by rw [show (100 : Int32) = nI 100 from rfl, nI_subI]; congr 1; omega
theorem tyS_cons {t : Nat} {c : List Nat} {T U : List Bool} (h : tyS (t :: c) T = some U) : ∃ T', ty1 t T = some T' ∧ tyS c T' = some U := by
  rw [tyS] at h
  cases e : ty1 t T with
  | none => rw [e] at h; simp at h
  | some T' => rw [e] at h; exact ⟨T', rfl, h⟩
theorem ty1_v {t : Nat} {T T' : List Bool} (h : ty1 t T = some T') : t ≤ 10099 ∧ (100 ≤ t ∨ t < 11 → T.length < 24) := by
  unfold ty1 at h
  split at h
  · rename_i hp
    split at h
    · rename_i hl; exact ⟨by omega, fun _ => hl⟩
    · cases h
  · rename_i hp
    have : ¬ 10099 < t := by
      intro hz
      match T with
      | [] => simp at h
      | [a] => simp [show ¬ t = 11 by omega, show ¬ t = 31 by omega] at h
      | a :: b :: r => simp [show ¬ t = 11 by omega, show ¬ t = 31 by omega, show ¬ (t = 12 ∨ t = 13) by omega, show ¬ (21 ≤ t ∧ t ≤ 26) by omega, show ¬ (27 ≤ t ∧ t ≤ 30) by omega] at h
    exact ⟨by omega, fun _ => by omega⟩
theorem ty1_u {t : Nat} {T T' : List Bool} (h : ty1 t T = some T') (ht : t = 11 ∨ t = 31) : ∃ a r, T = a :: r := by
  match T with
  | [] => unfold ty1 at h; rw [if_neg (by omega)] at h; simp at h
  | a :: r => exact ⟨a, r, rfl⟩
theorem ty1_b {t : Nat} {T T' : List Bool} (h : ty1 t T = some T') (h1 : ¬ 100 ≤ t) (h2 : ¬ t < 11) (h3 : ¬ t = 11) (h4 : ¬ t = 31) : (t = 12 ∨ t = 13 ∨ t = 21 ∨ t = 22 ∨ t = 23 ∨ t = 24 ∨ t = 25 ∨ t = 26 ∨ t = 27 ∨ t = 28 ∨ t = 29 ∨ t = 30) ∧ ∃ a b r, T = a :: b :: r ∧ (t = 12 ∨ t = 13 → a = true ∧ b = true) := by
  unfold ty1 at h
  rw [if_neg (by omega)] at h
  match T with
  | [] => simp at h
  | [a] => simp [h3, h4] at h
  | a :: b :: r =>
    simp only [if_neg h3, if_neg h4] at h
    split at h
    · rename_i e
      split at h
      · rename_i hab; exact ⟨by omega, a, b, r, rfl, fun _ => hab⟩
      · cases h
    · rename_i e
      split at h
      · exact ⟨by omega, a, b, r, rfl, fun z => absurd z e⟩
      · split at h
        · exact ⟨by omega, a, b, r, rfl, fun z => absurd z e⟩
        · cases h
theorem ty1_len {t : Nat} {T T' : List Bool} (h : ty1 t T = some T') (hl : T.length ≤ 24) : T'.length ≤ 24 := by
  unfold ty1 at h
  split at h
  · split at h
    · cases h; simp; omega
    · cases h
  · match T with
    | [] => simp at h
    | [a] =>
      dsimp only at h
      split at h
      · split at h
        · cases h; simp
        · cases h
      · split at h
        · split at h
          · cases h; simp
          · cases h
        · cases h
    | a :: b :: r =>
      simp at hl
      dsimp only at h
      repeat' split at h
      all_goals (try cases h)
      all_goals (simp; omega)
theorem OKS_1 {a : Bool} {r : List Bool} {S : List Int} (h : OKS (a :: r) S) : ∃ v S', S = v :: S' ∧ okV a v ∧ OKS r S' := by
  match S, h with
  | v :: S', h => exact ⟨v, S', rfl, h⟩
theorem OKS_0 {S : List Int} (h : OKS [] S) : S = [] := by
  match S, h with
  | [], _ => rfl
theorem drop_at {α : Type} {c : List α} {i : Nat} {t : α} (h : c[i]? = some t) : c.drop i = t :: c.drop (i + 1) := by
  obtain ⟨h1, h2⟩ := List.getElem?_eq_some_iff.mp h
  rw [List.drop_eq_getElem_cons h1, h2]
theorem ev1_num {nm : Nat → Int} {t : Nat} {S : List Int} (h : 100 ≤ t) : ev1 nm t S = ((t - 100 : Nat) : Int) :: S := by simp [ev1, h]
theorem ev1_nam {nm : Nat → Int} {t : Nat} {S : List Int} (h : t < 11) : ev1 nm t S = nm t :: S := by simp [ev1, h, show ¬ 100 ≤ t by omega]
theorem ev1_not {nm : Nat → Int} {v : Int} {S : List Int} : ev1 nm 11 (v :: S) = (1 - v) :: S := by simp [ev1]
theorem ev1_neg {nm : Nat → Int} {v : Int} {S : List Int} : ev1 nm 31 (v :: S) = (-v) :: S := by simp [ev1]
theorem ev1_bin {nm : Nat → Int} {t : Nat} {v w : Int} {S : List Int} (h1 : ¬ 100 ≤ t) (h2 : ¬ t < 11) (h3 : ¬ t = 11) (h4 : ¬ t = 31) : ev1 nm t (v :: w :: S) = bnd (jr t w v) :: S := by simp [ev1, h1, h2, h3, h4]
def anyN (P : Nat → Bool) : Nat → Bool
  | 0 => false
  | k + 1 => anyN P k || P k
theorem anyN_t {P : Nat → Bool} {n i : Nat} (hi : i < n) (h : P i = true) : anyN P n = true := by
  induction n with
  | zero => omega
  | succ n ih =>
    rw [anyN]
    by_cases e : i = n
    · subst e; simp [h]
    · simp [ih (by omega)]
theorem anyN_f {P : Nat → Bool} {n : Nat} (h : ∀ i, i < n → P i = false) : anyN P n = false := by
  induction n with
  | zero => rfl
  | succ n ih => rw [anyN, ih (fun i hi => h i (by omega)), h n (by omega)]; rfl
theorem anyN_cong {P R : Nat → Bool} {n : Nat} (h : ∀ i, i < n → P i = R i) : anyN P n = anyN R n := by
  induction n with
  | zero => rfl
  | succ n ih => rw [anyN, anyN, ih (fun i hi => h i (by omega)), h n (by omega)]
/-- whether some clause of a kind is so -/
def isS (nm : Nat → Int) (nc : Nat) (kd : Nat → Nat) (cd : Nat → List Nat) (k : Nat) : Bool := anyN (fun i => decide (kd i = k) && decide (evV nm (cd i) ≠ 0)) nc
/-- the first clause of a kind -/
def fstK (nc : Nat) (kd : Nat → Nat) (k : Nat) : Option Nat := (List.range nc).find? (fun i => decide (kd i = k))
def valN (nm : Nat → Int) (nc : Nat) (kd : Nat → Nat) (cd : Nat → List Nat) : Int := match fstK nc kd 16 with
  | none => 0
  | some i => evV nm (cd i)
theorem evV_in {nm : Nat → Int} {c : List Nat} {τ : Bool} (hn : ∀ t, t ∈ c → t < 11 → -1000000 ≤ nm t ∧ nm t ≤ 1000000) (h : tyS c [] = some [τ]) : okV τ (evV nm c) := by
  have h1 := evS_ok (S := []) hn h (show OKS [] [] from trivial)
  obtain ⟨v, S', e, h2, h3⟩ := OKS_1 h1
  rw [evV, e]; exact h2
theorem ofInt_0 {x : Int} (h1 : -1000000 ≤ x) (h2 : x ≤ 1000000) : Int32.ofInt x = 0 ↔ x = 0 := by
  have := i32_ofInt (z := x) (by omega) (by omega)
  constructor
  · intro h; rw [h] at this; simpa using this.symm
  · intro h; rw [h]; rfl

theorem s_X3_joined {h : AH} {o : Nat} {a b : Int} (ho : o = 12 ∨ o = 13 ∨ o = 21 ∨ o = 22 ∨ o = 23 ∨ o = 24 ∨ o = 25 ∨ o = 26 ∨ o = 27 ∨ o = 28 ∨ o = 29 ∨ o = 30) (ha : -1000000 ≤ a ∧ a ≤ 1000000) (hb : -1000000 ≤ b ∧ b ≤ 1000000) (h01 : o = 12 ∨ o = 13 → (a = 0 ∨ a = 1) ∧ (b = 0 ∨ b = 1)) : Sp M_X3_joined (0, 0) h [.int (nI o), .long (Int64.ofInt a), .long (Int64.ofInt b)] (pJ (Int64.ofInt (jr o a b)) h) := by
  refine ⟨Nat.le_of_ble_eq_true rfl, ?_⟩
  show E _ _ _ 0 h [some (.int (nI o)), some (.long (Int64.ofInt a)), none, some (.long (Int64.ofInt b)), none] []
  have ha' : -1000000000000000 ≤ a ∧ a ≤ 1000000000000000 := by omega
  have hb' : -1000000000000000 ≤ b ∧ b ≤ 1000000000000000 := by omega
  refine e_iloadn d_X3_joined_0 rfl ?_
  rcases ho with rfl | rfl | rfl | rfl | rfl | rfl | rfl | rfl | rfl | rfl | rfl | rfl
  · refine e_tab d_X3_joined_1 87 88 (by decide) (by decide) (by decide) (by decide) ?_
    refine e_lloadn d_X3_joined_88 rfl ?_
    refine e_lloadn d_X3_joined_89 rfl ?_
    refine e_land d_X3_joined_90 ?_
    exact e_lret d_X3_joined_91 rfl (⟨congrArg (fun z => some (Value.long z)) (by rw [and01 (h01 (Or.inl rfl)).1 (h01 (Or.inl rfl)).2]; rfl), rfl⟩)
  · refine e_tab d_X3_joined_1 91 92 (by decide) (by decide) (by decide) (by decide) ?_
    refine e_lloadn d_X3_joined_92 rfl ?_
    refine e_lloadn d_X3_joined_93 rfl ?_
    refine e_lor d_X3_joined_94 ?_
    exact e_lret d_X3_joined_95 rfl (⟨congrArg (fun z => some (Value.long z)) (by rw [or01 (h01 (Or.inr rfl)).1 (h01 (Or.inr rfl)).2]; rfl), rfl⟩)
  · refine e_tab d_X3_joined_1 95 96 (by decide) (by decide) (by decide) (by decide) ?_
    refine e_lloadn d_X3_joined_96 rfl ?_
    refine e_lloadn d_X3_joined_97 rfl ?_
    refine e_lcmp_gt d_X3_joined_98 d_X3_joined_99 (fun c_98 => ?_) (fun c_98 => ?_)
    · have hj : jr 21 a b = 0 := by
        have c := c_98
        simp only [gt_iff_lt, ge_iff_le, i64_lt ha' hb', i64_lt hb' ha', i64_le ha' hb', i64_le hb' ha', i64_eq ha' hb', Int.not_lt, Int.not_le, ne_eq] at c
        simp [jr]; omega
      refine e_lconst (v := 0) d_X3_joined_106 (by decide) ?_
      exact e_lret d_X3_joined_107 rfl (⟨congrArg (fun z => some (Value.long z)) (by rw [hj]; rfl), rfl⟩)
    · have hj : jr 21 a b = 1 := by
        have c := c_98
        simp only [gt_iff_lt, ge_iff_le, i64_lt ha' hb', i64_lt hb' ha', i64_le ha' hb', i64_le hb' ha', i64_eq ha' hb', Int.not_lt, Int.not_le, ne_eq] at c
        simp [jr]; omega
      refine e_lconst (v := 1) d_X3_joined_102 (by decide) ?_
      refine e_gt d_X3_joined_103 ?_
      exact e_lret d_X3_joined_107 rfl (⟨congrArg (fun z => some (Value.long z)) (by rw [hj]; rfl), rfl⟩)
  · refine e_tab d_X3_joined_1 107 108 (by decide) (by decide) (by decide) (by decide) ?_
    refine e_lloadn d_X3_joined_108 rfl ?_
    refine e_lloadn d_X3_joined_109 rfl ?_
    refine e_lcmp_lt d_X3_joined_110 d_X3_joined_111 (fun c_110 => ?_) (fun c_110 => ?_)
    · have hj : jr 22 a b = 0 := by
        have c := c_110
        simp only [gt_iff_lt, ge_iff_le, i64_lt ha' hb', i64_lt hb' ha', i64_le ha' hb', i64_le hb' ha', i64_eq ha' hb', Int.not_lt, Int.not_le, ne_eq] at c
        simp [jr]; omega
      refine e_lconst (v := 0) d_X3_joined_118 (by decide) ?_
      exact e_lret d_X3_joined_119 rfl (⟨congrArg (fun z => some (Value.long z)) (by rw [hj]; rfl), rfl⟩)
    · have hj : jr 22 a b = 1 := by
        have c := c_110
        simp only [gt_iff_lt, ge_iff_le, i64_lt ha' hb', i64_lt hb' ha', i64_le ha' hb', i64_le hb' ha', i64_eq ha' hb', Int.not_lt, Int.not_le, ne_eq] at c
        simp [jr]; omega
      refine e_lconst (v := 1) d_X3_joined_114 (by decide) ?_
      refine e_gt d_X3_joined_115 ?_
      exact e_lret d_X3_joined_119 rfl (⟨congrArg (fun z => some (Value.long z)) (by rw [hj]; rfl), rfl⟩)
  · refine e_tab d_X3_joined_1 119 120 (by decide) (by decide) (by decide) (by decide) ?_
    refine e_lloadn d_X3_joined_120 rfl ?_
    refine e_lloadn d_X3_joined_121 rfl ?_
    refine e_lcmp_ge d_X3_joined_122 d_X3_joined_123 (fun c_122 => ?_) (fun c_122 => ?_)
    · have hj : jr 23 a b = 0 := by
        have c := c_122
        simp only [gt_iff_lt, ge_iff_le, i64_lt ha' hb', i64_lt hb' ha', i64_le ha' hb', i64_le hb' ha', i64_eq ha' hb', Int.not_lt, Int.not_le, ne_eq] at c
        simp [jr]; omega
      refine e_lconst (v := 0) d_X3_joined_130 (by decide) ?_
      exact e_lret d_X3_joined_131 rfl (⟨congrArg (fun z => some (Value.long z)) (by rw [hj]; rfl), rfl⟩)
    · have hj : jr 23 a b = 1 := by
        have c := c_122
        simp only [gt_iff_lt, ge_iff_le, i64_lt ha' hb', i64_lt hb' ha', i64_le ha' hb', i64_le hb' ha', i64_eq ha' hb', Int.not_lt, Int.not_le, ne_eq] at c
        simp [jr]; omega
      refine e_lconst (v := 1) d_X3_joined_126 (by decide) ?_
      refine e_gt d_X3_joined_127 ?_
      exact e_lret d_X3_joined_131 rfl (⟨congrArg (fun z => some (Value.long z)) (by rw [hj]; rfl), rfl⟩)
  · refine e_tab d_X3_joined_1 131 132 (by decide) (by decide) (by decide) (by decide) ?_
    refine e_lloadn d_X3_joined_132 rfl ?_
    refine e_lloadn d_X3_joined_133 rfl ?_
    refine e_lcmp_le d_X3_joined_134 d_X3_joined_135 (fun c_134 => ?_) (fun c_134 => ?_)
    · have hj : jr 24 a b = 0 := by
        have c := c_134
        simp only [gt_iff_lt, ge_iff_le, i64_lt ha' hb', i64_lt hb' ha', i64_le ha' hb', i64_le hb' ha', i64_eq ha' hb', Int.not_lt, Int.not_le, ne_eq] at c
        simp [jr]; omega
      refine e_lconst (v := 0) d_X3_joined_142 (by decide) ?_
      exact e_lret d_X3_joined_143 rfl (⟨congrArg (fun z => some (Value.long z)) (by rw [hj]; rfl), rfl⟩)
    · have hj : jr 24 a b = 1 := by
        have c := c_134
        simp only [gt_iff_lt, ge_iff_le, i64_lt ha' hb', i64_lt hb' ha', i64_le ha' hb', i64_le hb' ha', i64_eq ha' hb', Int.not_lt, Int.not_le, ne_eq] at c
        simp [jr]; omega
      refine e_lconst (v := 1) d_X3_joined_138 (by decide) ?_
      refine e_gt d_X3_joined_139 ?_
      exact e_lret d_X3_joined_143 rfl (⟨congrArg (fun z => some (Value.long z)) (by rw [hj]; rfl), rfl⟩)
  · refine e_tab d_X3_joined_1 143 144 (by decide) (by decide) (by decide) (by decide) ?_
    refine e_lloadn d_X3_joined_144 rfl ?_
    refine e_lloadn d_X3_joined_145 rfl ?_
    refine e_lcmp_ne d_X3_joined_146 d_X3_joined_147 (fun c_146 => ?_) (fun c_146 => ?_)
    · have hj : jr 25 a b = 0 := by
        have c := c_146
        simp only [gt_iff_lt, ge_iff_le, i64_lt ha' hb', i64_lt hb' ha', i64_le ha' hb', i64_le hb' ha', i64_eq ha' hb', Int.not_lt, Int.not_le, ne_eq] at c
        simp [jr]; omega
      refine e_lconst (v := 0) d_X3_joined_154 (by decide) ?_
      exact e_lret d_X3_joined_155 rfl (⟨congrArg (fun z => some (Value.long z)) (by rw [hj]; rfl), rfl⟩)
    · have hj : jr 25 a b = 1 := by
        have c := c_146
        simp only [gt_iff_lt, ge_iff_le, i64_lt ha' hb', i64_lt hb' ha', i64_le ha' hb', i64_le hb' ha', i64_eq ha' hb', Int.not_lt, Int.not_le, ne_eq] at c
        simp [jr]; omega
      refine e_lconst (v := 1) d_X3_joined_150 (by decide) ?_
      refine e_gt d_X3_joined_151 ?_
      exact e_lret d_X3_joined_155 rfl (⟨congrArg (fun z => some (Value.long z)) (by rw [hj]; rfl), rfl⟩)
  · refine e_tab d_X3_joined_1 155 156 (by decide) (by decide) (by decide) (by decide) ?_
    refine e_lloadn d_X3_joined_156 rfl ?_
    refine e_lloadn d_X3_joined_157 rfl ?_
    refine e_lcmp_eq d_X3_joined_158 d_X3_joined_159 (fun c_158 => ?_) (fun c_158 => ?_)
    · have hj : jr 26 a b = 0 := by
        have c := c_158
        simp only [gt_iff_lt, ge_iff_le, i64_lt ha' hb', i64_lt hb' ha', i64_le ha' hb', i64_le hb' ha', i64_eq ha' hb', Int.not_lt, Int.not_le, ne_eq] at c
        simp [jr]; omega
      refine e_lconst (v := 0) d_X3_joined_166 (by decide) ?_
      exact e_lret d_X3_joined_167 rfl (⟨congrArg (fun z => some (Value.long z)) (by rw [hj]; rfl), rfl⟩)
    · have hj : jr 26 a b = 1 := by
        have c := c_158
        simp only [gt_iff_lt, ge_iff_le, i64_lt ha' hb', i64_lt hb' ha', i64_le ha' hb', i64_le hb' ha', i64_eq ha' hb', Int.not_lt, Int.not_le, ne_eq] at c
        simp [jr]; omega
      refine e_lconst (v := 1) d_X3_joined_162 (by decide) ?_
      refine e_gt d_X3_joined_163 ?_
      exact e_lret d_X3_joined_167 rfl (⟨congrArg (fun z => some (Value.long z)) (by rw [hj]; rfl), rfl⟩)
  · refine e_tab d_X3_joined_1 167 168 (by decide) (by decide) (by decide) (by decide) ?_
    refine e_lloadn d_X3_joined_168 rfl ?_
    refine e_lloadn d_X3_joined_169 rfl ?_
    refine e_ladd d_X3_joined_170 ?_
    exact e_lret d_X3_joined_171 rfl (⟨congrArg (fun z => some (Value.long z)) (by rw [← Int64.ofInt_add]; rfl), rfl⟩)
  · refine e_tab d_X3_joined_1 171 172 (by decide) (by decide) (by decide) (by decide) ?_
    refine e_lloadn d_X3_joined_172 rfl ?_
    refine e_lloadn d_X3_joined_173 rfl ?_
    refine e_lsub d_X3_joined_174 ?_
    exact e_lret d_X3_joined_175 rfl (⟨congrArg (fun z => some (Value.long z)) (by rw [← Int64.ofInt_sub]; rfl), rfl⟩)
  · refine e_tab d_X3_joined_1 175 176 (by decide) (by decide) (by decide) (by decide) ?_
    refine e_lloadn d_X3_joined_176 rfl ?_
    refine e_lloadn d_X3_joined_177 rfl ?_
    refine e_lmul d_X3_joined_178 ?_
    exact e_lret d_X3_joined_179 rfl (⟨congrArg (fun z => some (Value.long z)) (by rw [← Int64.ofInt_mul]; rfl), rfl⟩)
  · refine e_tabD d_X3_joined_1 180 (by decide) (by decide) ?_
    refine e_lloadn d_X3_joined_180 rfl ?_
    refine e_lconst (v := 0) d_X3_joined_181 (by decide) ?_
    refine e_lcmp_ne d_X3_joined_182 d_X3_joined_183 (fun c_182 => ?_) (fun c_182 => ?_)
    · have hb0 : b ≠ 0 := fun z => c_182 (by rw [z]; rfl)
      have hj : Int64.ofInt a / Int64.ofInt b = Int64.ofInt (jr 30 a b) := by
        rw [i64_div ha' hb']; simp [jr, hb0]
      refine e_lloadn d_X3_joined_190 rfl ?_
      refine e_lloadn d_X3_joined_191 rfl ?_
      refine e_ldiv d_X3_joined_192 (c_182) ?_
      exact e_lret d_X3_joined_193 rfl (⟨congrArg (fun z => some (Value.long z)) (by rw [hj]; try rfl), rfl⟩)
    · have hb0 : b = 0 := (i64_eq (b := 0) hb' (by omega)).mp c_182
      have hj : jr 30 a b = 0 := by simp [jr, hb0]
      refine e_lconst (v := 0) d_X3_joined_186 (by decide) ?_
      refine e_gt d_X3_joined_187 ?_
      exact e_lret d_X3_joined_193 rfl (⟨congrArg (fun z => some (Value.long z)) (by rw [hj]; try rfl), rfl⟩)

theorem s_X3_run {h : AH} {tp nc : Nat} {kd : Nat → Nat} {cd : Nat → List Nat} {many near : Int32} {nms : Nat → Int32} {nm : Nat → Int} {K : Nat} {τ : Bool} (hT : TxC h tp nc kd cd many near) (hJ : JuC h nms) (hK : K < nc) (hnm : NMc nms nm (cd K)) (hty : tyS (cd K) [] = some [τ]) : Sp M_X3_run (0, 0) h [.ref 24, .ref (42 + 4 * tp), .int (nI K)] (rI (fun x h' => x = Int32.ofInt (evV nm (cd K)) ∧ JuC h' nms ∧ Fr [26] h h')) := by
  refine ⟨Nat.le_of_ble_eq_true rfl, ?_⟩
  show E _ _ _ 0 h [some (.ref 24), some (.ref (42 + 4 * tp)), some (.int (nI K)), none, none, none, none, none, none] []
  obtain ⟨hnc, kinds, edges, code, H_tx, H_tkk, H_te, H_tco, hkd, hcl⟩ := hT
  obtain ⟨H_ju, H_jn, stk0, H_js⟩ := hJ
  refine e_iconst (v := 0) d_X3_run_0 (by decide) ?_
  refine e_istoren d_X3_run_1 (by decide) rfl ?_
  refine e_aloadn d_X3_run_2 rfl ?_
  refine e_get d_X3_run_3 f_X3_49 H_tx rfl ?_
  refine e_iloadn d_X3_run_6 rfl ?_
  refine e_ialdN (k := K) d_X3_run_7 H_te rfl (by omega) (by omega) ?_
  obtain ⟨e, he, he2, he3, hco⟩ := hcl K hK
  rw [he]
  refine e_istore d_X3_run_8 (by decide) rfl ?_
  have hA_10 : ∀ i, i ≤ (cd K).length → ∀ (k : AH) (F : Unit) (S : List Int) (T : List Bool) (ok : Unit) (len : Unit) (ty : Unit) (ev : Unit) (sr : Unit) (x : Int32) (y : Int32), (Fr [26] h k) → (OKS T S) → (T.length ≤ 24) → (tyS ((cd K).drop i) T = some [τ]) → (evS nm ((cd K).drop i) S = evS nm (cd K) []) → (∃ stk : Nat → Int32, Hs k 26 (aI 32 stk) ∧ SR stk S) → (x = nI S.length) → (y = nI (e + i)) → E M_X3_run (0, 0) (rI (fun x h' => x = Int32.ofInt (evV nm (cd K)) ∧ JuC h' nms ∧ Fr [26] h h')) 10 (k) [some (.ref 24), some (.ref (42 + 4 * tp)), some (.int (nI K)), some (.int x), some (.int y), none, none, none, none] [] := by
    refine loop_ind (n := (cd K).length) ?_
    intro i hi_i ih_10 k F S T ok len ty ev sr x y h_F h_ok h_len h_ty h_ev h_sr h_x h_y
    subst h_x
    subst h_y
    have hlen := OKS_len h_ok
    have H_ju := h_F.hs H_ju (by decide)
    have H_jn := h_F.hs H_jn (by decide)
    have H_tx := h_F.hs H_tx (by simp; omega)
    have H_tkk := h_F.hs H_tkk (by simp; omega)
    have H_te := h_F.hs H_te (by simp; omega)
    have H_tco := h_F.hs H_tco (by simp; omega)
    obtain ⟨stk, H_js, h_sr⟩ := h_sr
    refine e_iload d_X3_run_10 rfl ?_
    refine e_aloadn d_X3_run_12 rfl ?_
    refine e_get d_X3_run_13 f_X3_49 H_tx rfl ?_
    refine e_iloadn d_X3_run_16 rfl ?_
    refine e_iconst (v := 1) d_X3_run_17 (by decide) ?_
    refine e_iadd d_X3_run_18 ?_
    refine e_ialdN (k := K + 1) d_X3_run_19 H_te (nI_1 K) (by omega) (by omega) ?_
    rw [he2]
    refine e_icmp_ge d_X3_run_20 (fun c => ?_) (fun c => ?_)
    · have c := i_le (by omega) (by omega) c
      obtain rfl : (cd K).length = i := by omega
      rw [List.drop_length] at h_ty h_ev
      simp only [tyS, Option.some.injEq] at h_ty
      subst h_ty
      obtain ⟨v, S1, rfl, hv1, hS0⟩ := OKS_1 h_ok
      obtain rfl := OKS_0 hS0
      refine e_iloadn d_X3_run_234 rfl ?_
      refine e_if_le d_X3_run_235 (fun z => by first | exact absurd ((show ¬ nI 1 ≤ 0 by decide)) z | exact absurd z ((show ¬ nI 1 ≤ 0 by decide))) (fun _ => ?_)
      refine e_aloadn d_X3_run_238 rfl ?_
      refine e_get d_X3_run_239 f_X3_15 H_ju rfl ?_
      refine e_iconst (v := 0) d_X3_run_242 (by decide) ?_
      refine e_ialdN (k := 0) d_X3_run_243 H_js rfl (by decide) (by decide) ?_
      refine e_gt d_X3_run_244 ?_
      exact e_iret d_X3_run_248 rfl (rfl) (⟨_, rfl, by rw [evV, ← h_ev]; exact h_sr.1, ⟨H_ju, H_jn, _, H_js⟩, h_F⟩)
    · have c := i_nle (by omega) (by omega) c
      have c : i < (cd K).length := by omega
      obtain ⟨t, htc⟩ : ∃ t, (cd K)[i]? = some t := ⟨_, List.getElem?_eq_getElem c⟩
      rw [drop_at htc] at h_ty h_ev
      obtain ⟨T1, hT1, hT2⟩ := tyS_cons h_ty
      obtain ⟨hv, hv24⟩ := ty1_v hT1
      have htm : t ∈ cd K := List.mem_of_getElem? htc
      have h_ok0 := h_ok
      refine e_iload d_X3_run_23 rfl ?_
      refine e_aloadn d_X3_run_25 rfl ?_
      refine e_get d_X3_run_26 f_X3_52 H_tx rfl ?_
      refine e_alenL (v := 300) d_X3_run_29 H_tco rfl ?_
      refine e_icmp_ge d_X3_run_30 (fun z => by first | exact absurd (fun z => absurd (i_le (a := 300) (by decide) (by omega) z) (by omega)) z | exact absurd z (fun z => absurd (i_le (a := 300) (by decide) (by omega) z) (by omega))) (fun _ => ?_)
      refine e_aloadn d_X3_run_33 rfl ?_
      refine e_get d_X3_run_34 f_X3_52 H_tx rfl ?_
      refine e_iload d_X3_run_37 rfl ?_
      refine e_ialdN (k := e + i) d_X3_run_39 H_tco rfl (by omega) (by omega) ?_
      rw [hco i t htc]
      refine e_istore d_X3_run_40 (by decide) rfl ?_
      by_cases h100 : 100 ≤ t
      · refine e_iload d_X3_run_42 rfl ?_
        refine e_bipush (v := 100) d_X3_run_44 (by decide) ?_
        have hl24 := hv24 (by omega)
        have hS1 := ev1_num (nm := nm) (S := S) h100
        refine e_icmp_ge d_X3_run_46 (fun _ => ?_) (fun z => by first | exact absurd ((nI_leI (a := 100) (by decide) (by omega)).mpr h100) z | exact absurd z ((nI_leI (a := 100) (by decide) (by omega)).mpr h100))
        refine e_iconst (v := 1) d_X3_run_56 (by decide) ?_
        refine e_gt d_X3_run_57 ?_
        refine e_istore d_X3_run_61 (by decide) rfl ?_
        refine e_iload d_X3_run_63 rfl ?_
        refine e_if_eq d_X3_run_65 (fun z => by first | exact absurd ((by decide : ¬ (1 : Int32) = 0)) z | exact absurd z ((by decide : ¬ (1 : Int32) = 0))) (fun _ => ?_)
        refine e_iloadn d_X3_run_68 rfl ?_
        refine e_aloadn d_X3_run_69 rfl ?_
        refine e_get d_X3_run_70 f_X3_15 H_ju rfl ?_
        refine e_alenL (v := 32) d_X3_run_73 H_js rfl ?_
        refine e_icmp_ge d_X3_run_74 (fun z => by first | exact absurd (fun z => absurd (i_le (a := 32) (by decide) (by omega) z) (by omega)) z | exact absurd z (fun z => absurd (i_le (a := 32) (by decide) (by omega) z) (by omega))) (fun _ => ?_)
        refine e_aloadn d_X3_run_77 rfl ?_
        refine e_get d_X3_run_78 f_X3_15 H_ju rfl ?_
        refine e_iloadn d_X3_run_81 rfl ?_
        refine e_iload d_X3_run_82 rfl ?_
        refine e_bipush (v := 100) d_X3_run_84 (by decide) ?_
        refine e_icmp_lt d_X3_run_86 (fun z => by first | exact absurd (fun z => absurd (i_lt (b := 100) (by omega) (by decide) z) (by omega)) z | exact absurd z (fun z => absurd (i_lt (b := 100) (by omega) (by decide) z) (by omega))) (fun _ => ?_)
        refine e_iload d_X3_run_89 rfl ?_
        refine e_bipush (v := 100) d_X3_run_91 (by decide) ?_
        refine e_isub d_X3_run_93 ?_
        refine e_gt d_X3_run_94 ?_
        rw [num_of h100]
        refine e_iastN (k := S.length) d_X3_run_104 H_js rfl (by omega) (by omega) ?_
        refine e_iincw (w := 1) d_X3_run_105 rfl (by decide) (by decide) rfl ?_
        refine e_gt d_X3_run_108 ?_
        refine e_iincw (w := 1) d_X3_run_228 rfl (by decide) (by decide) rfl ?_
        refine e_gt d_X3_run_231 ?_
        refine e_drop1 5 ?_
        refine e_drop1 6 ?_
        refine ih_10 (i + 1) (by omega) (by omega) _ () (ev1 nm t S) T1 () () () () () _ _ ?_ ?_ ?_ ?_ ?_ ?_ ?_ ?_
        · exact h_F.up (by decide)
        · exact ev1_ok (fun z => (hnm t htm z).2) hT1 h_ok0
        · exact ty1_len hT1 h_len
        · exact hT2
        · exact h_ev
        · rw [hS1]
          first
          | exact ⟨_, Hs.s H_js, h_sr.push rfl⟩
          | exact ⟨_, Hs.s H_js, SR.push (S := S1) h_sr.2 hst⟩
        · rw [hS1]
          first
          | (rw [hl2]; exact nI_m1x _)
          | (rw [hl1]; rfl)
          | exact nI_1 _
        · exact nI_1 _
      · refine e_iload d_X3_run_42 rfl ?_
        refine e_bipush (v := 100) d_X3_run_44 (by decide) ?_
        refine e_icmp_ge d_X3_run_46 (fun z => by first | exact absurd (fun z => absurd (i_le (a := 100) (by decide) (by omega) z) h100) z | exact absurd z (fun z => absurd (i_le (a := 100) (by decide) (by omega) z) h100)) (fun _ => ?_)
        by_cases h11 : t < 11
        · refine e_iload d_X3_run_49 rfl ?_
          refine e_bipush (v := 11) d_X3_run_51 (by decide) ?_
          have hl24 := hv24 (by omega)
          have hS1 := ev1_nam (nm := nm) (S := S) h11
          refine e_icmp_ge d_X3_run_53 (fun z => by first | exact absurd (fun z => absurd (i_le (a := 11) (by decide) (by omega) z) (by omega)) z | exact absurd z (fun z => absurd (i_le (a := 11) (by decide) (by omega) z) (by omega))) (fun _ => ?_)
          refine e_iconst (v := 1) d_X3_run_56 (by decide) ?_
          refine e_gt d_X3_run_57 ?_
          refine e_istore d_X3_run_61 (by decide) rfl ?_
          refine e_iload d_X3_run_63 rfl ?_
          refine e_if_eq d_X3_run_65 (fun z => by first | exact absurd ((by decide : ¬ (1 : Int32) = 0)) z | exact absurd z ((by decide : ¬ (1 : Int32) = 0))) (fun _ => ?_)
          refine e_iloadn d_X3_run_68 rfl ?_
          refine e_aloadn d_X3_run_69 rfl ?_
          refine e_get d_X3_run_70 f_X3_15 H_ju rfl ?_
          refine e_alenL (v := 32) d_X3_run_73 H_js rfl ?_
          refine e_icmp_ge d_X3_run_74 (fun z => by first | exact absurd (fun z => absurd (i_le (a := 32) (by decide) (by omega) z) (by omega)) z | exact absurd z (fun z => absurd (i_le (a := 32) (by decide) (by omega) z) (by omega))) (fun _ => ?_)
          refine e_aloadn d_X3_run_77 rfl ?_
          refine e_get d_X3_run_78 f_X3_15 H_ju rfl ?_
          refine e_iloadn d_X3_run_81 rfl ?_
          refine e_iload d_X3_run_82 rfl ?_
          refine e_bipush (v := 100) d_X3_run_84 (by decide) ?_
          refine e_icmp_lt d_X3_run_86 (fun _ => ?_) (fun z => by first | exact absurd ((nI_ltI (b := 100) (by omega) (by decide)).mpr (by omega)) z | exact absurd z ((nI_ltI (b := 100) (by omega) (by decide)).mpr (by omega)))
          refine e_aloadn d_X3_run_97 rfl ?_
          refine e_get d_X3_run_98 f_X3_9 H_ju rfl ?_
          refine e_iload d_X3_run_101 rfl ?_
          refine e_ialdN (k := t) d_X3_run_103 H_jn rfl (by omega) (by omega) ?_
          rw [(hnm t htm h11).1]
          refine e_iastN (k := S.length) d_X3_run_104 H_js rfl (by omega) (by omega) ?_
          refine e_iincw (w := 1) d_X3_run_105 rfl (by decide) (by decide) rfl ?_
          refine e_gt d_X3_run_108 ?_
          refine e_iincw (w := 1) d_X3_run_228 rfl (by decide) (by decide) rfl ?_
          refine e_gt d_X3_run_231 ?_
          refine e_drop1 5 ?_
          refine e_drop1 6 ?_
          refine ih_10 (i + 1) (by omega) (by omega) _ () (ev1 nm t S) T1 () () () () () _ _ ?_ ?_ ?_ ?_ ?_ ?_ ?_ ?_
          · exact h_F.up (by decide)
          · exact ev1_ok (fun z => (hnm t htm z).2) hT1 h_ok0
          · exact ty1_len hT1 h_len
          · exact hT2
          · exact h_ev
          · rw [hS1]
            first
            | exact ⟨_, Hs.s H_js, h_sr.push rfl⟩
            | exact ⟨_, Hs.s H_js, SR.push (S := S1) h_sr.2 hst⟩
          · rw [hS1]
            first
            | (rw [hl2]; exact nI_m1x _)
            | (rw [hl1]; rfl)
            | exact nI_1 _
          · exact nI_1 _
        · refine e_iload d_X3_run_49 rfl ?_
          refine e_bipush (v := 11) d_X3_run_51 (by decide) ?_
          refine e_icmp_ge d_X3_run_53 (fun _ => ?_) (fun z => by first | exact absurd ((nI_leI (a := 11) (by decide) (by omega)).mpr (by omega)) z | exact absurd z ((nI_leI (a := 11) (by decide) (by omega)).mpr (by omega)))
          refine e_iconst (v := 0) d_X3_run_60 (by decide) ?_
          refine e_istore d_X3_run_61 (by decide) rfl ?_
          refine e_iload d_X3_run_63 rfl ?_
          refine e_if_eq d_X3_run_65 (fun _ => ?_) (fun z => by first | exact absurd ((rfl : (0 : Int32) = 0)) z | exact absurd z ((rfl : (0 : Int32) = 0)))
          by_cases hN : t = 11
          · refine e_iload d_X3_run_111 rfl ?_
            refine e_bipush (v := 11) d_X3_run_113 (by decide) ?_
            obtain ⟨τ1, T2, hTe⟩ := ty1_u hT1 (Or.inl hN)
            rw [hTe] at h_ok
            obtain ⟨v, S1, hSe, hv1, hS0⟩ := OKS_1 h_ok
            have hl1 : S.length = S1.length + 1 := by rw [hSe]; rfl
            rw [hSe] at h_sr
            have hS1 : ev1 nm t S = (1 - v) :: S1 := by rw [hSe, hN]; exact ev1_not
            have hst : (1 : Int32) - stk S1.length = Int32.ofInt (1 - v) := by rw [h_sr.1, i32_sub1]
            refine e_icmp_eq d_X3_run_115 (fun _ => ?_) (fun z => by first | exact absurd ((by rw [hN]; rfl)) z | exact absurd z ((by rw [hN]; rfl)))
            refine e_iloadn d_X3_run_125 rfl ?_
            refine e_if_le d_X3_run_126 (fun z => by first | exact absurd (fun z => absurd (i_np (by omega) z) (by omega)) z | exact absurd z (fun z => absurd (i_np (by omega) z) (by omega))) (fun _ => ?_)
            refine e_aloadn d_X3_run_129 rfl ?_
            refine e_get d_X3_run_130 f_X3_15 H_ju rfl ?_
            refine e_iloadn d_X3_run_133 rfl ?_
            refine e_iconst (v := 1) d_X3_run_134 (by decide) ?_
            refine e_isub d_X3_run_135 ?_
            refine e_iload d_X3_run_136 rfl ?_
            refine e_bipush (v := 11) d_X3_run_138 (by decide) ?_
            refine e_icmp_ne d_X3_run_140 (fun z => by first | exact absurd (fun z => z (by rw [hN]; rfl)) z | exact absurd z (fun z => z (by rw [hN]; rfl))) (fun _ => ?_)
            refine e_iconst (v := 1) d_X3_run_143 (by decide) ?_
            refine e_aloadn d_X3_run_144 rfl ?_
            refine e_get d_X3_run_145 f_X3_15 H_ju rfl ?_
            refine e_iloadn d_X3_run_148 rfl ?_
            refine e_iconst (v := 1) d_X3_run_149 (by decide) ?_
            refine e_isub d_X3_run_150 ?_
            refine e_ialdN (k := S1.length) d_X3_run_151 H_js (by rw [hl1]; exact nI_m) (by omega) (by omega) ?_
            refine e_isub d_X3_run_152 ?_
            refine e_gt d_X3_run_153 ?_
            refine e_iastN (k := S1.length) d_X3_run_165 H_js (by rw [hl1]; exact nI_m) (by omega) (by omega) ?_
            refine e_gt d_X3_run_166 ?_
            refine e_iincw (w := 1) d_X3_run_228 rfl (by decide) (by decide) rfl ?_
            refine e_gt d_X3_run_231 ?_
            refine e_drop1 5 ?_
            refine e_drop1 6 ?_
            refine ih_10 (i + 1) (by omega) (by omega) _ () (ev1 nm t S) T1 () () () () () _ _ ?_ ?_ ?_ ?_ ?_ ?_ ?_ ?_
            · exact h_F.up (by decide)
            · exact ev1_ok (fun z => (hnm t htm z).2) hT1 h_ok0
            · exact ty1_len hT1 h_len
            · exact hT2
            · exact h_ev
            · rw [hS1]
              first
              | exact ⟨_, Hs.s H_js, h_sr.push rfl⟩
              | exact ⟨_, Hs.s H_js, SR.push (S := S1) h_sr.2 hst⟩
            · rw [hS1]
              first
              | (rw [hl2]; exact nI_m1x _)
              | (rw [hl1]; rfl)
              | exact nI_1 _
            · exact nI_1 _
          · refine e_iload d_X3_run_111 rfl ?_
            refine e_bipush (v := 11) d_X3_run_113 (by decide) ?_
            refine e_icmp_eq d_X3_run_115 (fun z => by first | exact absurd (fun z => absurd ((nI_eq (b := 11) (by omega) (by decide)).mp z) hN) z | exact absurd z (fun z => absurd ((nI_eq (b := 11) (by omega) (by decide)).mp z) hN)) (fun _ => ?_)
            by_cases hM : t = 31
            · refine e_iload d_X3_run_118 rfl ?_
              refine e_bipush (v := 31) d_X3_run_120 (by decide) ?_
              obtain ⟨τ1, T2, hTe⟩ := ty1_u hT1 (Or.inr hM)
              rw [hTe] at h_ok
              obtain ⟨v, S1, hSe, hv1, hS0⟩ := OKS_1 h_ok
              have hl1 : S.length = S1.length + 1 := by rw [hSe]; rfl
              rw [hSe] at h_sr
              have hS1 : ev1 nm t S = (-v) :: S1 := by rw [hSe, hM]; exact ev1_neg
              have hst : -(stk S1.length) = Int32.ofInt (-v) := by rw [h_sr.1, Int32.ofInt_neg]
              refine e_icmp_ne d_X3_run_122 (fun z => by first | exact absurd (fun z => z (by rw [hM]; rfl)) z | exact absurd z (fun z => z (by rw [hM]; rfl))) (fun _ => ?_)
              refine e_iloadn d_X3_run_125 rfl ?_
              refine e_if_le d_X3_run_126 (fun z => by first | exact absurd (fun z => absurd (i_np (by omega) z) (by omega)) z | exact absurd z (fun z => absurd (i_np (by omega) z) (by omega))) (fun _ => ?_)
              refine e_aloadn d_X3_run_129 rfl ?_
              refine e_get d_X3_run_130 f_X3_15 H_ju rfl ?_
              refine e_iloadn d_X3_run_133 rfl ?_
              refine e_iconst (v := 1) d_X3_run_134 (by decide) ?_
              refine e_isub d_X3_run_135 ?_
              refine e_iload d_X3_run_136 rfl ?_
              refine e_bipush (v := 11) d_X3_run_138 (by decide) ?_
              refine e_icmp_ne d_X3_run_140 (fun _ => ?_) (fun z => by first | exact absurd ((by rw [hM]; decide)) z | exact absurd z ((by rw [hM]; decide)))
              refine e_aloadn d_X3_run_156 rfl ?_
              refine e_get d_X3_run_157 f_X3_15 H_ju rfl ?_
              refine e_iloadn d_X3_run_160 rfl ?_
              refine e_iconst (v := 1) d_X3_run_161 (by decide) ?_
              refine e_isub d_X3_run_162 ?_
              refine e_ialdN (k := S1.length) d_X3_run_163 H_js (by rw [hl1]; exact nI_m) (by omega) (by omega) ?_
              refine e_ineg d_X3_run_164 ?_
              refine e_iastN (k := S1.length) d_X3_run_165 H_js (by rw [hl1]; exact nI_m) (by omega) (by omega) ?_
              refine e_gt d_X3_run_166 ?_
              refine e_iincw (w := 1) d_X3_run_228 rfl (by decide) (by decide) rfl ?_
              refine e_gt d_X3_run_231 ?_
              refine e_drop1 5 ?_
              refine e_drop1 6 ?_
              refine ih_10 (i + 1) (by omega) (by omega) _ () (ev1 nm t S) T1 () () () () () _ _ ?_ ?_ ?_ ?_ ?_ ?_ ?_ ?_
              · exact h_F.up (by decide)
              · exact ev1_ok (fun z => (hnm t htm z).2) hT1 h_ok0
              · exact ty1_len hT1 h_len
              · exact hT2
              · exact h_ev
              · rw [hS1]
                first
                | exact ⟨_, Hs.s H_js, h_sr.push rfl⟩
                | exact ⟨_, Hs.s H_js, SR.push (S := S1) h_sr.2 hst⟩
              · rw [hS1]
                first
                | (rw [hl2]; exact nI_m1x _)
                | (rw [hl1]; rfl)
                | exact nI_1 _
              · exact nI_1 _
            · refine e_iload d_X3_run_118 rfl ?_
              refine e_bipush (v := 31) d_X3_run_120 (by decide) ?_
              obtain ⟨ho, τ1, τ2, T2, hTe, hab⟩ := ty1_b hT1 h100 h11 hN hM
              rw [hTe] at h_ok
              obtain ⟨v, S0, hSe0, hv1, hS0⟩ := OKS_1 h_ok
              obtain ⟨w, S1, hSe1, hw1, hS9⟩ := OKS_1 hS0
              have hSe : S = v :: w :: S1 := by rw [hSe0, hSe1]
              have hl2 : S.length = S1.length + 1 + 1 := by rw [hSe]; rfl
              rw [hSe] at h_sr
              have hS1 : ev1 nm t S = bnd (jr t w v) :: S1 := by rw [hSe]; exact ev1_bin (nm := nm) (v := v) (w := w) (S := S1) h100 h11 hN hM
              have e1 : stk (S1.length + 1) = Int32.ofInt v := h_sr.1
              have e2 : stk S1.length = Int32.ofInt w := h_sr.2.1
              have hst : Int32.ofInt (bnd (jr t w v)) = Int32.ofInt (bnd (jr t w v)) := rfl
              replace h_sr : SR stk (w :: S1) := h_sr.2
              refine e_icmp_ne d_X3_run_122 (fun _ => ?_) (fun z => by first | exact absurd (fun z => absurd ((nI_eq (b := 31) (by omega) (by decide)).mp z) hM) z | exact absurd z (fun z => absurd ((nI_eq (b := 31) (by omega) (by decide)).mp z) hM))
              refine e_iload d_X3_run_169 rfl ?_
              refine e_if_ne d_X3_run_171 (fun z => by first | exact absurd (fun z => z rfl) z | exact absurd z (fun z => z rfl)) (fun _ => ?_)
              refine e_iloadn d_X3_run_174 rfl ?_
              refine e_iconst (v := 1) d_X3_run_175 (by decide) ?_
              refine e_icmp_le d_X3_run_176 (fun z => by first | exact absurd (fun z => absurd (i_le (b := 1) (by omega) (by decide) z) (by omega)) z | exact absurd z (fun z => absurd (i_le (b := 1) (by omega) (by decide) z) (by omega))) (fun _ => ?_)
              refine e_iincw (w := -1) d_X3_run_179 rfl (by decide) (by decide) rfl ?_
              refine e_iload d_X3_run_182 rfl ?_
              refine e_aloadn d_X3_run_184 rfl ?_
              refine e_get d_X3_run_185 f_X3_15 H_ju rfl ?_
              refine e_iloadn d_X3_run_188 rfl ?_
              refine e_iconst (v := 1) d_X3_run_189 (by decide) ?_
              refine e_isub d_X3_run_190 ?_
              refine e_ialdN (k := S1.length) d_X3_run_191 H_js (by rw [hl2]; exact nI_m2 _) (by omega) (by omega) ?_
              refine e_i2l d_X3_run_192 ?_
              refine e_aloadn d_X3_run_193 rfl ?_
              refine e_get d_X3_run_194 f_X3_15 H_ju rfl ?_
              refine e_iloadn d_X3_run_197 rfl ?_
              refine e_ialdN (k := S1.length + 1) d_X3_run_198 H_js (by rw [hl2]; exact nI_m1x _) (by omega) (by omega) ?_
              refine e_i2l d_X3_run_199 ?_
              rw [e1, e2, i32_64 hw1.2.1 hw1.2.2, i32_64 hv1.2.1 hv1.2.2]
              refine e_callSJ d_X3_run_200 l_X3_run_55 (s_X3_joined (o := t) (a := w) (b := v) ho hw1.2 hv1.2 (fun z => ⟨hw1.1 (hab z).2, hv1.1 (hab z).1⟩)) rfl rfl (Nat.le_of_ble_eq_true rfl) ?_
              refine e_lstore d_X3_run_203 (by decide) rfl ?_
              refine e_aloadn d_X3_run_205 rfl ?_
              refine e_get d_X3_run_206 f_X3_15 H_ju rfl ?_
              refine e_iloadn d_X3_run_209 rfl ?_
              refine e_iconst (v := 1) d_X3_run_210 (by decide) ?_
              refine e_isub d_X3_run_211 ?_
              refine e_ldc2 d_X3_run_212 v_X3_59 ?_
              refine e_lload d_X3_run_215 rfl ?_
              refine e_ldc2 d_X3_run_217 v_X3_61 ?_
              refine e_callSJ d_X3_run_220 l_X3_run_63 (s_J9_min_f86c9  ) rfl rfl (Nat.le_of_ble_eq_true rfl) ?_
              refine e_callSJ d_X3_run_223 l_X3_run_69 (s_J9_max_f86c9  ) rfl rfl (Nat.le_of_ble_eq_true rfl) ?_
              refine e_l2i d_X3_run_226 ?_
              rw [cl_bnd (jr_in hw1.2 hv1.2)]
              refine e_iastN (k := S1.length) d_X3_run_227 H_js (by rw [hl2]; exact nI_m2 _) (by omega) (by omega) ?_
              refine e_iincw (w := 1) d_X3_run_228 rfl (by decide) (by decide) rfl ?_
              refine e_gt d_X3_run_231 ?_
              refine e_drop1 5 ?_
              refine e_drop1 6 ?_
              refine e_drop1 7 ?_
              refine ih_10 (i + 1) (by omega) (by omega) _ () (ev1 nm t S) T1 () () () () () _ _ ?_ ?_ ?_ ?_ ?_ ?_ ?_ ?_
              · exact h_F.up (by decide)
              · exact ev1_ok (fun z => (hnm t htm z).2) hT1 h_ok0
              · exact ty1_len hT1 h_len
              · exact hT2
              · exact h_ev
              · rw [hS1]
                first
                | exact ⟨_, Hs.s H_js, h_sr.push rfl⟩
                | exact ⟨_, Hs.s H_js, SR.push (S := S1) h_sr.2 hst⟩
              · rw [hS1]
                first
                | (rw [hl2]; exact nI_m1x _)
                | (rw [hl1]; rfl)
                | exact nI_1 _
              · exact nI_1 _
  exact hA_10 0 (by omega) _ () [] [] () () () () () _ _ (Fr.refl _ _) (trivial) (by simp) (hty) (rfl) (⟨_, H_js, trivial⟩) (rfl) (rfl)

theorem s_X3_some {h : AH} {tp nc : Nat} {kd : Nat → Nat} {cd : Nat → List Nat} {many near : Int32} {nms : Nat → Int32} {nm : Nat → Int} {kk : Nat} (hT : TxC h tp nc kd cd many near) (hJ : JuC h nms) (hk : kk < 100) (hkk : ∀ i, i < nc → kd i = kk → NMc nms nm (cd i) ∧ ∃ τ, tyS (cd i) [] = some [τ]) : Sp M_X3_some (0, 0) h [.ref 24, .ref (42 + 4 * tp), .int (nI kk)] (rI (fun x h' => x = bI (isS nm nc kd cd kk = true) ∧ JuC h' nms ∧ Fr [26] h h')) := by
  refine ⟨Nat.le_of_ble_eq_true rfl, ?_⟩
  show E _ _ _ 0 h [some (.ref 24), some (.ref (42 + 4 * tp)), some (.int (nI kk)), none] []
  have H_ju := hJ.1
  refine e_iconst (v := 0) d_X3_some_0 (by decide) ?_
  refine e_istoren d_X3_some_1 (by decide) rfl ?_
  have hA_2 : ∀ i, i ≤ nc → ∀ (k : AH) (F : Unit) (J : Unit) (u : Unit) (y : Int32), (Fr [26] h k) → (JuC k nms) → (∀ j, j < i → (fun i => decide (kd i = kk) && decide (evV nm (cd i) ≠ 0)) j = false) → (y = nI i) → E M_X3_some (0, 0) (rI (fun x h' => x = bI (isS nm nc kd cd kk = true) ∧ JuC h' nms ∧ Fr [26] h h')) 2 (k) [some (.ref 24), some (.ref (42 + 4 * tp)), some (.int (nI kk)), some (.int y)] [] := by
    refine loop_ind (n := nc) ?_
    intro i hi_i ih_2 k F J u y h_F h_J h_u h_y
    have hT := TxC.fr hT h_F (by decide)
    have hT2 := hT
    obtain ⟨hnc, kinds, edges, code, H_tx, H_tkk, H_te, H_tco, hkd, hcl⟩ := hT2
    have H_ju := h_J.1
    subst h_y
    refine e_iloadn d_X3_some_2 rfl ?_
    refine e_aloadn d_X3_some_3 rfl ?_
    refine e_get d_X3_some_4 f_X3_36 H_tx rfl ?_
    refine e_icmp_ge d_X3_some_7 (fun c => ?_) (fun c => ?_)
    · have c := i_le (by omega) (by omega) c
      obtain rfl : nc = i := by omega
      refine e_iconst (v := 0) d_X3_some_37 (by decide) ?_
      exact e_iret d_X3_some_38 rfl (rfl) (⟨_, rfl, by rw [isS, anyN_f h_u]; rfl, h_J, h_F⟩)
    · have c := i_nle (by omega) (by omega) c
      refine e_aloadn d_X3_some_10 rfl ?_
      refine e_get d_X3_some_11 f_X3_42 H_tx rfl ?_
      refine e_iloadn d_X3_some_14 rfl ?_
      refine e_ialdN (k := i) d_X3_some_15 H_tkk rfl (by omega) (by omega) ?_
      refine e_iloadn d_X3_some_16 rfl ?_
      rw [(hkd i c).1]
      refine e_icmp_ne d_X3_some_17 (fun c_17 => ?_) (fun c_17 => ?_)
      · have hb : (fun i => decide (kd i = kk) && decide (evV nm (cd i) ≠ 0)) i = false := by simp [show ¬ kd i = kk from fun z => c_17 (by rw [z])]
        refine e_iincw (w := 1) d_X3_some_31 rfl (by decide) (by decide) rfl ?_
        refine e_gt d_X3_some_34 ?_
        refine ih_2 (i + 1) (by omega) (by omega) _ () () () _ ?_ ?_ ?_ ?_
        · first
          | exact h_F.trans q_23.2.2
          | exact h_F
        · first
          | exact q_23.2.1
          | exact h_J
        · intro j hj
          by_cases e : j = i
          · subst e; exact hb
          · exact h_u j (by omega)
        · exact nI_1 i
      · have hk2 : kd i = kk := (nI_eq (by have := (hkd i c).2; omega) (by omega)).mp c_17
        obtain ⟨hnm, τ, hty⟩ := hkk i c hk2
        have hin := evV_in (fun t a b => (hnm t a b).2) hty
        refine e_aloadn d_X3_some_20 rfl ?_
        refine e_aloadn d_X3_some_21 rfl ?_
        refine e_iloadn d_X3_some_22 rfl ?_
        refine e_callRVI d_X3_some_23 l_X3_some_45 H_ju rfl rfl (s_X3_run hT h_J c hnm hty) rfl rfl (Nat.le_of_ble_eq_true rfl) (fun x_23 h_23 q_23 s_23 => ?_)
        obtain ⟨rfl, q_23⟩ := q_23
        have q_23 : True ∧ JuC h_23 nms ∧ Fr [26] k h_23 := ⟨trivial, q_23⟩
        refine e_if_eq d_X3_some_26 (fun c_26 => ?_) (fun c_26 => ?_)
        · have hb : (fun i => decide (kd i = kk) && decide (evV nm (cd i) ≠ 0)) i = false := by simp [(ofInt_0 hin.2.1 hin.2.2).mp c_26]
          refine e_iincw (w := 1) d_X3_some_31 rfl (by decide) (by decide) rfl ?_
          refine e_gt d_X3_some_34 ?_
          refine ih_2 (i + 1) (by omega) (by omega) _ () () () _ ?_ ?_ ?_ ?_
          · first
            | exact h_F.trans q_23.2.2
            | exact h_F
          · first
            | exact q_23.2.1
            | exact h_J
          · intro j hj
            by_cases e : j = i
            · subst e; exact hb
            · exact h_u j (by omega)
          · exact nI_1 i
        · have hb : (fun i => decide (kd i = kk) && decide (evV nm (cd i) ≠ 0)) i = true := by simp [hk2]; exact fun z => c_26 (by rw [z]; rfl)
          refine e_iconst (v := 1) d_X3_some_29 (by decide) ?_
          exact e_iret d_X3_some_30 rfl (rfl) (⟨_, rfl, by rw [isS, anyN_t c hb]; rfl, q_23.2.1, h_F.trans q_23.2.2⟩)
  exact hA_2 0 (by omega) _ () () () _ (Fr.refl _ _) (hJ) (fun j hj => absurd hj (by omega)) (rfl)

theorem s_X3_value {h : AH} {tp nc : Nat} {kd : Nat → Nat} {cd : Nat → List Nat} {many near : Int32} {nms : Nat → Int32} {nm : Nat → Int} (hT : TxC h tp nc kd cd many near) (hJ : JuC h nms) (hkk : ∀ i, i < nc → kd i = 16 → NMc nms nm (cd i) ∧ ∃ τ, tyS (cd i) [] = some [τ]) : Sp M_X3_value (0, 0) h [.ref 24, .ref (42 + 4 * tp)] (rI (fun x h' => x = Int32.ofInt (valN nm nc kd cd) ∧ JuC h' nms ∧ Fr [26] h h')) := by
  refine ⟨Nat.le_of_ble_eq_true rfl, ?_⟩
  show E _ _ _ 0 h [some (.ref 24), some (.ref (42 + 4 * tp)), none] []
  have H_ju := hJ.1
  have hT2 := hT
  obtain ⟨hnc, kinds, edges, code, H_tx, H_tkk, H_te, H_tco, hkd, hcl⟩ := hT2
  refine e_iconst (v := 0) d_X3_value_0 (by decide) ?_
  refine e_istoren d_X3_value_1 (by decide) rfl ?_
  have hA_2 : ∀ i, i ≤ nc → ∀ (u : Unit) (y : Int32), (∀ j, j < i → (fun i => decide (kd i = 16)) j = false) → (y = nI i) → E M_X3_value (0, 0) (rI (fun x h' => x = Int32.ofInt (valN nm nc kd cd) ∧ JuC h' nms ∧ Fr [26] h h')) 2 (h) [some (.ref 24), some (.ref (42 + 4 * tp)), some (.int y)] [] := by
    refine loop_ind (n := nc) ?_
    intro i hi_i ih_2 u y h_u h_y
    subst h_y
    refine e_iloadn d_X3_value_2 rfl ?_
    refine e_aloadn d_X3_value_3 rfl ?_
    refine e_get d_X3_value_4 f_X3_36 H_tx rfl ?_
    refine e_icmp_ge d_X3_value_7 (fun c => ?_) (fun c => ?_)
    · have c := i_le (by omega) (by omega) c
      obtain rfl : nc = i := by omega
      refine e_iconst (v := 0) d_X3_value_34 (by decide) ?_
      exact e_iret d_X3_value_35 rfl (rfl) (⟨_, rfl, by rw [valN, fstK, rng_none (P := (fun i => decide (kd i = 16))) h_u]; rfl, hJ, Fr.refl _ _⟩)
    · have c := i_nle (by omega) (by omega) c
      refine e_aloadn d_X3_value_10 rfl ?_
      refine e_get d_X3_value_11 f_X3_42 H_tx rfl ?_
      refine e_iloadn d_X3_value_14 rfl ?_
      refine e_ialdN (k := i) d_X3_value_15 H_tkk rfl (by omega) (by omega) ?_
      refine e_bipush (v := 16) d_X3_value_16 (by decide) ?_
      rw [(hkd i c).1]
      refine e_icmp_ne d_X3_value_18 (fun c_18 => ?_) (fun c_18 => ?_)
      · have hb : (fun i => decide (kd i = 16)) i = false := by simp [show ¬ kd i = 16 from fun z => c_18 (by rw [z]; rfl)]
        refine e_iincw (w := 1) d_X3_value_28 rfl (by decide) (by decide) rfl ?_
        refine e_gt d_X3_value_31 ?_
        refine ih_2 (i + 1) (by omega) (by omega) () _ ?_ ?_
        · intro j hj
          by_cases e : j = i
          · subst e; exact hb
          · exact h_u j (by omega)
        · exact nI_1 i
      · have hk2 : kd i = 16 := (nI_eq (b := 16) (by have := (hkd i c).2; omega) (by decide)).mp c_18
        obtain ⟨hnm, τ, hty⟩ := hkk i c hk2
        refine e_aloadn d_X3_value_21 rfl ?_
        refine e_aloadn d_X3_value_22 rfl ?_
        refine e_iloadn d_X3_value_23 rfl ?_
        refine e_callRVI d_X3_value_24 l_X3_value_45 H_ju rfl rfl (s_X3_run hT hJ c hnm hty) rfl rfl (Nat.le_of_ble_eq_true rfl) (fun x_24 h_24 q_24 s_24 => ?_)
        obtain ⟨rfl, q_24⟩ := q_24
        exact e_iret d_X3_value_27 rfl (rfl) (⟨_, rfl, by rw [valN, fstK, rng_some (P := (fun i => decide (kd i = 16))) c (by simp [hk2]) h_u], q_24⟩)
  exact hA_2 0 (by omega) () _ (fun j hj => absurd hj (by omega)) (rfl)
