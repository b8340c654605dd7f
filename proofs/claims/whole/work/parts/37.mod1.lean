/-! THE MODEL: formulas, DEALS -/
def encO (t : Nat) : Nat := if 100 ≤ t then 400 else if t < 11 then 401 else if t = 11 then 405 else if t = 12 then 406 else if t = 13 then 407 else if t = 21 then 300 else if t = 22 then 301 else if t = 23 then 60 else if t = 24 then 62 else if t = 25 then 61 else if t = 26 then 35 else if t = 27 then 43 else if t = 28 then 45 else if t = 29 then 42 else if t = 30 then 47 else if t = 31 then 402 else 0
/-- a clause's code as the model has it -/
def CLm (ord val : Nat → Int32) (s : Nat) (c : List Nat) : Prop := s + c.length < 2400 ∧ ord (s + c.length) = 408 ∧ ∀ (j v : Nat), c[j]? = some v → ord (s + j) = nI (encO v) ∧ (100 ≤ v → val (s + j) = nI (v - 100)) ∧ (v < 11 → val (s + j) = nI v)
def SRJ (f : Nat → Int64) : List Int → Prop
  | [] => True
  | v :: S => f S.length = Int64.ofInt v ∧ SRJ f S
theorem SRJ.up {f : Nat → Int64} {k : Nat} {x : Int64} : ∀ {S : List Int}, SRJ f S → S.length ≤ k → SRJ (va_up f k x) S
  | [], _, _ => trivial
  | v :: S, h, hk => ⟨by rw [va_up_ne _ _ (by simp at hk; omega)]; exact h.1, SRJ.up h.2 (by simp at hk; omega)⟩
theorem SRJ.push {f : Nat → Int64} {S : List Int} {v : Int} {x : Int64} (h : SRJ f S) (hx : x = Int64.ofInt v) : SRJ (va_up f S.length x) (v :: S) := ⟨by rw [va_up_self]; exact hx, h.up (Nat.le_refl _)⟩
theorem nI64 {n : Nat} (h : n ≤ 1000000) : (nI n).toInt64 = Int64.ofInt (n : Int) := i64_of32 (z := (n : Int)) (by omega) (by omega)
theorem encO_num {t : Nat} (h : 100 ≤ t) : encO t = 400 := by simp [encO, h]
theorem encO_nam {t : Nat} (h : t < 11) : encO t = 401 := by simp [encO, h, show ¬ 100 ≤ t by omega]
theorem encO_op {t : Nat} (h1 : ¬ 100 ≤ t) (h2 : ¬ t < 11) : ¬ encO t = 400 ∧ ¬ encO t = 401 ∧ encO t < 408 :=
  (show ∀ t, t < 100 → 11 ≤ t → ¬ encO t = 400 ∧ ¬ encO t = 401 ∧ encO t < 408 by decide +kernel) t (by omega) (by omega)
theorem encO_b {t : Nat} (h : t = 12 ∨ t = 13 ∨ t = 21 ∨ t = 22 ∨ t = 23 ∨ t = 24 ∨ t = 25 ∨ t = 26 ∨ t = 27 ∨ t = 28 ∨ t = 29 ∨ t = 30) : ¬ encO t = 402 ∧ ¬ encO t = 405 ∧ encO t < 408 := by
  rcases h with rfl | rfl | rfl | rfl | rfl | rfl | rfl | rfl | rfl | rfl | rfl | rfl <;> decide
/-- TEXT number tp as the model has it -/
def TxM (h : AH) (tp nc : Nat) (kd : Nat → Nat) (cd : Nat → List Nat) (many near : Int32) : Prop := tp < 6 ∧ nc ≤ 10 ∧ ∃ cl cw cn ca ord val : Nat → Int32, Hs h 70 (aI 6 cl) ∧ Hs h 71 (aI 60 cw) ∧ Hs h 72 (aI 60 cn) ∧ Hs h 73 (aI 60 ca) ∧ Hs h 74 (aI 2400 ord) ∧ Hs h 75 (aI 2400 val) ∧ cl tp = nI nc ∧
  (∀ i, i < nc → 14 ≤ kd i ∧ kd i ≤ 20 ∧ cw (10 * tp + i) = nI (kd i - 14) ∧ (kd i = 14 → cn (10 * tp + i) = many) ∧ (kd i = 15 → cn (10 * tp + i) = near) ∧ (16 ≤ kd i → ∃ s, ca (10 * tp + i) = nI s ∧ CLm ord val s (cd i))) ∧ (hasK nc kd 14 = false → many = -1) ∧ (hasK nc kd 15 = false → near = -1)
theorem TxM.fr {S : List Nat} {h h' : AH} {tp nc : Nat} {kd : Nat → Nat} {cd : Nat → List Nat} {many near : Int32} (T : TxM h tp nc kd cd many near) (F : Fr S h h') (hS : 70 ∉ S ∧ 71 ∉ S ∧ 72 ∉ S ∧ 73 ∉ S ∧ 74 ∉ S ∧ 75 ∉ S) : TxM h' tp nc kd cd many near := by
  obtain ⟨h0, h9, a, b, c, d, e, f, h1, h2, h3, h4, h5, h6, h7⟩ := T
  exact ⟨h0, h9, a, b, c, d, e, f, F.hs h1 hS.1, F.hs h2 hS.2.1, F.hs h3 hS.2.2.1, F.hs h4 hS.2.2.2.1, F.hs h5 hS.2.2.2.2.1, F.hs h6 hS.2.2.2.2.2, h7⟩
theorem bnd_64 {x : Int} (h : -1000000000000000 ≤ x ∧ x ≤ 1000000000000000) : (if Int64.ofInt 1000000 < Int64.ofInt x then Int64.ofInt 1000000 else if Int64.ofInt x < Int64.ofInt (-1000000) then Int64.ofInt (-1000000) else Int64.ofInt x) = Int64.ofInt (bnd x) := by
  unfold bnd
  by_cases h1 : 1000000 < x
  · rw [if_pos ((i64_lt (by omega) h).mpr h1), if_pos h1]
  · rw [if_neg (fun z => h1 ((i64_lt (by omega) h).mp z)), if_neg h1]
    by_cases h2 : x < -1000000
    · rw [if_pos ((i64_lt h (by omega)).mpr h2), if_pos h2]
    · rw [if_neg (fun z => h2 ((i64_lt h (by omega)).mp z)), if_neg h2]
theorem isS_evV {nm nm' : Nat → Int} {c : List Nat} (h : ∀ t, t ∈ c → t < 11 → nm t = nm' t) : evV nm c = evV nm' c := by
  have : ∀ (c : List Nat) (S : List Int), (∀ t, t ∈ c → t < 11 → nm t = nm' t) → evS nm c S = evS nm' c S := by
    intro c
    induction c with
    | nil => intro S _; rfl
    | cons t c ih =>
      intro S h
      have e : ev1 nm t S = ev1 nm' t S := by
        by_cases ht : t < 11
        · rw [ev1_nam ht, ev1_nam ht, h t List.mem_cons_self ht]
        · by_cases h1 : 100 ≤ t
          · rw [ev1_num h1, ev1_num h1]
          · match S with
            | [] => simp [ev1, h1, ht]
            | [a] => simp [ev1, h1, ht]
            | a :: b :: r => simp [ev1, h1, ht]
      rw [evS, evS, e]
      exact ih _ (fun u hu => h u (List.mem_cons_of_mem _ hu))
  rw [evV, evV, this c [] h]

theorem s_X11_bound {h : AH} {x : Int} (hx : -1000000000000000 ≤ x ∧ x ≤ 1000000000000000) : Sp M_X11_bound (0, 0) h [.long (Int64.ofInt x)] (pJ (Int64.ofInt (bnd x)) h) := by
  refine ⟨Nat.le_of_ble_eq_true rfl, ?_⟩
  show E _ _ _ 0 h [some (.long (Int64.ofInt x)), none] []
  refine e_lloadn d_X11_bound_0 rfl ?_
  refine e_ldc2 d_X11_bound_1 v_X11_317 ?_
  refine e_lcmp_le d_X11_bound_4 d_X11_bound_5 (fun c4 => ?_) (fun c4 => ?_)
  · refine e_lloadn d_X11_bound_14 rfl ?_
    refine e_ldc2 d_X11_bound_15 v_X11_319 ?_
    refine e_lcmp_ge d_X11_bound_18 d_X11_bound_19 (fun c18 => ?_) (fun c18 => ?_)
    · refine e_lloadn d_X11_bound_28 rfl ?_
      exact e_lret d_X11_bound_29 rfl (⟨by rw [← bnd_64 hx]; first | (rw [if_pos (by first | exact c4 | exact Int64.not_le.mp c4 | exact Decidable.of_not_not c4)]; rfl) | (rw [if_neg (by first | exact c4 | exact Int64.not_lt.mpr c4 | exact fun z => absurd z (Int64.not_lt.mpr c4)), if_pos (by first | exact c18 | exact Int64.not_le.mp c18 | exact Decidable.of_not_not c18)]; rfl) | (rw [if_neg (by first | exact c4 | exact Int64.not_lt.mpr c4 | exact fun z => absurd z (Int64.not_lt.mpr c4)), if_neg (by first | exact c18 | exact Int64.not_lt.mpr c18 | exact fun z => absurd z (Int64.not_lt.mpr c18))]), rfl⟩)
    · refine e_ldc2 d_X11_bound_22 v_X11_319 ?_
      refine e_gt d_X11_bound_25 ?_
      exact e_lret d_X11_bound_29 rfl (⟨by rw [← bnd_64 hx]; first | (rw [if_pos (by first | exact c4 | exact Int64.not_le.mp c4 | exact Decidable.of_not_not c4)]; rfl) | (rw [if_neg (by first | exact c4 | exact Int64.not_lt.mpr c4 | exact fun z => absurd z (Int64.not_lt.mpr c4)), if_pos (by first | exact c18 | exact Int64.not_le.mp c18 | exact Decidable.of_not_not c18)]; rfl) | (rw [if_neg (by first | exact c4 | exact Int64.not_lt.mpr c4 | exact fun z => absurd z (Int64.not_lt.mpr c4)), if_neg (by first | exact c18 | exact Int64.not_lt.mpr c18 | exact fun z => absurd z (Int64.not_lt.mpr c18))]), rfl⟩)
  · refine e_ldc2 d_X11_bound_8 v_X11_317 ?_
    refine e_gt d_X11_bound_11 ?_
    exact e_lret d_X11_bound_29 rfl (⟨by rw [← bnd_64 hx]; first | (rw [if_pos (by first | exact c4 | exact Int64.not_le.mp c4 | exact Decidable.of_not_not c4)]; rfl) | (rw [if_neg (by first | exact c4 | exact Int64.not_lt.mpr c4 | exact fun z => absurd z (Int64.not_lt.mpr c4)), if_pos (by first | exact c18 | exact Int64.not_le.mp c18 | exact Decidable.of_not_not c18)]; rfl) | (rw [if_neg (by first | exact c4 | exact Int64.not_lt.mpr c4 | exact fun z => absurd z (Int64.not_lt.mpr c4)), if_neg (by first | exact c18 | exact Int64.not_lt.mpr c18 | exact fun z => absurd z (Int64.not_lt.mpr c18))]), rfl⟩)

theorem s_X11_worked {h : AH} {o : Nat} {a b : Int} (ho : o = 12 ∨ o = 13 ∨ o = 21 ∨ o = 22 ∨ o = 23 ∨ o = 24 ∨ o = 25 ∨ o = 26 ∨ o = 27 ∨ o = 28 ∨ o = 29 ∨ o = 30) (ha : -1000000 ≤ a ∧ a ≤ 1000000) (hb : -1000000 ≤ b ∧ b ≤ 1000000) (h01 : o = 12 ∨ o = 13 → (a = 0 ∨ a = 1) ∧ (b = 0 ∨ b = 1)) : Sp M_X11_worked (0, 0) h [.int (nI (encO o)), .long (Int64.ofInt a), .long (Int64.ofInt b)] (pJ (Int64.ofInt (bnd (jr o a b))) h) := by
  refine ⟨Nat.le_of_ble_eq_true rfl, ?_⟩
  show E _ _ _ 0 h [some (.int (nI (encO o))), some (.long (Int64.ofInt a)), none, some (.long (Int64.ofInt b)), none] []
  have ha' : -1000000000000000 ≤ a ∧ a ≤ 1000000000000000 := by omega
  have hb' : -1000000000000000 ≤ b ∧ b ≤ 1000000000000000 := by omega
  have hjin := jr_in (o := o) ha hb
  refine e_iloadn d_X11_worked_0 rfl ?_
  rcases ho with rfl | rfl | rfl | rfl | rfl | rfl | rfl | rfl | rfl | rfl | rfl | rfl
  · refine e_look d_X11_worked_1 206 207 (by decide) (by decide) (by decide) ?_
    refine e_lloadn d_X11_worked_207 rfl ?_
    refine e_lloadn d_X11_worked_208 rfl ?_
    refine e_lmul d_X11_worked_209 ?_
    exact e_lret d_X11_worked_210 rfl (⟨congrArg (fun z => some (Value.long z)) (by rw [← Int64.ofInt_mul, bnd_id (by rcases (h01 (Or.inl rfl)).1 with rfl | rfl <;> rcases (h01 (Or.inl rfl)).2 with rfl | rfl <;> decide) (by rcases (h01 (Or.inl rfl)).1 with rfl | rfl <;> rcases (h01 (Or.inl rfl)).2 with rfl | rfl <;> decide)]; rfl), rfl⟩)
  · refine e_look d_X11_worked_1 210 211 (by decide) (by decide) (by decide) ?_
    refine e_lloadn d_X11_worked_211 rfl ?_
    refine e_lloadn d_X11_worked_212 rfl ?_
    refine e_ladd d_X11_worked_213 ?_
    rw [← Int64.ofInt_add]
    refine e_lconst (v := 0) d_X11_worked_214 (by decide) ?_
    refine e_lcmp_le d_X11_worked_215 d_X11_worked_216 (fun c_215 => ?_) (fun c_215 => ?_)
    · have hj : jr 13 a b = 0 := by
        have c := c_215
        rw [show (0 : Int64) = Int64.ofInt 0 from rfl, i64_le (by omega) (by omega)] at c
        simp [jr]; omega
      refine e_lconst (v := 0) d_X11_worked_223 (by decide) ?_
      exact e_lret d_X11_worked_224 rfl (⟨congrArg (fun z => some (Value.long z)) (by rw [hj]; rfl), rfl⟩)
    · have hj : jr 13 a b = 1 := by
        have c := c_215
        rw [show (0 : Int64) = Int64.ofInt 0 from rfl, i64_le (by omega) (by omega)] at c
        simp [jr]; omega
      refine e_lconst (v := 1) d_X11_worked_219 (by decide) ?_
      refine e_gt d_X11_worked_220 ?_
      exact e_lret d_X11_worked_224 rfl (⟨congrArg (fun z => some (Value.long z)) (by rw [hj]; rfl), rfl⟩)
  · refine e_look d_X11_worked_1 182 183 (by decide) (by decide) (by decide) ?_
    refine e_lloadn d_X11_worked_183 rfl ?_
    refine e_lloadn d_X11_worked_184 rfl ?_
    refine e_lcmp_gt d_X11_worked_185 d_X11_worked_186 (fun c_185 => ?_) (fun c_185 => ?_)
    · have hj : jr 21 a b = 0 := by
        have c := c_185
        simp only [gt_iff_lt, ge_iff_le, i64_lt ha' hb', i64_lt hb' ha', i64_le ha' hb', i64_le hb' ha', i64_eq ha' hb', Int.not_lt, Int.not_le, ne_eq] at c
        simp [jr]; omega
      refine e_lconst (v := 0) d_X11_worked_193 (by decide) ?_
      exact e_lret d_X11_worked_194 rfl (⟨congrArg (fun z => some (Value.long z)) (by rw [hj]; rfl), rfl⟩)
    · have hj : jr 21 a b = 1 := by
        have c := c_185
        simp only [gt_iff_lt, ge_iff_le, i64_lt ha' hb', i64_lt hb' ha', i64_le ha' hb', i64_le hb' ha', i64_eq ha' hb', Int.not_lt, Int.not_le, ne_eq] at c
        simp [jr]; omega
      refine e_lconst (v := 1) d_X11_worked_189 (by decide) ?_
      refine e_gt d_X11_worked_190 ?_
      exact e_lret d_X11_worked_194 rfl (⟨congrArg (fun z => some (Value.long z)) (by rw [hj]; rfl), rfl⟩)
  · refine e_look d_X11_worked_1 194 195 (by decide) (by decide) (by decide) ?_
    refine e_lloadn d_X11_worked_195 rfl ?_
    refine e_lloadn d_X11_worked_196 rfl ?_
    refine e_lcmp_lt d_X11_worked_197 d_X11_worked_198 (fun c_197 => ?_) (fun c_197 => ?_)
    · have hj : jr 22 a b = 0 := by
        have c := c_197
        simp only [gt_iff_lt, ge_iff_le, i64_lt ha' hb', i64_lt hb' ha', i64_le ha' hb', i64_le hb' ha', i64_eq ha' hb', Int.not_lt, Int.not_le, ne_eq] at c
        simp [jr]; omega
      refine e_lconst (v := 0) d_X11_worked_205 (by decide) ?_
      exact e_lret d_X11_worked_206 rfl (⟨congrArg (fun z => some (Value.long z)) (by rw [hj]; rfl), rfl⟩)
    · have hj : jr 22 a b = 1 := by
        have c := c_197
        simp only [gt_iff_lt, ge_iff_le, i64_lt ha' hb', i64_lt hb' ha', i64_le ha' hb', i64_le hb' ha', i64_eq ha' hb', Int.not_lt, Int.not_le, ne_eq] at c
        simp [jr]; omega
      refine e_lconst (v := 1) d_X11_worked_201 (by decide) ?_
      refine e_gt d_X11_worked_202 ?_
      exact e_lret d_X11_worked_206 rfl (⟨congrArg (fun z => some (Value.long z)) (by rw [hj]; rfl), rfl⟩)
  · refine e_look d_X11_worked_1 134 135 (by decide) (by decide) (by decide) ?_
    refine e_lloadn d_X11_worked_135 rfl ?_
    refine e_lloadn d_X11_worked_136 rfl ?_
    refine e_lcmp_ge d_X11_worked_137 d_X11_worked_138 (fun c_137 => ?_) (fun c_137 => ?_)
    · have hj : jr 23 a b = 0 := by
        have c := c_137
        simp only [gt_iff_lt, ge_iff_le, i64_lt ha' hb', i64_lt hb' ha', i64_le ha' hb', i64_le hb' ha', i64_eq ha' hb', Int.not_lt, Int.not_le, ne_eq] at c
        simp [jr]; omega
      refine e_lconst (v := 0) d_X11_worked_145 (by decide) ?_
      exact e_lret d_X11_worked_146 rfl (⟨congrArg (fun z => some (Value.long z)) (by rw [hj]; rfl), rfl⟩)
    · have hj : jr 23 a b = 1 := by
        have c := c_137
        simp only [gt_iff_lt, ge_iff_le, i64_lt ha' hb', i64_lt hb' ha', i64_le ha' hb', i64_le hb' ha', i64_eq ha' hb', Int.not_lt, Int.not_le, ne_eq] at c
        simp [jr]; omega
      refine e_lconst (v := 1) d_X11_worked_141 (by decide) ?_
      refine e_gt d_X11_worked_142 ?_
      exact e_lret d_X11_worked_146 rfl (⟨congrArg (fun z => some (Value.long z)) (by rw [hj]; rfl), rfl⟩)
  · refine e_look d_X11_worked_1 146 147 (by decide) (by decide) (by decide) ?_
    refine e_lloadn d_X11_worked_147 rfl ?_
    refine e_lloadn d_X11_worked_148 rfl ?_
    refine e_lcmp_le d_X11_worked_149 d_X11_worked_150 (fun c_149 => ?_) (fun c_149 => ?_)
    · have hj : jr 24 a b = 0 := by
        have c := c_149
        simp only [gt_iff_lt, ge_iff_le, i64_lt ha' hb', i64_lt hb' ha', i64_le ha' hb', i64_le hb' ha', i64_eq ha' hb', Int.not_lt, Int.not_le, ne_eq] at c
        simp [jr]; omega
      refine e_lconst (v := 0) d_X11_worked_157 (by decide) ?_
      exact e_lret d_X11_worked_158 rfl (⟨congrArg (fun z => some (Value.long z)) (by rw [hj]; rfl), rfl⟩)
    · have hj : jr 24 a b = 1 := by
        have c := c_149
        simp only [gt_iff_lt, ge_iff_le, i64_lt ha' hb', i64_lt hb' ha', i64_le ha' hb', i64_le hb' ha', i64_eq ha' hb', Int.not_lt, Int.not_le, ne_eq] at c
        simp [jr]; omega
      refine e_lconst (v := 1) d_X11_worked_153 (by decide) ?_
      refine e_gt d_X11_worked_154 ?_
      exact e_lret d_X11_worked_158 rfl (⟨congrArg (fun z => some (Value.long z)) (by rw [hj]; rfl), rfl⟩)
  · refine e_look d_X11_worked_1 158 159 (by decide) (by decide) (by decide) ?_
    refine e_lloadn d_X11_worked_159 rfl ?_
    refine e_lloadn d_X11_worked_160 rfl ?_
    refine e_lcmp_ne d_X11_worked_161 d_X11_worked_162 (fun c_161 => ?_) (fun c_161 => ?_)
    · have hj : jr 25 a b = 0 := by
        have c := c_161
        simp only [gt_iff_lt, ge_iff_le, i64_lt ha' hb', i64_lt hb' ha', i64_le ha' hb', i64_le hb' ha', i64_eq ha' hb', Int.not_lt, Int.not_le, ne_eq] at c
        simp [jr]; omega
      refine e_lconst (v := 0) d_X11_worked_169 (by decide) ?_
      exact e_lret d_X11_worked_170 rfl (⟨congrArg (fun z => some (Value.long z)) (by rw [hj]; rfl), rfl⟩)
    · have hj : jr 25 a b = 1 := by
        have c := c_161
        simp only [gt_iff_lt, ge_iff_le, i64_lt ha' hb', i64_lt hb' ha', i64_le ha' hb', i64_le hb' ha', i64_eq ha' hb', Int.not_lt, Int.not_le, ne_eq] at c
        simp [jr]; omega
      refine e_lconst (v := 1) d_X11_worked_165 (by decide) ?_
      refine e_gt d_X11_worked_166 ?_
      exact e_lret d_X11_worked_170 rfl (⟨congrArg (fun z => some (Value.long z)) (by rw [hj]; rfl), rfl⟩)
  · refine e_look d_X11_worked_1 170 171 (by decide) (by decide) (by decide) ?_
    refine e_lloadn d_X11_worked_171 rfl ?_
    refine e_lloadn d_X11_worked_172 rfl ?_
    refine e_lcmp_eq d_X11_worked_173 d_X11_worked_174 (fun c_173 => ?_) (fun c_173 => ?_)
    · have hj : jr 26 a b = 0 := by
        have c := c_173
        simp only [gt_iff_lt, ge_iff_le, i64_lt ha' hb', i64_lt hb' ha', i64_le ha' hb', i64_le hb' ha', i64_eq ha' hb', Int.not_lt, Int.not_le, ne_eq] at c
        simp [jr]; omega
      refine e_lconst (v := 0) d_X11_worked_181 (by decide) ?_
      exact e_lret d_X11_worked_182 rfl (⟨congrArg (fun z => some (Value.long z)) (by rw [hj]; rfl), rfl⟩)
    · have hj : jr 26 a b = 1 := by
        have c := c_173
        simp only [gt_iff_lt, ge_iff_le, i64_lt ha' hb', i64_lt hb' ha', i64_le ha' hb', i64_le hb' ha', i64_eq ha' hb', Int.not_lt, Int.not_le, ne_eq] at c
        simp [jr]; omega
      refine e_lconst (v := 1) d_X11_worked_177 (by decide) ?_
      refine e_gt d_X11_worked_178 ?_
      exact e_lret d_X11_worked_182 rfl (⟨congrArg (fun z => some (Value.long z)) (by rw [hj]; rfl), rfl⟩)
  · refine e_look d_X11_worked_1 99 100 (by decide) (by decide) (by decide) ?_
    refine e_lloadn d_X11_worked_100 rfl ?_
    refine e_lloadn d_X11_worked_101 rfl ?_
    refine e_ladd d_X11_worked_102 ?_
    rw [← Int64.ofInt_add]
    refine e_callSJ d_X11_worked_103 l_X11_worked_321 (s_X11_bound (x := jr 27 a b) hjin) rfl rfl (Nat.le_of_ble_eq_true rfl) ?_
    exact e_lret d_X11_worked_106 rfl (⟨rfl, rfl⟩)
  · refine e_look d_X11_worked_1 106 107 (by decide) (by decide) (by decide) ?_
    refine e_lloadn d_X11_worked_107 rfl ?_
    refine e_lloadn d_X11_worked_108 rfl ?_
    refine e_lsub d_X11_worked_109 ?_
    rw [← Int64.ofInt_sub]
    refine e_callSJ d_X11_worked_110 l_X11_worked_321 (s_X11_bound (x := jr 28 a b) hjin) rfl rfl (Nat.le_of_ble_eq_true rfl) ?_
    exact e_lret d_X11_worked_113 rfl (⟨rfl, rfl⟩)
  · refine e_look d_X11_worked_1 113 114 (by decide) (by decide) (by decide) ?_
    refine e_lloadn d_X11_worked_114 rfl ?_
    refine e_lloadn d_X11_worked_115 rfl ?_
    refine e_lmul d_X11_worked_116 ?_
    rw [← Int64.ofInt_mul]
    refine e_callSJ d_X11_worked_117 l_X11_worked_321 (s_X11_bound (x := jr 29 a b) hjin) rfl rfl (Nat.le_of_ble_eq_true rfl) ?_
    exact e_lret d_X11_worked_120 rfl (⟨rfl, rfl⟩)
  · refine e_look d_X11_worked_1 120 121 (by decide) (by decide) (by decide) ?_
    refine e_lloadn d_X11_worked_121 rfl ?_
    refine e_lconst (v := 0) d_X11_worked_122 (by decide) ?_
    refine e_lcmp_ne d_X11_worked_123 d_X11_worked_124 (fun c_123 => ?_) (fun c_123 => ?_)
    · have hb0 : b ≠ 0 := fun z => c_123 (by rw [z]; rfl)
      have htd := Int.natAbs_tdiv_le_natAbs a b
      have hj : Int64.ofInt a / Int64.ofInt b = Int64.ofInt (bnd (jr 30 a b)) := by
        rw [i64_div ha' hb', show jr 30 a b = a.tdiv b by simp [jr, hb0], bnd_id (by omega) (by omega)]
      refine e_lloadn d_X11_worked_131 rfl ?_
      refine e_lloadn d_X11_worked_132 rfl ?_
      refine e_ldiv d_X11_worked_133 (c_123) ?_
      exact e_lret d_X11_worked_134 rfl (⟨congrArg (fun z => some (Value.long z)) hj, rfl⟩)
    · have hb0 : b = 0 := (i64_eq (b := 0) hb' (by omega)).mp c_123
      have hj : (0 : Int64) = Int64.ofInt (bnd (jr 30 a b)) := by rw [show jr 30 a b = 0 by simp [jr, hb0]]; rfl
      refine e_lconst (v := 0) d_X11_worked_127 (by decide) ?_
      refine e_gt d_X11_worked_128 ?_
      exact e_lret d_X11_worked_134 rfl (⟨congrArg (fun z => some (Value.long z)) hj, rfl⟩)

theorem enc402 {t : Nat} (h1 : ¬ 100 ≤ t) (h2 : ¬ t < 11) (h : encO t = 402) : t = 31 :=
  (show ∀ t, t < 100 → 11 ≤ t → encO t = 402 → t = 31 by decide +kernel) t (by omega) (by omega) h
theorem s_X11_tells {h : AH} {s : Nat} {c : List Nat} {τ : Bool} {nms : Nat → Int32} {nm : Nat → Int} {ord val : Nat → Int32} {pi0 : Nat → Int64} {mtp mfl mfa mln mat mtk mso mto mwr mwp mop mfs mws mst mnc mnk mnr mdn : Int32} {mup mlo mgu mgl : Int64} (H_md : Hs h 66 (oMd mtp mfl mfa mup mlo mln mat mtk mso mto mwr mwp mop mfs mws mst mnc mnk mnr mdn mgu mgl)) (H_mor : Hs h 74 (aI 2400 ord)) (H_mva : Hs h 75 (aI 2400 val)) (H_mnm : Hs h 85 (aI 11 nms)) (H_mpi : Hs h 86 (aJ 200 pi0)) (hcl : CLm ord val s c) (hnm : NMc nms nm c) (hty : tyS c [] = some [τ]) : Sp M_X11_tells (0, 0) h [.ref 66, .int (nI s)] (rJ (fun x h' => x = Int64.ofInt (evV nm c) ∧ (∃ pi : Nat → Int64, Hs h' 86 (aJ 200 pi)) ∧ Fr [86] h h')) := by
  refine ⟨Nat.le_of_ble_eq_true rfl, ?_⟩
  show E _ _ _ 0 h [some (.ref 66), some (.int (nI s)), none, none, none] []
  obtain ⟨hcl1, hcl2, hco⟩ := hcl
  refine e_iconst (v := 0) d_X11_tells_0 (by decide) ?_
  refine e_istoren d_X11_tells_1 (by decide) rfl ?_
  refine e_iloadn d_X11_tells_2 rfl ?_
  refine e_istoren d_X11_tells_3 (by decide) rfl ?_
  have hA_4 : ∀ i, i ≤ c.length → ∀ (k : AH) (F : Unit) (S : List Int) (T : List Bool) (ok : Unit) (len : Unit) (ty : Unit) (ev : Unit) (sr : Unit) (x : Int32) (y : Int32), (Fr [86] h k) → (OKS T S) → (T.length ≤ 24) → (tyS (c.drop i) T = some [τ]) → (evS nm (c.drop i) S = evS nm c []) → (∃ pi : Nat → Int64, Hs k 86 (aJ 200 pi) ∧ SRJ pi S) → (x = nI S.length) → (y = nI (s + i)) → E M_X11_tells (0, 0) (rJ (fun x h' => x = Int64.ofInt (evV nm c) ∧ (∃ pi : Nat → Int64, Hs h' 86 (aJ 200 pi)) ∧ Fr [86] h h')) 4 (k) [some (.ref 66), some (.int (nI s)), some (.int x), some (.int y), none] [] := by
    refine loop_ind (n := c.length) ?_
    intro i hi_i ih_4 k F S T ok len ty ev sr x y h_F h_ok h_len h_ty h_ev h_sr h_x h_y
    subst h_x
    subst h_y
    have hlen := OKS_len h_ok
    have H_md := h_F.hs H_md (by decide)
    have H_mor := h_F.hs H_mor (by decide)
    have H_mva := h_F.hs H_mva (by decide)
    have H_mnm := h_F.hs H_mnm (by decide)
    obtain ⟨pi, H_mpi, h_sr⟩ := h_sr
    refine e_aloadn d_X11_tells_4 rfl ?_
    refine e_get d_X11_tells_5 f_X11_39 H_md rfl ?_
    refine e_iloadn d_X11_tells_8 rfl ?_
    refine e_ialdN (k := s + i) d_X11_tells_9 H_mor rfl (by omega) (by omega) ?_
    by_cases hend : i = c.length
    · refine e_sipush (v := 408) d_X11_tells_10 (by decide) ?_
      rw [hend, hcl2]
      subst hend
      rw [List.drop_length] at h_ty h_ev
      simp only [tyS, Option.some.injEq] at h_ty
      subst h_ty
      obtain ⟨v, S1, rfl, hv1, hS0⟩ := OKS_1 h_ok
      obtain rfl := OKS_0 hS0
      refine e_icmp_eq d_X11_tells_13 (fun _ => ?_) (fun z => by first | exact absurd ((rfl : (408 : Int32) = 408)) z | exact absurd z ((rfl : (408 : Int32) = 408)))
      refine e_aloadn d_X11_tells_175 rfl ?_
      refine e_get d_X11_tells_176 f_X11_75 H_md rfl ?_
      refine e_iconst (v := 0) d_X11_tells_179 (by decide) ?_
      refine e_laldN (k := 0) d_X11_tells_180 H_mpi rfl (by omega) (by omega) ?_
      exact e_lret d_X11_tells_181 rfl (⟨_, rfl, by rw [evV, ← h_ev]; exact h_sr.1, ⟨_, H_mpi⟩, h_F⟩)
    · refine e_sipush (v := 408) d_X11_tells_10 (by decide) ?_
      have ci : i < c.length := by omega
      obtain ⟨t, htc⟩ : ∃ t, c[i]? = some t := ⟨_, List.getElem?_eq_getElem ci⟩
      rw [drop_at htc] at h_ty h_ev
      obtain ⟨T1, hT1, hT2⟩ := tyS_cons h_ty
      obtain ⟨hv, hv24⟩ := ty1_v hT1
      have htm : t ∈ c := List.mem_of_getElem? htc
      have h_ok0 := h_ok
      obtain ⟨ho1, ho2, ho3⟩ := hco i t htc
      have hen : encO t < 408 := by
        by_cases h1 : 100 ≤ t
        · rw [encO_num h1]; decide
        · by_cases h2 : t < 11
          · rw [encO_nam h2]; decide
          · exact (encO_op h1 h2).2.2
      rw [ho1]
      refine e_icmp_eq d_X11_tells_13 (fun z => by first | exact absurd (fun z => absurd ((nI_eq (b := 408) (by omega) (by decide)).mp z) (by omega)) z | exact absurd z (fun z => absurd ((nI_eq (b := 408) (by omega) (by decide)).mp z) (by omega))) (fun _ => ?_)
      refine e_aloadn d_X11_tells_16 rfl ?_
      refine e_get d_X11_tells_17 f_X11_39 H_md rfl ?_
      refine e_iloadn d_X11_tells_20 rfl ?_
      refine e_ialdN (k := s + i) d_X11_tells_21 H_mor rfl (by omega) (by omega) ?_
      rw [ho1]
      refine e_istore d_X11_tells_22 (by decide) rfl ?_
      by_cases h100 : 100 ≤ t
      · refine e_iload d_X11_tells_24 rfl ?_
        refine e_sipush (v := 400) d_X11_tells_26 (by decide) ?_
        have hl24 := hv24 (by omega)
        have hS1 := ev1_num (nm := nm) (S := S) h100
        have e400 := encO_num h100
        refine e_icmp_eq d_X11_tells_29 (fun _ => ?_) (fun z => by first | exact absurd ((by rw [e400]; rfl)) z | exact absurd z ((by rw [e400]; rfl)))
        refine e_aloadn d_X11_tells_40 rfl ?_
        refine e_get d_X11_tells_41 f_X11_75 H_md rfl ?_
        refine e_iloadn d_X11_tells_44 rfl ?_
        refine e_iload d_X11_tells_45 rfl ?_
        refine e_sipush (v := 400) d_X11_tells_47 (by decide) ?_
        refine e_icmp_ne d_X11_tells_50 (fun z => by first | exact absurd (fun z => z (by rw [e400]; rfl)) z | exact absurd z (fun z => z (by rw [e400]; rfl))) (fun _ => ?_)
        refine e_aloadn d_X11_tells_53 rfl ?_
        refine e_get d_X11_tells_54 f_X11_42 H_md rfl ?_
        refine e_iloadn d_X11_tells_57 rfl ?_
        refine e_ialdN (k := s + i) d_X11_tells_58 H_mva rfl (by omega) (by omega) ?_
        rw [ho2 h100]
        refine e_i2l d_X11_tells_59 ?_
        refine e_gt d_X11_tells_60 ?_
        rw [nI64 (by omega)]
        refine e_lastN (k := S.length) d_X11_tells_75 H_mpi rfl (by omega) (by omega) ?_
        refine e_iincw (w := 1) d_X11_tells_76 rfl (by decide) (by decide) rfl ?_
        refine e_gt d_X11_tells_79 ?_
        refine e_iincw (w := 1) d_X11_tells_169 rfl (by decide) (by decide) rfl ?_
        refine e_gt d_X11_tells_172 ?_
        refine e_drop1 4 ?_
        refine ih_4 (i + 1) (by omega) (by omega) _ () (ev1 nm t S) T1 () () () () () _ _ ?_ ?_ ?_ ?_ ?_ ?_ ?_ ?_
        · exact h_F.up (by decide)
        · exact ev1_ok (fun z => (hnm t htm z).2) hT1 h_ok0
        · exact ty1_len hT1 h_len
        · exact hT2
        · exact h_ev
        · rw [hS1]
          first
          | exact ⟨_, Hs.s H_mpi, h_sr.push rfl⟩
          | exact ⟨_, Hs.s H_mpi, SRJ.push (S := S1) h_sr.2 hst⟩
        · rw [hS1]
          first
          | (rw [hl2]; exact nI_m1x _)
          | (rw [hl1]; rfl)
          | exact nI_1 _
        · exact nI_1 _
      · by_cases h11 : t < 11
        · refine e_iload d_X11_tells_24 rfl ?_
          refine e_sipush (v := 400) d_X11_tells_26 (by decide) ?_
          have hl24 := hv24 (by omega)
          have hS1 := ev1_nam (nm := nm) (S := S) h11
          have e401 := encO_nam h11
          refine e_icmp_eq d_X11_tells_29 (fun z => by first | exact absurd (by rw [e401]; decide) z | exact absurd z (by rw [e401]; decide)) (fun _ => ?_)
          refine e_iload d_X11_tells_32 rfl ?_
          refine e_sipush (v := 401) d_X11_tells_34 (by decide) ?_
          refine e_icmp_ne d_X11_tells_37 (fun z => by first | exact absurd (fun z => z (by rw [e401]; rfl)) z | exact absurd z (fun z => z (by rw [e401]; rfl))) (fun _ => ?_)
          refine e_aloadn d_X11_tells_40 rfl ?_
          refine e_get d_X11_tells_41 f_X11_75 H_md rfl ?_
          refine e_iloadn d_X11_tells_44 rfl ?_
          refine e_iload d_X11_tells_45 rfl ?_
          refine e_sipush (v := 400) d_X11_tells_47 (by decide) ?_
          refine e_icmp_ne d_X11_tells_50 (fun _ => ?_) (fun z => by first | exact absurd (by rw [e401]; decide) z | exact absurd z (by rw [e401]; decide))
          refine e_aloadn d_X11_tells_63 rfl ?_
          refine e_get d_X11_tells_64 f_X11_72 H_md rfl ?_
          refine e_aloadn d_X11_tells_67 rfl ?_
          refine e_get d_X11_tells_68 f_X11_42 H_md rfl ?_
          refine e_iloadn d_X11_tells_71 rfl ?_
          refine e_ialdN (k := s + i) d_X11_tells_72 H_mva rfl (by omega) (by omega) ?_
          rw [ho3 h11]
          refine e_ialdN (k := t) d_X11_tells_73 H_mnm rfl (by omega) (by omega) ?_
          rw [(hnm t htm h11).1]
          refine e_i2l d_X11_tells_74 ?_
          rw [i32_64 (hnm t htm h11).2.1 (hnm t htm h11).2.2]
          refine e_lastN (k := S.length) d_X11_tells_75 H_mpi rfl (by omega) (by omega) ?_
          refine e_iincw (w := 1) d_X11_tells_76 rfl (by decide) (by decide) rfl ?_
          refine e_gt d_X11_tells_79 ?_
          refine e_iincw (w := 1) d_X11_tells_169 rfl (by decide) (by decide) rfl ?_
          refine e_gt d_X11_tells_172 ?_
          refine e_drop1 4 ?_
          refine ih_4 (i + 1) (by omega) (by omega) _ () (ev1 nm t S) T1 () () () () () _ _ ?_ ?_ ?_ ?_ ?_ ?_ ?_ ?_
          · exact h_F.up (by decide)
          · exact ev1_ok (fun z => (hnm t htm z).2) hT1 h_ok0
          · exact ty1_len hT1 h_len
          · exact hT2
          · exact h_ev
          · rw [hS1]
            first
            | exact ⟨_, Hs.s H_mpi, h_sr.push rfl⟩
            | exact ⟨_, Hs.s H_mpi, SRJ.push (S := S1) h_sr.2 hst⟩
          · rw [hS1]
            first
            | (rw [hl2]; exact nI_m1x _)
            | (rw [hl1]; rfl)
            | exact nI_1 _
          · exact nI_1 _
        · refine e_iload d_X11_tells_24 rfl ?_
          refine e_sipush (v := 400) d_X11_tells_26 (by decide) ?_
          obtain ⟨e1, e2, e3⟩ := encO_op h100 h11
          refine e_icmp_eq d_X11_tells_29 (fun z => by first | exact absurd (fun z => absurd ((nI_eq (b := 400) (by omega) (by decide)).mp z) (by omega)) z | exact absurd z (fun z => absurd ((nI_eq (b := 400) (by omega) (by decide)).mp z) (by omega))) (fun _ => ?_)
          refine e_iload d_X11_tells_32 rfl ?_
          refine e_sipush (v := 401) d_X11_tells_34 (by decide) ?_
          refine e_icmp_ne d_X11_tells_37 (fun _ => ?_) (fun z => by first | exact absurd (fun z => absurd ((nI_eq (b := 401) (by omega) (by decide)).mp z) (by omega)) z | exact absurd z (fun z => absurd ((nI_eq (b := 401) (by omega) (by decide)).mp z) (by omega)))
          by_cases hM : t = 31
          · refine e_iload d_X11_tells_82 rfl ?_
            refine e_sipush (v := 402) d_X11_tells_84 (by decide) ?_
            obtain ⟨τ1, T2, hTe⟩ := ty1_u hT1 (Or.inr hM)
            rw [hTe] at h_ok
            obtain ⟨v, S1, hSe, hv1, hS0⟩ := OKS_1 h_ok
            have hl1 : S.length = S1.length + 1 := by rw [hSe]; rfl
            rw [hSe] at h_sr
            have hS1 : ev1 nm t S = (-v) :: S1 := by rw [hSe, hM]; exact ev1_neg
            have hst : -(pi S1.length) = Int64.ofInt (-v) := by rw [h_sr.1, Int64.ofInt_neg]
            refine e_icmp_ne d_X11_tells_87 (fun z => by first | exact absurd (fun z => z (by rw [hM]; rfl)) z | exact absurd z (fun z => z (by rw [hM]; rfl))) (fun _ => ?_)
            refine e_aloadn d_X11_tells_90 rfl ?_
            refine e_get d_X11_tells_91 f_X11_75 H_md rfl ?_
            refine e_iloadn d_X11_tells_94 rfl ?_
            refine e_iconst (v := 1) d_X11_tells_95 (by decide) ?_
            refine e_isub d_X11_tells_96 ?_
            refine e_aloadn d_X11_tells_97 rfl ?_
            refine e_get d_X11_tells_98 f_X11_75 H_md rfl ?_
            refine e_iloadn d_X11_tells_101 rfl ?_
            refine e_iconst (v := 1) d_X11_tells_102 (by decide) ?_
            refine e_isub d_X11_tells_103 ?_
            refine e_laldN (k := S1.length) d_X11_tells_104 H_mpi (by rw [hl1]; exact nI_m) (by omega) (by omega) ?_
            refine e_lneg d_X11_tells_105 ?_
            refine e_lastN (k := S1.length) d_X11_tells_106 H_mpi (by rw [hl1]; exact nI_m) (by omega) (by omega) ?_
            refine e_gt d_X11_tells_107 ?_
            refine e_iincw (w := 1) d_X11_tells_169 rfl (by decide) (by decide) rfl ?_
            refine e_gt d_X11_tells_172 ?_
            refine e_drop1 4 ?_
            refine ih_4 (i + 1) (by omega) (by omega) _ () (ev1 nm t S) T1 () () () () () _ _ ?_ ?_ ?_ ?_ ?_ ?_ ?_ ?_
            · exact h_F.up (by decide)
            · exact ev1_ok (fun z => (hnm t htm z).2) hT1 h_ok0
            · exact ty1_len hT1 h_len
            · exact hT2
            · exact h_ev
            · rw [hS1]
              first
              | exact ⟨_, Hs.s H_mpi, h_sr.push rfl⟩
              | exact ⟨_, Hs.s H_mpi, SRJ.push (S := S1) h_sr.2 hst⟩
            · rw [hS1]
              first
              | (rw [hl2]; exact nI_m1x _)
              | (rw [hl1]; rfl)
              | exact nI_1 _
            · exact nI_1 _
          · refine e_iload d_X11_tells_82 rfl ?_
            refine e_sipush (v := 402) d_X11_tells_84 (by decide) ?_
            refine e_icmp_ne d_X11_tells_87 (fun _ => ?_) (fun z => by first | exact absurd (fun z => hM (enc402 h100 h11 ((nI_eq (b := 402) (by omega) (by decide)).mp z))) z | exact absurd z (fun z => hM (enc402 h100 h11 ((nI_eq (b := 402) (by omega) (by decide)).mp z))))
            by_cases hN : t = 11
            · refine e_iload d_X11_tells_110 rfl ?_
              refine e_sipush (v := 405) d_X11_tells_112 (by decide) ?_
              obtain ⟨τ1, T2, hTe⟩ := ty1_u hT1 (Or.inl hN)
              rw [hTe] at h_ok
              obtain ⟨v, S1, hSe, hv1, hS0⟩ := OKS_1 h_ok
              have hl1 : S.length = S1.length + 1 := by rw [hSe]; rfl
              rw [hSe] at h_sr
              have hS1 : ev1 nm t S = (1 - v) :: S1 := by rw [hSe, hN]; exact ev1_not
              have hst : (1 : Int64) - pi S1.length = Int64.ofInt (1 - v) := by rw [h_sr.1, Int64.ofInt_sub]; rfl
              refine e_icmp_ne d_X11_tells_115 (fun z => by first | exact absurd (fun z => z (by rw [hN]; rfl)) z | exact absurd z (fun z => z (by rw [hN]; rfl))) (fun _ => ?_)
              refine e_aloadn d_X11_tells_118 rfl ?_
              refine e_get d_X11_tells_119 f_X11_75 H_md rfl ?_
              refine e_iloadn d_X11_tells_122 rfl ?_
              refine e_iconst (v := 1) d_X11_tells_123 (by decide) ?_
              refine e_isub d_X11_tells_124 ?_
              refine e_lconst (v := 1) d_X11_tells_125 (by decide) ?_
              refine e_aloadn d_X11_tells_126 rfl ?_
              refine e_get d_X11_tells_127 f_X11_75 H_md rfl ?_
              refine e_iloadn d_X11_tells_130 rfl ?_
              refine e_iconst (v := 1) d_X11_tells_131 (by decide) ?_
              refine e_isub d_X11_tells_132 ?_
              refine e_laldN (k := S1.length) d_X11_tells_133 H_mpi (by rw [hl1]; exact nI_m) (by omega) (by omega) ?_
              refine e_lsub d_X11_tells_134 ?_
              refine e_lastN (k := S1.length) d_X11_tells_135 H_mpi (by rw [hl1]; exact nI_m) (by omega) (by omega) ?_
              refine e_gt d_X11_tells_136 ?_
              refine e_iincw (w := 1) d_X11_tells_169 rfl (by decide) (by decide) rfl ?_
              refine e_gt d_X11_tells_172 ?_
              refine e_drop1 4 ?_
              refine ih_4 (i + 1) (by omega) (by omega) _ () (ev1 nm t S) T1 () () () () () _ _ ?_ ?_ ?_ ?_ ?_ ?_ ?_ ?_
              · exact h_F.up (by decide)
              · exact ev1_ok (fun z => (hnm t htm z).2) hT1 h_ok0
              · exact ty1_len hT1 h_len
              · exact hT2
              · exact h_ev
              · rw [hS1]
                first
                | exact ⟨_, Hs.s H_mpi, h_sr.push rfl⟩
                | exact ⟨_, Hs.s H_mpi, SRJ.push (S := S1) h_sr.2 hst⟩
              · rw [hS1]
                first
                | (rw [hl2]; exact nI_m1x _)
                | (rw [hl1]; rfl)
                | exact nI_1 _
              · exact nI_1 _
            · refine e_iload d_X11_tells_110 rfl ?_
              refine e_sipush (v := 405) d_X11_tells_112 (by decide) ?_
              obtain ⟨ho, τ1, τ2, T2, hTe, hab⟩ := ty1_b hT1 h100 h11 hN hM
              obtain ⟨eb1, eb2, eb3⟩ := encO_b ho
              rw [hTe] at h_ok
              obtain ⟨v, S0, hSe0, hv1, hS0⟩ := OKS_1 h_ok
              obtain ⟨w, S1, hSe1, hw1, hS9⟩ := OKS_1 hS0
              have hSe : S = v :: w :: S1 := by rw [hSe0, hSe1]
              have hl2 : S.length = S1.length + 1 + 1 := by rw [hSe]; rfl
              rw [hSe] at h_sr
              have hS1 : ev1 nm t S = bnd (jr t w v) :: S1 := by rw [hSe]; exact ev1_bin (nm := nm) (v := v) (w := w) (S := S1) h100 h11 hN hM
              have e1 : pi (S1.length + 1) = Int64.ofInt v := h_sr.1
              have e2 : pi S1.length = Int64.ofInt w := h_sr.2.1
              have hst : Int64.ofInt (bnd (jr t w v)) = Int64.ofInt (bnd (jr t w v)) := rfl
              replace h_sr : SRJ pi (w :: S1) := h_sr.2
              refine e_icmp_ne d_X11_tells_115 (fun _ => ?_) (fun z => by first | exact absurd (fun z => absurd ((nI_eq (b := 405) (by omega) (by decide)).mp z) (by omega)) z | exact absurd z (fun z => absurd ((nI_eq (b := 405) (by omega) (by decide)).mp z) (by omega)))
              refine e_iincw (w := -1) d_X11_tells_139 rfl (by decide) (by decide) rfl ?_
              refine e_aloadn d_X11_tells_142 rfl ?_
              refine e_get d_X11_tells_143 f_X11_75 H_md rfl ?_
              refine e_iloadn d_X11_tells_146 rfl ?_
              refine e_iconst (v := 1) d_X11_tells_147 (by decide) ?_
              refine e_isub d_X11_tells_148 ?_
              refine e_iload d_X11_tells_149 rfl ?_
              refine e_aloadn d_X11_tells_151 rfl ?_
              refine e_get d_X11_tells_152 f_X11_75 H_md rfl ?_
              refine e_iloadn d_X11_tells_155 rfl ?_
              refine e_iconst (v := 1) d_X11_tells_156 (by decide) ?_
              refine e_isub d_X11_tells_157 ?_
              refine e_laldN (k := S1.length) d_X11_tells_158 H_mpi (by rw [hl2]; exact nI_m2 _) (by omega) (by omega) ?_
              refine e_aloadn d_X11_tells_159 rfl ?_
              refine e_get d_X11_tells_160 f_X11_75 H_md rfl ?_
              refine e_iloadn d_X11_tells_163 rfl ?_
              refine e_laldN (k := S1.length + 1) d_X11_tells_164 H_mpi (by rw [hl2]; exact nI_m1x _) (by omega) (by omega) ?_
              rw [e1, e2]
              refine e_callSJ d_X11_tells_165 l_X11_tells_325 (s_X11_worked (o := t) (a := w) (b := v) ho hw1.2 hv1.2 (fun z => ⟨hw1.1 (hab z).2, hv1.1 (hab z).1⟩)) rfl rfl (Nat.le_of_ble_eq_true rfl) ?_
              refine e_lastN (k := S1.length) d_X11_tells_168 H_mpi (by rw [hl2]; exact nI_m2 _) (by omega) (by omega) ?_
              refine e_iincw (w := 1) d_X11_tells_169 rfl (by decide) (by decide) rfl ?_
              refine e_gt d_X11_tells_172 ?_
              refine e_drop1 4 ?_
              refine ih_4 (i + 1) (by omega) (by omega) _ () (ev1 nm t S) T1 () () () () () _ _ ?_ ?_ ?_ ?_ ?_ ?_ ?_ ?_
              · exact h_F.up (by decide)
              · exact ev1_ok (fun z => (hnm t htm z).2) hT1 h_ok0
              · exact ty1_len hT1 h_len
              · exact hT2
              · exact h_ev
              · rw [hS1]
                first
                | exact ⟨_, Hs.s H_mpi, h_sr.push rfl⟩
                | exact ⟨_, Hs.s H_mpi, SRJ.push (S := S1) h_sr.2 hst⟩
              · rw [hS1]
                first
                | (rw [hl2]; exact nI_m1x _)
                | (rw [hl1]; rfl)
                | exact nI_1 _
              · exact nI_1 _
  exact hA_4 0 (by omega) _ () [] [] () () () () () _ _ (Fr.refl _ _) (trivial) (by simp) (hty) (rfl) (⟨_, H_mpi, trivial⟩) (rfl) (rfl)
