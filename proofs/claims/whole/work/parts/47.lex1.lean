/-! THE READER: TOKENS -/
/-- the words' line, its words, how many words end ahead of a place, where the word at a place begins -/
def wList : List Nat := [115, 101, 120, 32, 119, 105, 116, 32, 104, 111, 109, 101, 32, 119, 111, 114, 107, 115, 32, 115, 101, 120, 98, 32, 119, 105, 116, 98, 32, 104, 111, 109, 101, 98, 32, 119, 111, 114, 107, 115, 98, 32, 104, 97, 100, 32, 97, 103, 101, 32, 100, 114, 97, 119, 32, 110, 111, 116, 32, 97, 110, 100, 32, 111, 114, 32, 109, 97, 110, 121, 32, 110, 101, 97, 114, 32, 118, 97, 108, 117, 101, 32, 116, 111, 103, 101, 116, 104, 101, 114, 32, 97, 112, 97, 114, 116, 32, 111, 118, 101, 114, 32, 102, 111, 117, 110, 100, 32]
def wnList : List Nat := [0, 0, 0, 0, 1, 1, 1, 1, 2, 2, 2, 2, 2, 3, 3, 3, 3, 3, 3, 4, 4, 4, 4, 4, 5, 5, 5, 5, 5, 6, 6, 6, 6, 6, 6, 7, 7, 7, 7, 7, 7, 7, 8, 8, 8, 8, 9, 9, 9, 9, 10, 10, 10, 10, 10, 11, 11, 11, 11, 12, 12, 12, 12, 13, 13, 13, 14, 14, 14, 14, 14, 15, 15, 15, 15, 15, 16, 16, 16, 16, 16, 16, 17, 17, 17, 17, 17, 17, 17, 17, 17, 18, 18, 18, 18, 18, 18, 19, 19, 19, 19, 19, 20, 20, 20, 20, 20, 20, 21]
def wfList : List Nat := [0, 0, 0, 0, 4, 4, 4, 4, 8, 8, 8, 8, 8, 13, 13, 13, 13, 13, 13, 19, 19, 19, 19, 19, 24, 24, 24, 24, 24, 29, 29, 29, 29, 29, 29, 35, 35, 35, 35, 35, 35, 35, 42, 42, 42, 42, 46, 46, 46, 46, 50, 50, 50, 50, 50, 55, 55, 55, 55, 59, 59, 59, 59, 63, 63, 63, 66, 66, 66, 66, 66, 71, 71, 71, 71, 71, 76, 76, 76, 76, 76, 76, 82, 82, 82, 82, 82, 82, 82, 82, 82, 91, 91, 91, 91, 91, 91, 97, 97, 97, 97, 97, 102, 102, 102, 102, 102, 102, 108]
def wdList : List (List Nat) := [[115, 101, 120], [119, 105, 116], [104, 111, 109, 101], [119, 111, 114, 107, 115], [115, 101, 120, 98], [119, 105, 116, 98], [104, 111, 109, 101, 98], [119, 111, 114, 107, 115, 98], [104, 97, 100], [97, 103, 101], [100, 114, 97, 119], [110, 111, 116], [97, 110, 100], [111, 114], [109, 97, 110, 121], [110, 101, 97, 114], [118, 97, 108, 117, 101], [116, 111, 103, 101, 116, 104, 101, 114], [97, 112, 97, 114, 116], [111, 118, 101, 114], [102, 111, 117, 110, 100]]
def wch (i : Nat) : Nat := wList.getD i 0
def wnw (i : Nat) : Nat := wnList.getD i 0
def wfs (i : Nat) : Nat := wfList.getD i 0
def wwd (w : Nat) : List Nat := wdList.getD w []
theorem wch_b : ∀ i, i < 108 → ((wBytes.getD i 0 &&& 255).toUInt32 % 65536).toInt32 = nI (wch i) := by decide +kernel
theorem wch_n : ∀ i, i < 108 → (nI (wch i)).toUInt32.toUInt16.toUInt32.toInt32 = nI (wch i) := by decide +kernel
theorem wch_nar {i : Nat} (h : i < 108) : narrow .char (.int (nI (wch i))) = .int (nI (wch i)) := by
  show Value.int _ = Value.int _
  rw [wch_n i h]
theorem wch_lt : ∀ i, i < 108 → wch i < 128 := by decide +kernel
theorem w_sp : ∀ i, i < 108 → wch i = 32 → wnw (i + 1) = wnw i + 1 ∧ wfs (i + 1) = i + 1 ∧ wnw i < 21 ∧ wfs i ≤ i ∧ wwd (wnw i) = (List.range (i - wfs i)).map (fun k => wch (wfs i + k)) := by decide +kernel
theorem w_ns : ∀ i, i < 108 → ¬ wch i = 32 → wnw (i + 1) = wnw i ∧ wfs (i + 1) = wfs i := by decide +kernel
theorem w_inj : ∀ v, v < 21 → ∀ w, w < 21 → wwd v = wwd w → v = w := by decide +kernel
def isL (b : Nat) : Bool := decide ((97 ≤ b ∧ b ≤ 122) ∨ (65 ≤ b ∧ b ≤ 90))
def isD (b : Nat) : Bool := decide (48 ≤ b ∧ b ≤ 57)
def isB (b : Nat) : Bool := decide (b = 32 ∨ b = 10)
/-- from a on up to e, as far as it goes -/
def Run (P : Nat → Bool) (b : Nat → Nat) (L a e : Nat) : Prop := a ≤ e ∧ e ≤ L ∧ (∀ k, a ≤ k → k < e → P (b k) = true) ∧ (e < L → P (b e) = false)
theorem Run.uq {P : Nat → Bool} {b : Nat → Nat} {L a e e' : Nat} (h : Run P b L a e) (h' : Run P b L a e') : e = e' := by
  obtain ⟨h1, h2, h3, h4⟩ := h
  obtain ⟨k1, k2, k3, k4⟩ := h'
  rcases Nat.lt_trichotomy e e' with q | q | q
  · have := h4 (by omega)
    rw [k3 e h1 q] at this; cases this
  · exact q
  · have := k4 (by omega)
    rw [h3 e' k1 q] at this; cases this
def ext (P : Nat → Bool) (b : Nat → Nat) (L : Nat) : Nat → Nat → Nat
  | 0, a => a
  | f + 1, a => if a < L ∧ P (b a) = true then ext P b L f (a + 1) else a
def run (P : Nat → Bool) (b : Nat → Nat) (L a : Nat) : Nat := ext P b L (L - a) a
theorem ext_Run {P : Nat → Bool} {b : Nat → Nat} {L : Nat} : ∀ f a, a ≤ L → L - a ≤ f → Run P b L a (ext P b L f a)
  | 0, a, h, hf => ⟨Nat.le_refl _, h, fun k h1 h2 => by simp only [ext] at h2; omega, fun h => by simp only [ext] at h; omega⟩
  | f + 1, a, h, hf => by
    simp only [ext]
    by_cases e : a < L ∧ P (b a) = true
    · rw [if_pos e]
      obtain ⟨h1, h2, h3, h4⟩ := ext_Run (P := P) (b := b) (L := L) f (a + 1) (by omega) (by omega)
      refine ⟨by omega, h2, fun k q1 q2 => ?_, h4⟩
      by_cases ek : k = a
      · rw [ek]; exact e.2
      · exact h3 k (by omega) q2
    · rw [if_neg e]
      exact ⟨Nat.le_refl _, h, fun k h1 h2 => by omega, fun hl => Bool.eq_false_iff.mpr (fun z => e ⟨hl, z⟩)⟩
theorem run_Run {P : Nat → Bool} {b : Nat → Nat} {L a : Nat} (h : a ≤ L) : Run P b L a (run P b L a) := ext_Run _ _ h (Nat.le_refl _)
theorem Run.eq {P : Nat → Bool} {b : Nat → Nat} {L a e : Nat} (h : Run P b L a e) : e = run P b L a := h.uq (run_Run (by have := h.1; have := h.2.1; omega))
theorem run_end {P : Nat → Bool} {b : Nat → Nat} {L a e : Nat} (h1 : a ≤ e) (h2 : e ≤ L) (h3 : ∀ k, a ≤ k → k < e → P (b k) = true) (h4 : e = L ∨ P (b e) = false) : e = run P b L a := Run.eq ⟨h1, h2, h3, fun hl => h4.resolve_left (by omega)⟩
/-- the letters, or digits, of a tape from a place up to another -/
def wdS (b : Nat → Nat) (s e : Nat) : List Nat := (List.range (e - s)).map (fun k => b (s + k))
def wcU (l : List Nat) (n : Nat) : Nat := ((List.range n).find? (fun w => wwd w == l)).getD 36
/-- the word's number, 36: none -/
def wc (l : List Nat) : Nat := wcU l 21
theorem wcU_T {l : List Nat} {n : Nat} (hn : n < 21) (h : wwd n = l) : wcU l (n + 1) = n := by
  unfold wcU
  rw [rng_some (P := fun w => wwd w == l) (i := n) (Nat.lt_succ_self n) (by simp [h]) (fun j hj => by
    rw [beq_eq_false_iff_ne]
    intro z
    have := w_inj j (by omega) n hn (z.trans h.symm)
    omega)]
  rfl
theorem wcU_F {l : List Nat} {n : Nat} (h : ¬ wwd n = l) : wcU l (n + 1) = wcU l n := by
  unfold wcU
  rw [List.range_succ, List.find?_append]
  have : (List.find? (fun w => wwd w == l) [n]) = none := by
    simp [h]
  rw [this, Option.or_none]
theorem wcU_lt {l : List Nat} : ∀ n, n ≤ 21 → wcU l n ≤ 36
  | 0, _ => by simp [wcU]
  | n + 1, h => by
    by_cases e : wwd n = l
    · rw [wcU_T (by omega) e]; omega
    · rw [wcU_F e]; exact wcU_lt n (by omega)
theorem wc_is {l : List Nat} {w : Nat} (hw : w < 21) (h : wwd w = l) : wc l = w := by
  unfold wc wcU
  rw [rng_some (P := fun w => wwd w == l) (i := w) hw (by simp [h]) (fun j hj => by
    rw [beq_eq_false_iff_ne]
    intro z
    have := w_inj j (by omega) w hw (z.trans h.symm)
    omega)]
  rfl
theorem wc_no {l : List Nat} (h : ∀ w, w < 21 → ¬ wwd w = l) : wc l = 36 := by
  unfold wc wcU
  rw [rng_none (fun j hj => by rw [beq_eq_false_iff_ne]; exact h j hj)]
  rfl
theorem mapR_eq {f g : Nat → Nat} : ∀ {n : Nat}, (List.range n).map f = (List.range n).map g ↔ ∀ k, k < n → f k = g k
  | n => by
    rw [List.map_inj_left]
    exact ⟨fun h k hk => h k (List.mem_range.mpr hk), fun h k hk => h k (List.mem_range.mp hk)⟩
theorem wd_is {b : Nat → Nat} {f g s e : Nat} : (List.range (g - f)).map (fun k => wch (f + k)) = wdS b s e ↔ (g - f = e - s ∧ ∀ k, k < e - s → wch (f + k) = b (s + k)) := by
  constructor
  · intro h
    have hl := congrArg List.length h
    simp only [wdS, List.length_map, List.length_range] at hl
    rw [wdS, hl] at h
    exact ⟨hl, mapR_eq.mp h⟩
  · intro h
    rw [wdS, h.1]
    exact mapR_eq.mpr h.2
/-- digits, no further than 10000 -/
def numC (b : Nat → Nat) (s : Nat) : Nat → Nat
  | 0 => 0
  | k + 1 => min (numC b s k * 10 + b (s + k) - 48) 10000
theorem numC_le {b : Nat → Nat} {s : Nat} : ∀ k, numC b s k ≤ 10000
  | 0 => by simp [numC]
  | k + 1 => Nat.min_le_right _ _
def sgn (b : Nat) : Nat := if b = 60 then 23 else if b = 62 then 24 else if b = 61 then 25 else if b = 35 then 26 else if b = 43 then 27 else if b = 45 then 28 else if b = 42 then 29 else if b = 47 then 30 else if b = 40 then 32 else if b = 41 then 33 else if b = 59 then 34 else 36
theorem sgn_lt : ∀ b, b < 256 → sgn b ≤ 36 ∧ 23 ≤ sgn b := by decide +kernel
/-- the token at a place, and the place behind it -/
def tok (b : Nat → Nat) (L s : Nat) : Nat × Nat :=
  if L ≤ s then (35, s) else if isL (b s) = true then (wc (wdS b s (run isL b L s)), run isL b L s)
  else if isD (b s) = true then (100 + numC b s (run isD b L s - s), run isD b L s)
  else if (sgn (b s) = 23 ∨ sgn (b s) = 24) ∧ s + 1 < L ∧ b (s + 1) = 61 then (sgn (b s) - 2, s + 2) else (sgn (b s), s + 1)

theorem s_J0_coder_7d493 {h : AH} : Sp M_J0_coder_7d493 (0, 0) h [.float 1] (pI 0 h) := by
  refine ⟨Nat.le_of_ble_eq_true rfl, ?_⟩
  show E _ _ _ 0 h [some (.float 1)] []
  refine e_gsCompact d_J0_coder_7d493_0 (lw_in 607 (by decide +kernel) rfl) ?_
  refine e_if_eq d_J0_coder_7d493_3 (fun z => by first | exact absurd (by decide) z | exact absurd z (by decide)) (fun _ => ?_)
  refine e_aloadSn d_J0_coder_7d493_6 rfl (by decide) ?_
  refine e_getCoder d_J0_coder_7d493_7 (lw_in 1499 (by decide +kernel) rfl) ?_
  refine e_gt d_J0_coder_7d493_10 ?_
  exact e_iret d_J0_coder_7d493_14 rfl (rfl) (⟨rfl, rfl⟩)

theorem s_J0_length_8abf5 {h : AH} : Sp M_J0_length_8abf5 (0, 0) h [.float 1] (pI 108 h) := by
  refine ⟨Nat.le_of_ble_eq_true rfl, ?_⟩
  show E _ _ _ 0 h [some (.float 1)] []
  refine e_aloadSn d_J0_length_8abf5_0 rfl (by decide) ?_
  refine e_getBytes d_J0_length_8abf5_1 (lw_in 1498 (by decide +kernel) rfl) ?_
  refine e_blen d_J0_length_8abf5_4 ?_
  refine e_aloadSn d_J0_length_8abf5_5 rfl (by decide) ?_
  refine e_callTI d_J0_length_8abf5_6 l_J0_length_8abf5_335 rfl (s_J0_coder_7d493) rfl rfl (Nat.le_of_ble_eq_true rfl) ?_
  refine e_ishr d_J0_length_8abf5_9 ?_
  exact e_iret d_J0_length_8abf5_10 rfl (rfl) (⟨rfl, rfl⟩)

theorem s_J0_isLatin1_aae02 {h : AH} : Sp M_J0_isLatin1_aae02 (0, 0) h [.float 1] (pI 1 h) := by
  refine ⟨Nat.le_of_ble_eq_true rfl, ?_⟩
  show E _ _ _ 0 h [some (.float 1)] []
  refine e_gsCompact d_J0_isLatin1_aae02_0 (lw_in 607 (by decide +kernel) rfl) ?_
  refine e_if_eq d_J0_isLatin1_aae02_3 (fun z => by first | exact absurd (by decide) z | exact absurd z (by decide)) (fun _ => ?_)
  refine e_aloadSn d_J0_isLatin1_aae02_6 rfl (by decide) ?_
  refine e_getCoder d_J0_isLatin1_aae02_7 (lw_in 1499 (by decide +kernel) rfl) ?_
  refine e_if_ne d_J0_isLatin1_aae02_10 (fun z => by first | exact absurd (fun z => z rfl) z | exact absurd z (fun z => z rfl)) (fun _ => ?_)
  refine e_iconst (v := 1) d_J0_isLatin1_aae02_13 (by decide) ?_
  refine e_gt d_J0_isLatin1_aae02_14 ?_
  exact e_iret d_J0_isLatin1_aae02_18 rfl (rfl) (⟨rfl, rfl⟩)

theorem s_J3_checkIndex_8e157 {h : AH} {i : Nat} (hi : i < 108) : Sp M_J3_checkIndex_8e157 (0, 0) h [.int (nI i), .int 108, .float 3] (pI (nI i) h) := by
  refine ⟨Nat.le_of_ble_eq_true rfl, ?_⟩
  show E _ _ _ 0 h [some (.int (nI i)), some (.int 108), some (.float 3)] []
  refine e_iloadn d_J3_checkIndex_8e157_0 rfl ?_
  refine e_if_lt d_J3_checkIndex_8e157_1 (fun z => by first | exact absurd (fun z => absurd z (Int32.not_lt.mpr ((nI_leI (a := 0) (by decide) (by omega)).mpr (Nat.zero_le _)))) z | exact absurd z (fun z => absurd z (Int32.not_lt.mpr ((nI_leI (a := 0) (by decide) (by omega)).mpr (Nat.zero_le _))))) (fun _ => ?_)
  refine e_iloadn d_J3_checkIndex_8e157_4 rfl ?_
  refine e_iloadn d_J3_checkIndex_8e157_5 rfl ?_
  refine e_icmp_lt d_J3_checkIndex_8e157_6 (fun _ => ?_) (fun z => by first | exact absurd ((nI_ltI (b := 108) (by omega) (by decide)).mpr hi) z | exact absurd z ((nI_ltI (b := 108) (by omega) (by decide)).mpr hi))
  refine e_iloadn d_J3_checkIndex_8e157_16 rfl ?_
  exact e_iret d_J3_checkIndex_8e157_17 rfl (rfl) (⟨rfl, rfl⟩)

theorem s_J0_checkIndex_df160 {h : AH} {i : Nat} (hi : i < 108) : Sp M_J0_checkIndex_df160 (0, 0) h [.int (nI i), .int 108] (pV h) := by
  refine ⟨Nat.le_of_ble_eq_true rfl, ?_⟩
  show E _ _ _ 0 h [some (.int (nI i)), some (.int 108)] []
  refine e_iloadn d_J0_checkIndex_df160_0 rfl ?_
  refine e_iloadn d_J0_checkIndex_df160_1 rfl ?_
  refine e_gsFormat d_J0_checkIndex_df160_2 (lw_in 623 (by decide +kernel) rfl) ?_
  refine e_callSI d_J0_checkIndex_df160_5 l_J0_checkIndex_df160_1059 (s_J3_checkIndex_8e157 hi) rfl rfl (Nat.le_of_ble_eq_true rfl) ?_
  refine e_pop d_J0_checkIndex_df160_8 rfl ?_
  exact e_vret d_J0_checkIndex_df160_9 rfl (⟨rfl, rfl⟩)

theorem s_J1_charAt_3b067 {h : AH} {i : Nat} (hi : i < 108) : Sp M_J1_charAt_3b067 (0, 0) h [.float 2, .int (nI i)] (pI (nI (wch i)) h) := by
  refine ⟨Nat.le_of_ble_eq_true rfl, ?_⟩
  show E _ _ _ 0 h [some (.float 2), some (.int (nI i))] []
  refine e_iloadn d_J1_charAt_3b067_0 rfl ?_
  refine e_aloadSn d_J1_charAt_3b067_1 rfl (by decide) ?_
  refine e_blen d_J1_charAt_3b067_2 ?_
  refine e_callSV d_J1_charAt_3b067_3 l_J1_charAt_3b067_9 (s_J0_checkIndex_df160 hi) rfl rfl (Nat.le_of_ble_eq_true rfl) ?_
  refine e_aloadSn d_J1_charAt_3b067_6 rfl (by decide) ?_
  refine e_iloadn d_J1_charAt_3b067_7 rfl ?_
  refine e_bld d_J1_charAt_3b067_8 (vp_in_nI hi (by decide)) ?_
  rw [nI_clamp (by omega)]
  refine e_sipush (v := 255) d_J1_charAt_3b067_9 (by decide) ?_
  refine e_iand d_J1_charAt_3b067_12 ?_
  refine e_i2c d_J1_charAt_3b067_13 ?_
  rw [wch_b i hi]
  exact e_iret d_J1_charAt_3b067_14 rfl (wch_nar hi) (⟨rfl, rfl⟩)

theorem s_J0_charAt_5068e {h : AH} {i : Nat} (hi : i < 108) : Sp M_J0_charAt_5068e (0, 0) h [.float 1, .int (nI i)] (pI (nI (wch i)) h) := by
  refine ⟨Nat.le_of_ble_eq_true rfl, ?_⟩
  show E _ _ _ 0 h [some (.float 1), some (.int (nI i))] []
  refine e_aloadSn d_J0_charAt_5068e_0 rfl (by decide) ?_
  refine e_callTI d_J0_charAt_5068e_1 l_J0_charAt_5068e_492 rfl (s_J0_isLatin1_aae02) rfl rfl (Nat.le_of_ble_eq_true rfl) ?_
  refine e_if_eq d_J0_charAt_5068e_4 (fun z => by first | exact absurd (by decide) z | exact absurd z (by decide)) (fun _ => ?_)
  refine e_aloadSn d_J0_charAt_5068e_7 rfl (by decide) ?_
  refine e_getBytes d_J0_charAt_5068e_8 (lw_in 1498 (by decide +kernel) rfl) ?_
  refine e_iloadn d_J0_charAt_5068e_11 rfl ?_
  refine e_callSI d_J0_charAt_5068e_12 l_J0_charAt_5068e_495 (s_J1_charAt_3b067 hi) rfl rfl (Nat.le_of_ble_eq_true rfl) ?_
  exact e_iret d_J0_charAt_5068e_15 rfl (wch_nar hi) (⟨rfl, rfl⟩)

theorem s_X6_isLetter {h : AH} {b : Nat} (hb : b < 256) : Sp M_X6_isLetter (0, 0) h [.int (nI b)] (pI (bI (isL b = true)) h) := by
  refine ⟨Nat.le_of_ble_eq_true rfl, ?_⟩
  show E _ _ _ 0 h [some (.int (nI b))] []
  refine e_iloadn d_X6_isLetter_0 rfl ?_
  refine e_bipush (v := 97) d_X6_isLetter_1 (by decide) ?_
  refine e_icmp_lt d_X6_isLetter_3 (fun c3 => ?_) (fun c3 => ?_)
  · have c3 := i_lt (b := 97) (by omega) (by decide) c3
    refine e_iloadn d_X6_isLetter_12 rfl ?_
    refine e_bipush (v := 65) d_X6_isLetter_13 (by decide) ?_
    refine e_icmp_lt d_X6_isLetter_15 (fun c15 => ?_) (fun c15 => ?_)
    · have c15 := i_lt (b := 65) (by omega) (by decide) c15
      refine e_iconst (v := 0) d_X6_isLetter_28 (by decide) ?_
      exact e_iret d_X6_isLetter_29 rfl (rfl) (⟨by first | (rw [bI_t (by simp only [isL, decide_eq_true_eq]; omega)]; done) | (rw [bI_f (by simp only [isL, decide_eq_true_eq]; omega)]; done), rfl⟩)
    · have c15 := i_nlt (b := 65) (by omega) (by decide) c15
      refine e_iloadn d_X6_isLetter_18 rfl ?_
      refine e_bipush (v := 90) d_X6_isLetter_19 (by decide) ?_
      refine e_icmp_gt d_X6_isLetter_21 (fun c21 => ?_) (fun c21 => ?_)
      · have c21 := i_lt (a := 90) (by decide) (by omega) c21
        refine e_iconst (v := 0) d_X6_isLetter_28 (by decide) ?_
        exact e_iret d_X6_isLetter_29 rfl (rfl) (⟨by first | (rw [bI_t (by simp only [isL, decide_eq_true_eq]; omega)]; done) | (rw [bI_f (by simp only [isL, decide_eq_true_eq]; omega)]; done), rfl⟩)
      · have c21 := i_nlt (a := 90) (by decide) (by omega) c21
        refine e_iconst (v := 1) d_X6_isLetter_24 (by decide) ?_
        refine e_gt d_X6_isLetter_25 ?_
        exact e_iret d_X6_isLetter_29 rfl (rfl) (⟨by first | (rw [bI_t (by simp only [isL, decide_eq_true_eq]; omega)]; done) | (rw [bI_f (by simp only [isL, decide_eq_true_eq]; omega)]; done), rfl⟩)
  · have c3 := i_nlt (b := 97) (by omega) (by decide) c3
    refine e_iloadn d_X6_isLetter_6 rfl ?_
    refine e_bipush (v := 122) d_X6_isLetter_7 (by decide) ?_
    refine e_icmp_le d_X6_isLetter_9 (fun c9 => ?_) (fun c9 => ?_)
    · have c9 := i_le (b := 122) (by omega) (by decide) c9
      refine e_iconst (v := 1) d_X6_isLetter_24 (by decide) ?_
      refine e_gt d_X6_isLetter_25 ?_
      exact e_iret d_X6_isLetter_29 rfl (rfl) (⟨by first | (rw [bI_t (by simp only [isL, decide_eq_true_eq]; omega)]; done) | (rw [bI_f (by simp only [isL, decide_eq_true_eq]; omega)]; done), rfl⟩)
    · have c9 := i_nle (b := 122) (by omega) (by decide) c9
      refine e_iloadn d_X6_isLetter_12 rfl ?_
      refine e_bipush (v := 65) d_X6_isLetter_13 (by decide) ?_
      refine e_icmp_lt d_X6_isLetter_15 (fun c15 => ?_) (fun c15 => ?_)
      · have c15 := i_lt (b := 65) (by omega) (by decide) c15
        refine e_iconst (v := 0) d_X6_isLetter_28 (by decide) ?_
        exact e_iret d_X6_isLetter_29 rfl (rfl) (⟨by first | (rw [bI_t (by simp only [isL, decide_eq_true_eq]; omega)]; done) | (rw [bI_f (by simp only [isL, decide_eq_true_eq]; omega)]; done), rfl⟩)
      · have c15 := i_nlt (b := 65) (by omega) (by decide) c15
        refine e_iloadn d_X6_isLetter_18 rfl ?_
        refine e_bipush (v := 90) d_X6_isLetter_19 (by decide) ?_
        refine e_icmp_gt d_X6_isLetter_21 (fun c21 => ?_) (fun c21 => ?_)
        · have c21 := i_lt (a := 90) (by decide) (by omega) c21
          refine e_iconst (v := 0) d_X6_isLetter_28 (by decide) ?_
          exact e_iret d_X6_isLetter_29 rfl (rfl) (⟨by first | (rw [bI_t (by simp only [isL, decide_eq_true_eq]; omega)]; done) | (rw [bI_f (by simp only [isL, decide_eq_true_eq]; omega)]; done), rfl⟩)
        · have c21 := i_nlt (a := 90) (by decide) (by omega) c21
          refine e_iconst (v := 1) d_X6_isLetter_24 (by decide) ?_
          refine e_gt d_X6_isLetter_25 ?_
          exact e_iret d_X6_isLetter_29 rfl (rfl) (⟨by first | (rw [bI_t (by simp only [isL, decide_eq_true_eq]; omega)]; done) | (rw [bI_f (by simp only [isL, decide_eq_true_eq]; omega)]; done), rfl⟩)

theorem s_X6_isDigit {h : AH} {b : Nat} (hb : b < 256) : Sp M_X6_isDigit (0, 0) h [.int (nI b)] (pI (bI (isD b = true)) h) := by
  refine ⟨Nat.le_of_ble_eq_true rfl, ?_⟩
  show E _ _ _ 0 h [some (.int (nI b))] []
  refine e_iloadn d_X6_isDigit_0 rfl ?_
  refine e_bipush (v := 48) d_X6_isDigit_1 (by decide) ?_
  refine e_icmp_lt d_X6_isDigit_3 (fun c3 => ?_) (fun c3 => ?_)
  · have c3 := i_lt (b := 48) (by omega) (by decide) c3
    refine e_iconst (v := 0) d_X6_isDigit_16 (by decide) ?_
    exact e_iret d_X6_isDigit_17 rfl (rfl) (⟨by first | (rw [bI_t (by simp only [isD, decide_eq_true_eq]; omega)]; done) | (rw [bI_f (by simp only [isD, decide_eq_true_eq]; omega)]; done), rfl⟩)
  · have c3 := i_nlt (b := 48) (by omega) (by decide) c3
    refine e_iloadn d_X6_isDigit_6 rfl ?_
    refine e_bipush (v := 57) d_X6_isDigit_7 (by decide) ?_
    refine e_icmp_gt d_X6_isDigit_9 (fun c9 => ?_) (fun c9 => ?_)
    · have c9 := i_lt (a := 57) (by decide) (by omega) c9
      refine e_iconst (v := 0) d_X6_isDigit_16 (by decide) ?_
      exact e_iret d_X6_isDigit_17 rfl (rfl) (⟨by first | (rw [bI_t (by simp only [isD, decide_eq_true_eq]; omega)]; done) | (rw [bI_f (by simp only [isD, decide_eq_true_eq]; omega)]; done), rfl⟩)
    · have c9 := i_nlt (a := 57) (by decide) (by omega) c9
      refine e_iconst (v := 1) d_X6_isDigit_12 (by decide) ?_
      refine e_gt d_X6_isDigit_13 ?_
      exact e_iret d_X6_isDigit_17 rfl (rfl) (⟨by first | (rw [bI_t (by simp only [isD, decide_eq_true_eq]; omega)]; done) | (rw [bI_f (by simp only [isD, decide_eq_true_eq]; omega)]; done), rfl⟩)

theorem nI_tI (b : Nat) (hb : b < 2147483648) : (nI b).toInt = (b : Int) := i32_ofInt (z := (b : Int)) (by omega) (by omega)
theorem sgn_out {b : Nat} (h : b < 35 ∨ 62 < b) : sgn b = 36 := by
  unfold sgn
  repeat rw [if_neg (by omega)]

theorem s_X6_sign {h : AH} {b : Nat} (hb : b < 256) : Sp M_X6_sign (0, 0) h [.int (nI b)] (pI (nI (sgn b)) h) := by
  refine ⟨Nat.le_of_ble_eq_true rfl, ?_⟩
  show E _ _ _ 0 h [some (.int (nI b))] []
  refine e_iloadn d_X6_sign_0 rfl ?_
  rcases (by omega : b < 35 ∨ 62 < b ∨ b = 35 ∨ b = 36 ∨ b = 37 ∨ b = 38 ∨ b = 39 ∨ b = 40 ∨ b = 41 ∨ b = 42 ∨ b = 43 ∨ b = 44 ∨ b = 45 ∨ b = 46 ∨ b = 47 ∨ b = 48 ∨ b = 49 ∨ b = 50 ∨ b = 51 ∨ b = 52 ∨ b = 53 ∨ b = 54 ∨ b = 55 ∨ b = 56 ∨ b = 57 ∨ b = 58 ∨ b = 59 ∨ b = 60 ∨ b = 61 ∨ b = 62) with q | q | rfl | rfl | rfl | rfl | rfl | rfl | rfl | rfl | rfl | rfl | rfl | rfl | rfl | rfl | rfl | rfl | rfl | rfl | rfl | rfl | rfl | rfl | rfl | rfl | rfl | rfl | rfl | rfl
  · refine e_tabD d_X6_sign_1 161 (by rw [nI_tI b (by omega)]; omega) (by decide) ?_
    refine e_bipush (v := 36) d_X6_sign_161 (by decide) ?_
    exact e_iret d_X6_sign_163 rfl (rfl) (⟨by rw [sgn_out (by omega)]; rfl, rfl⟩)
  · refine e_tabD d_X6_sign_1 161 (by rw [nI_tI b (by omega)]; omega) (by decide) ?_
    refine e_bipush (v := 36) d_X6_sign_161 (by decide) ?_
    exact e_iret d_X6_sign_163 rfl (rfl) (⟨by rw [sgn_out (by omega)]; rfl, rfl⟩)
  · refine e_tab d_X6_sign_1 136 137 (by decide) (by decide) (by decide) (by decide) ?_
    refine e_bipush (v := 26) d_X6_sign_137 (by decide) ?_
    exact e_iret d_X6_sign_139 rfl (rfl) (⟨by decide, rfl⟩)
  · refine e_tab d_X6_sign_1 160 161 (by decide) (by decide) (by decide) (by decide) ?_
    refine e_bipush (v := 36) d_X6_sign_161 (by decide) ?_
    exact e_iret d_X6_sign_163 rfl (rfl) (⟨by decide, rfl⟩)
  · refine e_tab d_X6_sign_1 160 161 (by decide) (by decide) (by decide) (by decide) ?_
    refine e_bipush (v := 36) d_X6_sign_161 (by decide) ?_
    exact e_iret d_X6_sign_163 rfl (rfl) (⟨by decide, rfl⟩)
  · refine e_tab d_X6_sign_1 160 161 (by decide) (by decide) (by decide) (by decide) ?_
    refine e_bipush (v := 36) d_X6_sign_161 (by decide) ?_
    exact e_iret d_X6_sign_163 rfl (rfl) (⟨by decide, rfl⟩)
  · refine e_tab d_X6_sign_1 160 161 (by decide) (by decide) (by decide) (by decide) ?_
    refine e_bipush (v := 36) d_X6_sign_161 (by decide) ?_
    exact e_iret d_X6_sign_163 rfl (rfl) (⟨by decide, rfl⟩)
  · refine e_tab d_X6_sign_1 151 152 (by decide) (by decide) (by decide) (by decide) ?_
    refine e_bipush (v := 32) d_X6_sign_152 (by decide) ?_
    exact e_iret d_X6_sign_154 rfl (rfl) (⟨by decide, rfl⟩)
  · refine e_tab d_X6_sign_1 154 155 (by decide) (by decide) (by decide) (by decide) ?_
    refine e_bipush (v := 33) d_X6_sign_155 (by decide) ?_
    exact e_iret d_X6_sign_157 rfl (rfl) (⟨by decide, rfl⟩)
  · refine e_tab d_X6_sign_1 145 146 (by decide) (by decide) (by decide) (by decide) ?_
    refine e_bipush (v := 29) d_X6_sign_146 (by decide) ?_
    exact e_iret d_X6_sign_148 rfl (rfl) (⟨by decide, rfl⟩)
  · refine e_tab d_X6_sign_1 139 140 (by decide) (by decide) (by decide) (by decide) ?_
    refine e_bipush (v := 27) d_X6_sign_140 (by decide) ?_
    exact e_iret d_X6_sign_142 rfl (rfl) (⟨by decide, rfl⟩)
  · refine e_tab d_X6_sign_1 160 161 (by decide) (by decide) (by decide) (by decide) ?_
    refine e_bipush (v := 36) d_X6_sign_161 (by decide) ?_
    exact e_iret d_X6_sign_163 rfl (rfl) (⟨by decide, rfl⟩)
  · refine e_tab d_X6_sign_1 142 143 (by decide) (by decide) (by decide) (by decide) ?_
    refine e_bipush (v := 28) d_X6_sign_143 (by decide) ?_
    exact e_iret d_X6_sign_145 rfl (rfl) (⟨by decide, rfl⟩)
  · refine e_tab d_X6_sign_1 160 161 (by decide) (by decide) (by decide) (by decide) ?_
    refine e_bipush (v := 36) d_X6_sign_161 (by decide) ?_
    exact e_iret d_X6_sign_163 rfl (rfl) (⟨by decide, rfl⟩)
  · refine e_tab d_X6_sign_1 148 149 (by decide) (by decide) (by decide) (by decide) ?_
    refine e_bipush (v := 30) d_X6_sign_149 (by decide) ?_
    exact e_iret d_X6_sign_151 rfl (rfl) (⟨by decide, rfl⟩)
  · refine e_tab d_X6_sign_1 160 161 (by decide) (by decide) (by decide) (by decide) ?_
    refine e_bipush (v := 36) d_X6_sign_161 (by decide) ?_
    exact e_iret d_X6_sign_163 rfl (rfl) (⟨by decide, rfl⟩)
  · refine e_tab d_X6_sign_1 160 161 (by decide) (by decide) (by decide) (by decide) ?_
    refine e_bipush (v := 36) d_X6_sign_161 (by decide) ?_
    exact e_iret d_X6_sign_163 rfl (rfl) (⟨by decide, rfl⟩)
  · refine e_tab d_X6_sign_1 160 161 (by decide) (by decide) (by decide) (by decide) ?_
    refine e_bipush (v := 36) d_X6_sign_161 (by decide) ?_
    exact e_iret d_X6_sign_163 rfl (rfl) (⟨by decide, rfl⟩)
  · refine e_tab d_X6_sign_1 160 161 (by decide) (by decide) (by decide) (by decide) ?_
    refine e_bipush (v := 36) d_X6_sign_161 (by decide) ?_
    exact e_iret d_X6_sign_163 rfl (rfl) (⟨by decide, rfl⟩)
  · refine e_tab d_X6_sign_1 160 161 (by decide) (by decide) (by decide) (by decide) ?_
    refine e_bipush (v := 36) d_X6_sign_161 (by decide) ?_
    exact e_iret d_X6_sign_163 rfl (rfl) (⟨by decide, rfl⟩)
  · refine e_tab d_X6_sign_1 160 161 (by decide) (by decide) (by decide) (by decide) ?_
    refine e_bipush (v := 36) d_X6_sign_161 (by decide) ?_
    exact e_iret d_X6_sign_163 rfl (rfl) (⟨by decide, rfl⟩)
  · refine e_tab d_X6_sign_1 160 161 (by decide) (by decide) (by decide) (by decide) ?_
    refine e_bipush (v := 36) d_X6_sign_161 (by decide) ?_
    exact e_iret d_X6_sign_163 rfl (rfl) (⟨by decide, rfl⟩)
  · refine e_tab d_X6_sign_1 160 161 (by decide) (by decide) (by decide) (by decide) ?_
    refine e_bipush (v := 36) d_X6_sign_161 (by decide) ?_
    exact e_iret d_X6_sign_163 rfl (rfl) (⟨by decide, rfl⟩)
  · refine e_tab d_X6_sign_1 160 161 (by decide) (by decide) (by decide) (by decide) ?_
    refine e_bipush (v := 36) d_X6_sign_161 (by decide) ?_
    exact e_iret d_X6_sign_163 rfl (rfl) (⟨by decide, rfl⟩)
  · refine e_tab d_X6_sign_1 160 161 (by decide) (by decide) (by decide) (by decide) ?_
    refine e_bipush (v := 36) d_X6_sign_161 (by decide) ?_
    exact e_iret d_X6_sign_163 rfl (rfl) (⟨by decide, rfl⟩)
  · refine e_tab d_X6_sign_1 160 161 (by decide) (by decide) (by decide) (by decide) ?_
    refine e_bipush (v := 36) d_X6_sign_161 (by decide) ?_
    exact e_iret d_X6_sign_163 rfl (rfl) (⟨by decide, rfl⟩)
  · refine e_tab d_X6_sign_1 157 158 (by decide) (by decide) (by decide) (by decide) ?_
    refine e_bipush (v := 34) d_X6_sign_158 (by decide) ?_
    exact e_iret d_X6_sign_160 rfl (rfl) (⟨by decide, rfl⟩)
  · refine e_tab d_X6_sign_1 127 128 (by decide) (by decide) (by decide) (by decide) ?_
    refine e_bipush (v := 23) d_X6_sign_128 (by decide) ?_
    exact e_iret d_X6_sign_130 rfl (rfl) (⟨by decide, rfl⟩)
  · refine e_tab d_X6_sign_1 133 134 (by decide) (by decide) (by decide) (by decide) ?_
    refine e_bipush (v := 25) d_X6_sign_134 (by decide) ?_
    exact e_iret d_X6_sign_136 rfl (rfl) (⟨by decide, rfl⟩)
  · refine e_tab d_X6_sign_1 130 131 (by decide) (by decide) (by decide) (by decide) ?_
    refine e_bipush (v := 24) d_X6_sign_131 (by decide) ?_
    exact e_iret d_X6_sign_133 rfl (rfl) (⟨by decide, rfl⟩)

theorem s_X6_isWord {h : AH} {tape : Nat → Int32} {tb : Nat → Nat} {L s e : Nat} {rtop rop rbr rtk rsta rkin rsas rcm rflt rpl : Int32} {rtx : Value} {f g : Nat} (H_re : Hs h 22 (oRe rtop rop rbr (.ref 21) (nI L) (nI e) (nI s) rtk rsta rkin rsas rcm rtx rflt rpl)) (H_tape : Hs h 21 (aI 300 tape)) (htb : ∀ k, k < 300 → tape k = nI (tb k) ∧ tb k < 256) (hs : s ≤ e) (he : e ≤ L) (hL : L ≤ 300) (hf : f ≤ g) (hg : g < 108) : Sp M_X6_isWord (0, 0) h [.ref 22, .int (nI f), .int (nI g)] (pI (bI ((List.range (g - f)).map (fun k => wch (f + k)) = wdS tb s e)) h) := by
  refine ⟨Nat.le_of_ble_eq_true rfl, ?_⟩
  show E _ _ _ 0 h [some (.ref 22), some (.int (nI f)), some (.int (nI g)), none] []
  refine e_iloadn d_X6_isWord_0 rfl ?_
  refine e_iloadn d_X6_isWord_1 rfl ?_
  skip
  refine e_isub d_X6_isWord_2 ?_
  refine e_aloadn d_X6_isWord_3 rfl ?_
  refine e_get d_X6_isWord_4 f_X6_28 H_re rfl ?_
  refine e_aloadn d_X6_isWord_7 rfl ?_
  refine e_get d_X6_isWord_8 f_X6_70 H_re rfl ?_
  refine e_isub d_X6_isWord_11 ?_
  rw [nI_subN hf, nI_subN hs]
  refine e_icmp_eq d_X6_isWord_12 (fun c12 => ?_) (fun c12 => ?_)
  · have c12 := i_eq (by omega) (by omega) c12
    refine e_iconst (v := 0) d_X6_isWord_17 (by decide) ?_
    refine e_istoren d_X6_isWord_18 (by decide) rfl ?_
    have hA_19 : ∀ i, i ≤ (e - s) → ∀ (q : Unit) (y : Int32), (∀ k, k < i → wch (f + k) = tb (s + k)) → (y = nI i) → E M_X6_isWord (0, 0) (pI (bI ((List.range (g - f)).map (fun k => wch (f + k)) = wdS tb s e)) h) 19 (h) [some (.ref 22), some (.int (nI f)), some (.int (nI g)), some (.int y)] [] := by
      refine loop_ind (n := (e - s)) ?_
      intro i hi_i ih_19 q y h_q h_y
      subst h_y
      refine e_iloadn d_X6_isWord_19 rfl ?_
      refine e_aloadn d_X6_isWord_20 rfl ?_
      refine e_get d_X6_isWord_21 f_X6_28 H_re rfl ?_
      refine e_aloadn d_X6_isWord_24 rfl ?_
      refine e_get d_X6_isWord_25 f_X6_70 H_re rfl ?_
      refine e_isub d_X6_isWord_28 ?_
      rw [nI_subN hs]
      refine e_icmp_ge d_X6_isWord_29 (fun c => ?_) (fun c => ?_)
      · have c := i_le (by omega) (by omega) c
        have ei : i = e - s := by omega
        subst ei
        refine e_iconst (v := 1) d_X6_isWord_62 (by decide) ?_
        exact e_iret d_X6_isWord_63 rfl (rfl) (⟨by rw [bI_t (wd_is.mpr ⟨c12, h_q⟩)], rfl⟩)
      · have c := i_nle (by omega) (by omega) c
        refine e_ldcS rfl d_X6_isWord_32 ?_
        refine e_iloadn d_X6_isWord_34 rfl ?_
        refine e_iloadn d_X6_isWord_35 rfl ?_
        refine e_iadd d_X6_isWord_36 ?_
        rw [nI_add]
        refine e_callTI d_X6_isWord_37 l_X6_isWord_163 rfl (s_J0_charAt_5068e (by omega)) rfl rfl (Nat.le_of_ble_eq_true rfl) ?_
        refine e_aloadn d_X6_isWord_40 rfl ?_
        refine e_get d_X6_isWord_41 f_X6_15 H_re rfl ?_
        refine e_aloadn d_X6_isWord_44 rfl ?_
        refine e_get d_X6_isWord_45 f_X6_70 H_re rfl ?_
        refine e_iloadn d_X6_isWord_48 rfl ?_
        refine e_iadd d_X6_isWord_49 ?_
        rw [nI_add]
        refine e_ialdN (k := (s + i)) d_X6_isWord_50 H_tape rfl (by omega) (by omega) ?_
        rw [(htb _ (by omega)).1]
        have hw9 := wch_lt (f + i) (by omega)
        have hw8 := (htb (s + i) (by omega)).2
        refine e_icmp_eq d_X6_isWord_51 (fun c51 => ?_) (fun c51 => ?_)
        · have c51 := i_eq (by omega) (by omega) c51
          refine e_iincw (w := 1) d_X6_isWord_56 rfl (by decide) (by decide) rfl ?_
          refine e_gt d_X6_isWord_59 ?_
          refine ih_19 (i + 1) (by omega) (by omega) () _ ?_ ?_
          · intro k hk
            by_cases e9 : k = i
            · rw [e9]; exact c51
            · exact h_q k (by omega)
          · exact nI_1 i
        · have c51 := fun z => c51 (congrArg nI z)
          refine e_iconst (v := 0) d_X6_isWord_54 (by decide) ?_
          exact e_iret d_X6_isWord_55 rfl (rfl) (⟨by rw [bI_f (fun z => c51 ((wd_is.mp z).2 i (by omega)))], rfl⟩)
    exact hA_19 0 (by omega) () _ (fun k hk => absurd hk (by omega)) (rfl)
  · have c12 := fun z => c12 (congrArg nI z)
    refine e_iconst (v := 0) d_X6_isWord_15 (by decide) ?_
    exact e_iret d_X6_isWord_16 rfl (rfl) (⟨by rw [bI_f (fun z => c12 (wd_is.mp z).1)], rfl⟩)

theorem s_X6_nextWord {h : AH} {tape : Nat → Int32} {tb : Nat → Nat} {L s : Nat} {rtop rop rbr rtk rsta rkin rsas rcm rflt rpl : Int32} {rtx : Value} (H_re : Hs h 22 (oRe rtop rop rbr (.ref 21) (nI L) (nI s) (nI s) rtk rsta rkin rsas rcm rtx rflt rpl)) (H_tape : Hs h 21 (aI 300 tape)) (htb : ∀ k, k < 300 → tape k = nI (tb k) ∧ tb k < 256) (hs : s ≤ L) (hL : L ≤ 300) : Sp M_X6_nextWord (0, 0) h [.ref 22] (rV (fun h' => Hs h' 22 (oRe rtop rop rbr (.ref 21) (nI L) (nI (run isL tb L s)) (nI s) (nI (wc (wdS tb s (run isL tb L s)))) rsta rkin rsas rcm rtx rflt rpl) ∧ Fr [22] h h')) := by
  refine ⟨Nat.le_of_ble_eq_true rfl, ?_⟩
  show E _ _ _ 0 h [some (.ref 22), none, none, none] []
  have G_tape := H_tape
  have hA_0 : ∀ i, i ≤ L → ∀ (k : AH) (F : Unit) (re : Unit) (p : Unit), (Fr [22] h k) → (Hs k 22 (oRe rtop rop rbr (.ref 21) (nI L) (nI i) (nI s) rtk rsta rkin rsas rcm rtx rflt rpl)) → (s ≤ i ∧ ∀ j, s ≤ j → j < i → isL (tb j) = true) → E M_X6_nextWord (0, 0) (rV (fun h' => Hs h' 22 (oRe rtop rop rbr (.ref 21) (nI L) (nI (run isL tb L s)) (nI s) (nI (wc (wdS tb s (run isL tb L s)))) rsta rkin rsas rcm rtx rflt rpl) ∧ Fr [22] h h')) 0 (k) [some (.ref 22), none, none, none] [] := by
    refine loop_ind (n := L) ?_
    intro i hi_i ih_0 k F re p h_F h_re h_p
    have H_tape := h_F.hs G_tape (by decide)
    refine e_aloadn d_X6_nextWord_0 rfl ?_
    refine e_get d_X6_nextWord_1 f_X6_28 h_re rfl ?_
    refine e_aloadn d_X6_nextWord_4 rfl ?_
    refine e_get d_X6_nextWord_5 f_X6_24 h_re rfl ?_
    refine e_icmp_ge d_X6_nextWord_8 (fun c => ?_) (fun c => ?_)
    · have c := i_le (by omega) (by omega) c
      have ee : i = (run isL tb L s) := run_end h_p.1 hi_i h_p.2 (Or.inl (by omega))
      have hil : i ≤ L := hi_i
      refine e_aloadn d_X6_nextWord_39 rfl ?_
      refine e_bipush (v := 36) d_X6_nextWord_40 (by decide) ?_
      refine e_puti d_X6_nextWord_42 f_X6_52 h_re (Nat.le_of_ble_eq_true rfl) ?_
      refine e_iconst (v := 0) d_X6_nextWord_45 (by decide) ?_
      refine e_istoren d_X6_nextWord_46 (by decide) rfl ?_
      refine e_iconst (v := 0) d_X6_nextWord_47 (by decide) ?_
      refine e_istoren d_X6_nextWord_48 (by decide) rfl ?_
      refine e_iconst (v := 0) d_X6_nextWord_49 (by decide) ?_
      refine e_istoren d_X6_nextWord_50 (by decide) rfl ?_
      have hB_51 : ∀ m, m ≤ 108 → ∀ (k2 : AH) (F2 : Unit) (re2 : Unit) (w : Int32) (f : Int32) (y : Int32), (Fr [22] h k2) → (Hs k2 22 (oRe rtop rop rbr (.ref 21) (nI L) (nI i) (nI s) (nI (wcU (wdS tb s i) (wnw m))) rsta rkin rsas rcm rtx rflt rpl)) → (w = nI (wnw m)) → (f = nI (wfs m)) → (y = nI m) → E M_X6_nextWord (0, 0) (rV (fun h' => Hs h' 22 (oRe rtop rop rbr (.ref 21) (nI L) (nI (run isL tb L s)) (nI s) (nI (wc (wdS tb s (run isL tb L s)))) rsta rkin rsas rcm rtx rflt rpl) ∧ Fr [22] h h')) 51 (k2) [some (.ref 22), some (.int w), some (.int f), some (.int y)] [] := by
        refine loop_ind (n := 108) ?_
        intro m hi_m ih_51 k2 F2 re2 w f y h_F2 h_re2 h_w h_f h_y
        subst h_y
        subst h_w
        subst h_f
        have H_tape := h_F2.hs G_tape (by decide)
        refine e_iloadn d_X6_nextWord_51 rfl ?_
        refine e_ldcS rfl d_X6_nextWord_52 ?_
        refine e_callTI d_X6_nextWord_54 l_X6_nextWord_158 rfl (s_J0_length_8abf5) rfl rfl (Nat.le_of_ble_eq_true rfl) ?_
        refine e_icmp_ge d_X6_nextWord_57 (fun cm => ?_) (fun cm => ?_)
        · have cm := i_le (a := 108) (by decide) (by omega) cm
          obtain rfl : m = 108 := by omega
          exact e_vret d_X6_nextWord_105 rfl (⟨rfl, by rw [← ee]; exact h_re2, h_F2⟩)
        · have cm := i_nle (a := 108) (by decide) (by omega) cm
          refine e_ldcS rfl d_X6_nextWord_60 ?_
          refine e_iloadn d_X6_nextWord_62 rfl ?_
          refine e_callTI d_X6_nextWord_63 l_X6_nextWord_163 rfl (s_J0_charAt_5068e cm) rfl rfl (Nat.le_of_ble_eq_true rfl) ?_
          refine e_bipush (v := 32) d_X6_nextWord_66 (by decide) ?_
          have hw9 := wch_lt m cm
          refine e_icmp_ne d_X6_nextWord_68 (fun c68 => ?_) (fun c68 => ?_)
          · have hns : ¬ wch m = 32 := fun z => c68 (by rw [z]; rfl)
            obtain ⟨hT1, hT2⟩ := w_ns m cm hns
            refine e_iincw (w := 1) d_X6_nextWord_99 rfl (by decide) (by decide) rfl ?_
            refine e_gt d_X6_nextWord_102 ?_
            refine ih_51 (m + 1) (by omega) (by omega) _ () () _ _ _ ?_ ?_ ?_ ?_ ?_
            · first
              | exact h_F2.up (by decide)
              | exact h_F2
            · first
              | (rw [hT1, wcU_T hT3 hT9]; exact Hs.s h_re2)
              | (rw [hT1, wcU_F hT9]; exact Hs.s h_re2)
              | (rw [hT1]; exact h_re2)
            · first
              | (rw [hT1]; exact nI_1 _)
              | rw [hT1]
            · first
              | (rw [hT2]; exact nI_1 _)
              | rw [hT2]
            · exact nI_1 m
          · have hsp : wch m = 32 := (nI_eq (b := 32) (by omega) (by decide)).mp c68
            obtain ⟨hT1, hT2, hT3, hT4, hT5⟩ := w_sp m cm hsp
            refine e_aloadn d_X6_nextWord_71 rfl ?_
            refine e_aloadn d_X6_nextWord_72 rfl ?_
            refine e_iloadn d_X6_nextWord_73 rfl ?_
            refine e_iloadn d_X6_nextWord_74 rfl ?_
            refine e_callVI d_X6_nextWord_75 l_X6_nextWord_167 h_re2 rfl rfl (s_X6_isWord h_re2 H_tape htb h_p.1 hil hL hT4 cm) rfl rfl (Nat.le_of_ble_eq_true rfl) ?_
            refine e_if_eq d_X6_nextWord_78 (fun c78 => ?_) (fun c78 => ?_)
            · have hT9 : ¬ wwd (wnw m) = wdS tb s i := by rw [hT5]; exact bI_0.mp c78
              refine e_aloadn d_X6_nextWord_85 rfl ?_
              refine e_get d_X6_nextWord_86 f_X6_52 h_re2 rfl ?_
              refine e_puti d_X6_nextWord_89 f_X6_52 h_re2 (Nat.le_of_ble_eq_true rfl) ?_
              refine e_iloadn d_X6_nextWord_92 rfl ?_
              refine e_iconst (v := 1) d_X6_nextWord_93 (by decide) ?_
              refine e_iadd d_X6_nextWord_94 ?_
              refine e_istoren d_X6_nextWord_95 (by decide) rfl ?_
              refine e_iincw (w := 1) d_X6_nextWord_96 rfl (by decide) (by decide) rfl ?_
              refine e_iincw (w := 1) d_X6_nextWord_99 rfl (by decide) (by decide) rfl ?_
              refine e_gt d_X6_nextWord_102 ?_
              refine ih_51 (m + 1) (by omega) (by omega) _ () () _ _ _ ?_ ?_ ?_ ?_ ?_
              · first
                | exact h_F2.up (by decide)
                | exact h_F2
              · first
                | (rw [hT1, wcU_T hT3 hT9]; exact Hs.s h_re2)
                | (rw [hT1, wcU_F hT9]; exact Hs.s h_re2)
                | (rw [hT1]; exact h_re2)
              · first
                | (rw [hT1]; exact nI_1 _)
                | rw [hT1]
              · first
                | (rw [hT2]; exact nI_1 _)
                | rw [hT2]
              · exact nI_1 m
            · have hT9 : wwd (wnw m) = wdS tb s i := by rw [hT5]; exact bI_1.mp (bI_z.resolve_left c78)
              refine e_iloadn d_X6_nextWord_81 rfl ?_
              refine e_gt d_X6_nextWord_82 ?_
              refine e_puti d_X6_nextWord_89 f_X6_52 h_re2 (Nat.le_of_ble_eq_true rfl) ?_
              refine e_iloadn d_X6_nextWord_92 rfl ?_
              refine e_iconst (v := 1) d_X6_nextWord_93 (by decide) ?_
              refine e_iadd d_X6_nextWord_94 ?_
              refine e_istoren d_X6_nextWord_95 (by decide) rfl ?_
              refine e_iincw (w := 1) d_X6_nextWord_96 rfl (by decide) (by decide) rfl ?_
              refine e_iincw (w := 1) d_X6_nextWord_99 rfl (by decide) (by decide) rfl ?_
              refine e_gt d_X6_nextWord_102 ?_
              refine ih_51 (m + 1) (by omega) (by omega) _ () () _ _ _ ?_ ?_ ?_ ?_ ?_
              · first
                | exact h_F2.up (by decide)
                | exact h_F2
              · first
                | (rw [hT1, wcU_T hT3 hT9]; exact Hs.s h_re2)
                | (rw [hT1, wcU_F hT9]; exact Hs.s h_re2)
                | (rw [hT1]; exact h_re2)
              · first
                | (rw [hT1]; exact nI_1 _)
                | rw [hT1]
              · first
                | (rw [hT2]; exact nI_1 _)
                | rw [hT2]
              · exact nI_1 m
      exact hB_51 0 (by omega) _ () () _ _ _ (h_F.up (by decide)) (Hs.s h_re) (rfl) (rfl) (rfl)
    · have c := i_nle (by omega) (by omega) c
      refine e_aloadn d_X6_nextWord_11 rfl ?_
      refine e_get d_X6_nextWord_12 f_X6_15 h_re rfl ?_
      refine e_aloadn d_X6_nextWord_15 rfl ?_
      refine e_get d_X6_nextWord_16 f_X6_28 h_re rfl ?_
      refine e_ialdN (k := i) d_X6_nextWord_19 H_tape rfl (by omega) (by omega) ?_
      rw [(htb i (by omega)).1]
      refine e_callSI d_X6_nextWord_20 l_X6_nextWord_141 (s_X6_isLetter (htb i (by omega)).2) rfl rfl (Nat.le_of_ble_eq_true rfl) ?_
      refine e_if_eq d_X6_nextWord_23 (fun c23 => ?_) (fun c23 => ?_)
      · have hb := Bool.eq_false_iff.mpr (bI_0.mp c23)
        have ee : i = (run isL tb L s) := run_end h_p.1 hi_i h_p.2 (Or.inr hb)
        have hil : i ≤ L := hi_i
        refine e_aloadn d_X6_nextWord_39 rfl ?_
        refine e_bipush (v := 36) d_X6_nextWord_40 (by decide) ?_
        refine e_puti d_X6_nextWord_42 f_X6_52 h_re (Nat.le_of_ble_eq_true rfl) ?_
        refine e_iconst (v := 0) d_X6_nextWord_45 (by decide) ?_
        refine e_istoren d_X6_nextWord_46 (by decide) rfl ?_
        refine e_iconst (v := 0) d_X6_nextWord_47 (by decide) ?_
        refine e_istoren d_X6_nextWord_48 (by decide) rfl ?_
        refine e_iconst (v := 0) d_X6_nextWord_49 (by decide) ?_
        refine e_istoren d_X6_nextWord_50 (by decide) rfl ?_
        have hB_51 : ∀ m, m ≤ 108 → ∀ (k2 : AH) (F2 : Unit) (re2 : Unit) (w : Int32) (f : Int32) (y : Int32), (Fr [22] h k2) → (Hs k2 22 (oRe rtop rop rbr (.ref 21) (nI L) (nI i) (nI s) (nI (wcU (wdS tb s i) (wnw m))) rsta rkin rsas rcm rtx rflt rpl)) → (w = nI (wnw m)) → (f = nI (wfs m)) → (y = nI m) → E M_X6_nextWord (0, 0) (rV (fun h' => Hs h' 22 (oRe rtop rop rbr (.ref 21) (nI L) (nI (run isL tb L s)) (nI s) (nI (wc (wdS tb s (run isL tb L s)))) rsta rkin rsas rcm rtx rflt rpl) ∧ Fr [22] h h')) 51 (k2) [some (.ref 22), some (.int w), some (.int f), some (.int y)] [] := by
          refine loop_ind (n := 108) ?_
          intro m hi_m ih_51 k2 F2 re2 w f y h_F2 h_re2 h_w h_f h_y
          subst h_y
          subst h_w
          subst h_f
          have H_tape := h_F2.hs G_tape (by decide)
          refine e_iloadn d_X6_nextWord_51 rfl ?_
          refine e_ldcS rfl d_X6_nextWord_52 ?_
          refine e_callTI d_X6_nextWord_54 l_X6_nextWord_158 rfl (s_J0_length_8abf5) rfl rfl (Nat.le_of_ble_eq_true rfl) ?_
          refine e_icmp_ge d_X6_nextWord_57 (fun cm => ?_) (fun cm => ?_)
          · have cm := i_le (a := 108) (by decide) (by omega) cm
            obtain rfl : m = 108 := by omega
            exact e_vret d_X6_nextWord_105 rfl (⟨rfl, by rw [← ee]; exact h_re2, h_F2⟩)
          · have cm := i_nle (a := 108) (by decide) (by omega) cm
            refine e_ldcS rfl d_X6_nextWord_60 ?_
            refine e_iloadn d_X6_nextWord_62 rfl ?_
            refine e_callTI d_X6_nextWord_63 l_X6_nextWord_163 rfl (s_J0_charAt_5068e cm) rfl rfl (Nat.le_of_ble_eq_true rfl) ?_
            refine e_bipush (v := 32) d_X6_nextWord_66 (by decide) ?_
            have hw9 := wch_lt m cm
            refine e_icmp_ne d_X6_nextWord_68 (fun c68 => ?_) (fun c68 => ?_)
            · have hns : ¬ wch m = 32 := fun z => c68 (by rw [z]; rfl)
              obtain ⟨hT1, hT2⟩ := w_ns m cm hns
              refine e_iincw (w := 1) d_X6_nextWord_99 rfl (by decide) (by decide) rfl ?_
              refine e_gt d_X6_nextWord_102 ?_
              refine ih_51 (m + 1) (by omega) (by omega) _ () () _ _ _ ?_ ?_ ?_ ?_ ?_
              · first
                | exact h_F2.up (by decide)
                | exact h_F2
              · first
                | (rw [hT1, wcU_T hT3 hT9]; exact Hs.s h_re2)
                | (rw [hT1, wcU_F hT9]; exact Hs.s h_re2)
                | (rw [hT1]; exact h_re2)
              · first
                | (rw [hT1]; exact nI_1 _)
                | rw [hT1]
              · first
                | (rw [hT2]; exact nI_1 _)
                | rw [hT2]
              · exact nI_1 m
            · have hsp : wch m = 32 := (nI_eq (b := 32) (by omega) (by decide)).mp c68
              obtain ⟨hT1, hT2, hT3, hT4, hT5⟩ := w_sp m cm hsp
              refine e_aloadn d_X6_nextWord_71 rfl ?_
              refine e_aloadn d_X6_nextWord_72 rfl ?_
              refine e_iloadn d_X6_nextWord_73 rfl ?_
              refine e_iloadn d_X6_nextWord_74 rfl ?_
              refine e_callVI d_X6_nextWord_75 l_X6_nextWord_167 h_re2 rfl rfl (s_X6_isWord h_re2 H_tape htb h_p.1 hil hL hT4 cm) rfl rfl (Nat.le_of_ble_eq_true rfl) ?_
              refine e_if_eq d_X6_nextWord_78 (fun c78 => ?_) (fun c78 => ?_)
              · have hT9 : ¬ wwd (wnw m) = wdS tb s i := by rw [hT5]; exact bI_0.mp c78
                refine e_aloadn d_X6_nextWord_85 rfl ?_
                refine e_get d_X6_nextWord_86 f_X6_52 h_re2 rfl ?_
                refine e_puti d_X6_nextWord_89 f_X6_52 h_re2 (Nat.le_of_ble_eq_true rfl) ?_
                refine e_iloadn d_X6_nextWord_92 rfl ?_
                refine e_iconst (v := 1) d_X6_nextWord_93 (by decide) ?_
                refine e_iadd d_X6_nextWord_94 ?_
                refine e_istoren d_X6_nextWord_95 (by decide) rfl ?_
                refine e_iincw (w := 1) d_X6_nextWord_96 rfl (by decide) (by decide) rfl ?_
                refine e_iincw (w := 1) d_X6_nextWord_99 rfl (by decide) (by decide) rfl ?_
                refine e_gt d_X6_nextWord_102 ?_
                refine ih_51 (m + 1) (by omega) (by omega) _ () () _ _ _ ?_ ?_ ?_ ?_ ?_
                · first
                  | exact h_F2.up (by decide)
                  | exact h_F2
                · first
                  | (rw [hT1, wcU_T hT3 hT9]; exact Hs.s h_re2)
                  | (rw [hT1, wcU_F hT9]; exact Hs.s h_re2)
                  | (rw [hT1]; exact h_re2)
                · first
                  | (rw [hT1]; exact nI_1 _)
                  | rw [hT1]
                · first
                  | (rw [hT2]; exact nI_1 _)
                  | rw [hT2]
                · exact nI_1 m
              · have hT9 : wwd (wnw m) = wdS tb s i := by rw [hT5]; exact bI_1.mp (bI_z.resolve_left c78)
                refine e_iloadn d_X6_nextWord_81 rfl ?_
                refine e_gt d_X6_nextWord_82 ?_
                refine e_puti d_X6_nextWord_89 f_X6_52 h_re2 (Nat.le_of_ble_eq_true rfl) ?_
                refine e_iloadn d_X6_nextWord_92 rfl ?_
                refine e_iconst (v := 1) d_X6_nextWord_93 (by decide) ?_
                refine e_iadd d_X6_nextWord_94 ?_
                refine e_istoren d_X6_nextWord_95 (by decide) rfl ?_
                refine e_iincw (w := 1) d_X6_nextWord_96 rfl (by decide) (by decide) rfl ?_
                refine e_iincw (w := 1) d_X6_nextWord_99 rfl (by decide) (by decide) rfl ?_
                refine e_gt d_X6_nextWord_102 ?_
                refine ih_51 (m + 1) (by omega) (by omega) _ () () _ _ _ ?_ ?_ ?_ ?_ ?_
                · first
                  | exact h_F2.up (by decide)
                  | exact h_F2
                · first
                  | (rw [hT1, wcU_T hT3 hT9]; exact Hs.s h_re2)
                  | (rw [hT1, wcU_F hT9]; exact Hs.s h_re2)
                  | (rw [hT1]; exact h_re2)
                · first
                  | (rw [hT1]; exact nI_1 _)
                  | rw [hT1]
                · first
                  | (rw [hT2]; exact nI_1 _)
                  | rw [hT2]
                · exact nI_1 m
        exact hB_51 0 (by omega) _ () () _ _ _ (h_F.up (by decide)) (Hs.s h_re) (rfl) (rfl) (rfl)
      · have hb := bI_1.mp (bI_z.resolve_left c23)
        refine e_aloadn d_X6_nextWord_26 rfl ?_
        refine e_dup d_X6_nextWord_27 rfl ?_
        refine e_get d_X6_nextWord_28 f_X6_28 h_re rfl ?_
        refine e_iconst (v := 1) d_X6_nextWord_31 (by decide) ?_
        refine e_iadd d_X6_nextWord_32 ?_
        refine e_puti d_X6_nextWord_33 f_X6_28 h_re (Nat.le_of_ble_eq_true rfl) ?_
        skip
        refine e_gt d_X6_nextWord_36 ?_
        refine ih_0 (i + 1) (by omega) (by omega) _ () () () ?_ ?_ ?_
        · exact h_F.up (by decide)
        · first
          | exact Hs.s h_re
          | (rw [← nI_1 i]; exact Hs.s h_re)
        · refine ⟨by omega, fun j h1 h2 => ?_⟩
          by_cases e9 : j = i
          · rw [e9]; exact hb
          · exact h_p.2 j h1 (by omega)
  exact hA_0 s (by omega) _ () () () (Fr.refl _ _) (H_re) (⟨Nat.le_refl _, fun j h1 h2 => absurd h1 (by omega)⟩)

theorem min_N {a b : Nat} (ha : a < 2 ^ 31) (hb : b < 2 ^ 31) : (if nI b < nI a then nI b else nI a) = nI (min a b) := by
  have q : nI b < nI a ↔ b < a := nI_ltI hb ha
  by_cases h : b < a
  · rw [if_pos (q.mpr h), Nat.min_eq_right (by omega)]
  · rw [if_neg (fun z => h (q.mp z)), Nat.min_eq_left (by omega)]

theorem s_X6_nextNumber {h : AH} {tape : Nat → Int32} {tb : Nat → Nat} {L s : Nat} {rtop rop rbr rtk rsta rkin rsas rcm rflt rpl : Int32} {rtx : Value} (H_re : Hs h 22 (oRe rtop rop rbr (.ref 21) (nI L) (nI s) (nI s) rtk rsta rkin rsas rcm rtx rflt rpl)) (H_tape : Hs h 21 (aI 300 tape)) (htb : ∀ k, k < 300 → tape k = nI (tb k) ∧ tb k < 256) (hs : s ≤ L) (hL : L ≤ 300) : Sp M_X6_nextNumber (0, 0) h [.ref 22] (rV (fun h' => Hs h' 22 (oRe rtop rop rbr (.ref 21) (nI L) (nI (run isD tb L s)) (nI s) (nI (100 + numC tb s ((run isD tb L s) - s))) rsta rkin rsas rcm rtx rflt rpl) ∧ Fr [22] h h')) := by
  refine ⟨Nat.le_of_ble_eq_true rfl, ?_⟩
  show E _ _ _ 0 h [some (.ref 22), none] []
  have G_tape := H_tape
  refine e_iconst (v := 0) d_X6_nextNumber_0 (by decide) ?_
  refine e_istoren d_X6_nextNumber_1 (by decide) rfl ?_
  have hA_2 : ∀ i, i ≤ L → ∀ (k : AH) (F : Unit) (re : Unit) (p : Unit) (v : Int32), (Fr [22] h k) → (Hs k 22 (oRe rtop rop rbr (.ref 21) (nI L) (nI i) (nI s) rtk rsta rkin rsas rcm rtx rflt rpl)) → (s ≤ i ∧ ∀ j, s ≤ j → j < i → isD (tb j) = true) → (v = nI (numC tb s (i - s))) → E M_X6_nextNumber (0, 0) (rV (fun h' => Hs h' 22 (oRe rtop rop rbr (.ref 21) (nI L) (nI (run isD tb L s)) (nI s) (nI (100 + numC tb s ((run isD tb L s) - s))) rsta rkin rsas rcm rtx rflt rpl) ∧ Fr [22] h h')) 2 (k) [some (.ref 22), some (.int v)] [] := by
    refine loop_ind (n := L) ?_
    intro i hi_i ih_2 k F re p v h_F h_re h_p h_v
    have H_tape := h_F.hs G_tape (by decide)
    refine e_aloadn d_X6_nextNumber_2 rfl ?_
    refine e_get d_X6_nextNumber_3 f_X6_28 h_re rfl ?_
    refine e_aloadn d_X6_nextNumber_6 rfl ?_
    refine e_get d_X6_nextNumber_7 f_X6_24 h_re rfl ?_
    refine e_icmp_ge d_X6_nextNumber_10 (fun c => ?_) (fun c => ?_)
    · have c := i_le (by omega) (by omega) c
      have ee : i = (run isD tb L s) := run_end h_p.1 hi_i h_p.2 (Or.inl (by omega))
      refine e_aloadn d_X6_nextNumber_65 rfl ?_
      refine e_bipush (v := 100) d_X6_nextNumber_66 (by decide) ?_
      refine e_iloadn d_X6_nextNumber_68 rfl ?_
      refine e_iadd d_X6_nextNumber_69 ?_
      rw [h_v, show (100 : Int32) = nI 100 from rfl, nI_add]
      refine e_puti d_X6_nextNumber_70 f_X6_52 h_re (Nat.le_of_ble_eq_true rfl) ?_
      exact e_vret d_X6_nextNumber_73 rfl (⟨rfl, by rw [← ee]; exact Hs.s h_re, h_F.up (by decide)⟩)
    · have c := i_nle (by omega) (by omega) c
      refine e_aloadn d_X6_nextNumber_13 rfl ?_
      refine e_get d_X6_nextNumber_14 f_X6_15 h_re rfl ?_
      refine e_aloadn d_X6_nextNumber_17 rfl ?_
      refine e_get d_X6_nextNumber_18 f_X6_28 h_re rfl ?_
      refine e_ialdN (k := i) d_X6_nextNumber_21 H_tape rfl (by omega) (by omega) ?_
      rw [(htb i (by omega)).1]
      refine e_callSI d_X6_nextNumber_22 l_X6_nextNumber_147 (s_X6_isDigit (htb i (by omega)).2) rfl rfl (Nat.le_of_ble_eq_true rfl) ?_
      refine e_if_eq d_X6_nextNumber_25 (fun c25 => ?_) (fun c25 => ?_)
      · have hb := Bool.eq_false_iff.mpr (bI_0.mp c25)
        have ee : i = (run isD tb L s) := run_end h_p.1 hi_i h_p.2 (Or.inr hb)
        refine e_aloadn d_X6_nextNumber_65 rfl ?_
        refine e_bipush (v := 100) d_X6_nextNumber_66 (by decide) ?_
        refine e_iloadn d_X6_nextNumber_68 rfl ?_
        refine e_iadd d_X6_nextNumber_69 ?_
        rw [h_v, show (100 : Int32) = nI 100 from rfl, nI_add]
        refine e_puti d_X6_nextNumber_70 f_X6_52 h_re (Nat.le_of_ble_eq_true rfl) ?_
        exact e_vret d_X6_nextNumber_73 rfl (⟨rfl, by rw [← ee]; exact Hs.s h_re, h_F.up (by decide)⟩)
      · have hb := bI_1.mp (bI_z.resolve_left c25)
        have hb9 := of_decide_eq_true hb
        have hn9 := numC_le (b := tb) (s := s) (i - s)
        refine e_iloadn d_X6_nextNumber_28 rfl ?_
        refine e_bipush (v := 10) d_X6_nextNumber_29 (by decide) ?_
        rw [h_v]
        refine e_imul d_X6_nextNumber_31 ?_
        rw [show nI (numC tb s (i - s)) * 10 = nI (numC tb s (i - s) * 10) from pk_mul _ 10]
        refine e_aloadn d_X6_nextNumber_32 rfl ?_
        refine e_get d_X6_nextNumber_33 f_X6_15 h_re rfl ?_
        refine e_aloadn d_X6_nextNumber_36 rfl ?_
        refine e_get d_X6_nextNumber_37 f_X6_28 h_re rfl ?_
        refine e_ialdN (k := i) d_X6_nextNumber_40 H_tape rfl (by omega) (by omega) ?_
        rw [(htb i (by omega)).1]
        refine e_iadd d_X6_nextNumber_41 ?_
        rw [nI_add]
        refine e_bipush (v := 48) d_X6_nextNumber_42 (by decide) ?_
        refine e_isub d_X6_nextNumber_44 ?_
        refine e_sipush (v := 10000) d_X6_nextNumber_45 (by decide) ?_
        rw [show nI (numC tb s (i - s) * 10 + tb i) - 48 = nI (numC tb s (i - s) * 10 + tb i - 48) from nI_subN (b := 48) (by omega)]
        refine e_callSI d_X6_nextNumber_48 l_X6_nextNumber_18 (s_J9_min_7cf53) rfl rfl (Nat.le_of_ble_eq_true rfl) ?_
        rw [show (if 10000 < nI (numC tb s (i - s) * 10 + tb i - 48) then 10000 else nI (numC tb s (i - s) * 10 + tb i - 48)) = nI (min (numC tb s (i - s) * 10 + tb i - 48) 10000) from min_N (by have := (htb i (by omega)).2; omega) (b := 10000) (by decide)]
        refine e_istoren d_X6_nextNumber_51 (by decide) rfl ?_
        refine e_aloadn d_X6_nextNumber_52 rfl ?_
        refine e_dup d_X6_nextNumber_53 rfl ?_
        refine e_get d_X6_nextNumber_54 f_X6_28 h_re rfl ?_
        refine e_iconst (v := 1) d_X6_nextNumber_57 (by decide) ?_
        refine e_iadd d_X6_nextNumber_58 ?_
        refine e_puti d_X6_nextNumber_59 f_X6_28 h_re (Nat.le_of_ble_eq_true rfl) ?_
        refine e_gt d_X6_nextNumber_62 ?_
        refine ih_2 (i + 1) (by omega) (by omega) _ () () () _ ?_ ?_ ?_ ?_
        · exact h_F.up (by decide)
        · first
          | exact Hs.s h_re
          | (rw [← nI_1 i]; exact Hs.s h_re)
        · refine ⟨by omega, fun j h1 h2 => ?_⟩
          by_cases e9 : j = i
          · rw [e9]; exact hb
          · exact h_p.2 j h1 (by omega)
        · rw [show i + 1 - s = i - s + 1 by omega, numC, show s + (i - s) = i by omega]
  exact hA_2 s (by omega) _ () () () _ (Fr.refl _ _) (H_re) (⟨Nat.le_refl _, fun j h1 h2 => absurd h1 (by omega)⟩) (by rw [Nat.sub_self]; rfl)

theorem tok_sg {b : Nat → Nat} {L s : Nat} (h : s < L) (h1 : isL (b s) = false) (h2 : isD (b s) = false) (h3 : ¬ ((sgn (b s) = 23 ∨ sgn (b s) = 24) ∧ s + 1 < L ∧ b (s + 1) = 61)) : tok b L s = (sgn (b s), s + 1) := by
  rw [tok, if_neg (by omega), if_neg (by rw [h1]; decide), if_neg (by rw [h2]; decide), if_neg h3]
theorem tok_e2 {b : Nat → Nat} {L s : Nat} (h : s < L) (h1 : isL (b s) = false) (h2 : isD (b s) = false) (h3 : sgn (b s) = 23 ∨ sgn (b s) = 24) (h4 : s + 1 < L) (h5 : b (s + 1) = 61) : tok b L s = (sgn (b s) - 2, s + 2) := by
  rw [tok, if_neg (by omega), if_neg (by rw [h1]; decide), if_neg (by rw [h2]; decide), if_pos ⟨h3, h4, h5⟩]

theorem s_X6_nextSign {h : AH} {tape : Nat → Int32} {tb : Nat → Nat} {L s : Nat} {rtop rop rbr rtk rsta rkin rsas rcm rflt rpl : Int32} {rtx : Value} (H_re : Hs h 22 (oRe rtop rop rbr (.ref 21) (nI L) (nI s) (nI s) rtk rsta rkin rsas rcm rtx rflt rpl)) (H_tape : Hs h 21 (aI 300 tape)) (htb : ∀ k, k < 300 → tape k = nI (tb k) ∧ tb k < 256) (hL : L ≤ 300) (hb : s < L) (h1 : isL (tb s) = false) (h2 : isD (tb s) = false) : Sp M_X6_nextSign (0, 0) h [.ref 22] (rV (fun h' => Hs h' 22 (oRe rtop rop rbr (.ref 21) (nI L) (nI (tok tb L s).2) (nI s) (nI (tok tb L s).1) rsta rkin rsas rcm rtx rflt rpl) ∧ Fr [22] h h')) := by
  refine ⟨Nat.le_of_ble_eq_true rfl, ?_⟩
  show E _ _ _ 0 h [some (.ref 22)] []
  have G_tape := H_tape
  refine e_aloadn d_X6_nextSign_0 rfl ?_
  refine e_aloadn d_X6_nextSign_1 rfl ?_
  refine e_get d_X6_nextSign_2 f_X6_15 H_re rfl ?_
  refine e_aloadn d_X6_nextSign_5 rfl ?_
  refine e_get d_X6_nextSign_6 f_X6_28 H_re rfl ?_
  refine e_ialdN (k := s) d_X6_nextSign_9 H_tape rfl (by omega) (by omega) ?_
  rw [(htb s (by omega)).1]
  refine e_callSI d_X6_nextSign_10 l_X6_nextSign_171 (s_X6_sign (htb s (by omega)).2) rfl rfl (Nat.le_of_ble_eq_true rfl) ?_
  refine e_puti d_X6_nextSign_13 f_X6_52 H_re (Nat.le_of_ble_eq_true rfl) ?_
  refine e_aloadn d_X6_nextSign_16 rfl ?_
  refine e_dup d_X6_nextSign_17 rfl ?_
  refine e_get d_X6_nextSign_18 f_X6_28 H_re.s rfl ?_
  refine e_iconst (v := 1) d_X6_nextSign_21 (by decide) ?_
  refine e_iadd d_X6_nextSign_22 ?_
  refine e_puti d_X6_nextSign_23 f_X6_28 H_re.s (Nat.le_of_ble_eq_true rfl) ?_
  obtain ⟨hg1, hg2⟩ := sgn_lt (tb s) (htb s (by omega)).2
  refine e_aloadn d_X6_nextSign_26 rfl ?_
  refine e_get d_X6_nextSign_27 f_X6_52 H_re.s.s rfl ?_
  refine e_bipush (v := 23) d_X6_nextSign_30 (by decide) ?_
  refine e_icmp_eq d_X6_nextSign_32 (fun c32 => ?_) (fun c32 => ?_)
  · have c32 := i_eq (b := 23) (by omega) (by decide) c32
    refine e_aloadn d_X6_nextSign_44 rfl ?_
    refine e_get d_X6_nextSign_45 f_X6_28 H_re.s.s rfl ?_
    refine e_aloadn d_X6_nextSign_48 rfl ?_
    refine e_get d_X6_nextSign_49 f_X6_24 H_re.s.s rfl ?_
    rw [nI_1]
    refine e_icmp_ge d_X6_nextSign_52 (fun c52 => ?_) (fun c52 => ?_)
    · have c52 := i_le (by omega) (by omega) c52
      exact e_vret d_X6_nextSign_99 rfl (⟨rfl, by first | (rw [tok_sg hb h1 h2 (by omega)]; exact Hs.s (Hs.s H_re)) | (rw [tok_sg hb h1 h2 (by omega), ← nI_1]; exact Hs.s (Hs.s H_re)) | (rw [tok_e2 hb h1 h2 (by omega) (by omega) c66, show nI (s + 2) = nI (s + 1) + 1 from (nI_1 _).symm]; first | (rw [c32]; exact Hs.s (Hs.s (Hs.s (Hs.s H_re)))) | (rw [c41]; exact Hs.s (Hs.s (Hs.s (Hs.s H_re))))), by first | exact ((Fr.refl _ _).up (by decide)).up (by decide) | exact ((((Fr.refl _ _).up (by decide)).up (by decide)).up (by decide)).up (by decide)⟩)
    · have c52 := i_nle (by omega) (by omega) c52
      refine e_aloadn d_X6_nextSign_55 rfl ?_
      refine e_get d_X6_nextSign_56 f_X6_15 H_re.s.s rfl ?_
      refine e_aloadn d_X6_nextSign_59 rfl ?_
      refine e_get d_X6_nextSign_60 f_X6_28 H_re.s.s rfl ?_
      refine e_ialdN (k := (s + 1)) d_X6_nextSign_63 ((H_tape.n (by decide)).n (by decide)) rfl (by omega) (by omega) ?_
      refine e_bipush (v := 61) d_X6_nextSign_64 (by decide) ?_
      rw [(htb (s + 1) (by omega)).1]
      have hb61 := (htb (s + 1) (by omega)).2
      refine e_icmp_ne d_X6_nextSign_66 (fun c66 => ?_) (fun c66 => ?_)
      · have c66 : ¬ tb (s + 1) = 61 := fun z => c66 (by rw [z]; rfl)
        exact e_vret d_X6_nextSign_99 rfl (⟨rfl, by first | (rw [tok_sg hb h1 h2 (by omega)]; exact Hs.s (Hs.s H_re)) | (rw [tok_sg hb h1 h2 (by omega), ← nI_1]; exact Hs.s (Hs.s H_re)) | (rw [tok_e2 hb h1 h2 (by omega) (by omega) c66, show nI (s + 2) = nI (s + 1) + 1 from (nI_1 _).symm]; first | (rw [c32]; exact Hs.s (Hs.s (Hs.s (Hs.s H_re)))) | (rw [c41]; exact Hs.s (Hs.s (Hs.s (Hs.s H_re))))), by first | exact ((Fr.refl _ _).up (by decide)).up (by decide) | exact ((((Fr.refl _ _).up (by decide)).up (by decide)).up (by decide)).up (by decide)⟩)
      · have c66 := i_eq (b := 61) (by omega) (by decide) c66
        refine e_aloadn d_X6_nextSign_69 rfl ?_
        refine e_aloadn d_X6_nextSign_70 rfl ?_
        refine e_get d_X6_nextSign_71 f_X6_52 H_re.s.s rfl ?_
        refine e_bipush (v := 23) d_X6_nextSign_74 (by decide) ?_
        refine e_icmp_ne d_X6_nextSign_76 (fun z => by first | exact absurd (fun z => z (by rw [c32]; rfl)) z | exact absurd z (fun z => z (by rw [c32]; rfl))) (fun _ => ?_)
        refine e_bipush (v := 21) d_X6_nextSign_79 (by decide) ?_
        refine e_gt d_X6_nextSign_81 ?_
        refine e_puti d_X6_nextSign_86 f_X6_52 H_re.s.s (Nat.le_of_ble_eq_true rfl) ?_
        refine e_aloadn d_X6_nextSign_89 rfl ?_
        refine e_dup d_X6_nextSign_90 rfl ?_
        refine e_get d_X6_nextSign_91 f_X6_28 H_re.s.s.s rfl ?_
        refine e_iconst (v := 1) d_X6_nextSign_94 (by decide) ?_
        refine e_iadd d_X6_nextSign_95 ?_
        refine e_puti d_X6_nextSign_96 f_X6_28 H_re.s.s.s (Nat.le_of_ble_eq_true rfl) ?_
        exact e_vret d_X6_nextSign_99 rfl (⟨rfl, by first | (rw [tok_sg hb h1 h2 (by omega)]; exact Hs.s (Hs.s H_re)) | (rw [tok_sg hb h1 h2 (by omega), ← nI_1]; exact Hs.s (Hs.s H_re)) | (rw [tok_e2 hb h1 h2 (by omega) (by omega) c66, show nI (s + 2) = nI (s + 1) + 1 from (nI_1 _).symm]; first | (rw [c32]; exact Hs.s (Hs.s (Hs.s (Hs.s H_re)))) | (rw [c41]; exact Hs.s (Hs.s (Hs.s (Hs.s H_re))))), by first | exact ((Fr.refl _ _).up (by decide)).up (by decide) | exact ((((Fr.refl _ _).up (by decide)).up (by decide)).up (by decide)).up (by decide)⟩)
  · have c32 : ¬ sgn (tb s) = 23 := fun z => c32 (by rw [z]; rfl)
    refine e_aloadn d_X6_nextSign_35 rfl ?_
    refine e_get d_X6_nextSign_36 f_X6_52 H_re.s.s rfl ?_
    refine e_bipush (v := 24) d_X6_nextSign_39 (by decide) ?_
    refine e_icmp_ne d_X6_nextSign_41 (fun c41 => ?_) (fun c41 => ?_)
    · have c41 : ¬ sgn (tb s) = 24 := fun z => c41 (by rw [z]; rfl)
      exact e_vret d_X6_nextSign_99 rfl (⟨rfl, by first | (rw [tok_sg hb h1 h2 (by omega)]; exact Hs.s (Hs.s H_re)) | (rw [tok_sg hb h1 h2 (by omega), ← nI_1]; exact Hs.s (Hs.s H_re)) | (rw [tok_e2 hb h1 h2 (by omega) (by omega) c66, show nI (s + 2) = nI (s + 1) + 1 from (nI_1 _).symm]; first | (rw [c32]; exact Hs.s (Hs.s (Hs.s (Hs.s H_re)))) | (rw [c41]; exact Hs.s (Hs.s (Hs.s (Hs.s H_re))))), by first | exact ((Fr.refl _ _).up (by decide)).up (by decide) | exact ((((Fr.refl _ _).up (by decide)).up (by decide)).up (by decide)).up (by decide)⟩)
    · have c41 := i_eq (b := 24) (by omega) (by decide) c41
      refine e_aloadn d_X6_nextSign_44 rfl ?_
      refine e_get d_X6_nextSign_45 f_X6_28 H_re.s.s rfl ?_
      refine e_aloadn d_X6_nextSign_48 rfl ?_
      refine e_get d_X6_nextSign_49 f_X6_24 H_re.s.s rfl ?_
      rw [nI_1]
      refine e_icmp_ge d_X6_nextSign_52 (fun c52 => ?_) (fun c52 => ?_)
      · have c52 := i_le (by omega) (by omega) c52
        exact e_vret d_X6_nextSign_99 rfl (⟨rfl, by first | (rw [tok_sg hb h1 h2 (by omega)]; exact Hs.s (Hs.s H_re)) | (rw [tok_sg hb h1 h2 (by omega), ← nI_1]; exact Hs.s (Hs.s H_re)) | (rw [tok_e2 hb h1 h2 (by omega) (by omega) c66, show nI (s + 2) = nI (s + 1) + 1 from (nI_1 _).symm]; first | (rw [c32]; exact Hs.s (Hs.s (Hs.s (Hs.s H_re)))) | (rw [c41]; exact Hs.s (Hs.s (Hs.s (Hs.s H_re))))), by first | exact ((Fr.refl _ _).up (by decide)).up (by decide) | exact ((((Fr.refl _ _).up (by decide)).up (by decide)).up (by decide)).up (by decide)⟩)
      · have c52 := i_nle (by omega) (by omega) c52
        refine e_aloadn d_X6_nextSign_55 rfl ?_
        refine e_get d_X6_nextSign_56 f_X6_15 H_re.s.s rfl ?_
        refine e_aloadn d_X6_nextSign_59 rfl ?_
        refine e_get d_X6_nextSign_60 f_X6_28 H_re.s.s rfl ?_
        refine e_ialdN (k := (s + 1)) d_X6_nextSign_63 ((H_tape.n (by decide)).n (by decide)) rfl (by omega) (by omega) ?_
        refine e_bipush (v := 61) d_X6_nextSign_64 (by decide) ?_
        rw [(htb (s + 1) (by omega)).1]
        have hb61 := (htb (s + 1) (by omega)).2
        refine e_icmp_ne d_X6_nextSign_66 (fun c66 => ?_) (fun c66 => ?_)
        · have c66 : ¬ tb (s + 1) = 61 := fun z => c66 (by rw [z]; rfl)
          exact e_vret d_X6_nextSign_99 rfl (⟨rfl, by first | (rw [tok_sg hb h1 h2 (by omega)]; exact Hs.s (Hs.s H_re)) | (rw [tok_sg hb h1 h2 (by omega), ← nI_1]; exact Hs.s (Hs.s H_re)) | (rw [tok_e2 hb h1 h2 (by omega) (by omega) c66, show nI (s + 2) = nI (s + 1) + 1 from (nI_1 _).symm]; first | (rw [c32]; exact Hs.s (Hs.s (Hs.s (Hs.s H_re)))) | (rw [c41]; exact Hs.s (Hs.s (Hs.s (Hs.s H_re))))), by first | exact ((Fr.refl _ _).up (by decide)).up (by decide) | exact ((((Fr.refl _ _).up (by decide)).up (by decide)).up (by decide)).up (by decide)⟩)
        · have c66 := i_eq (b := 61) (by omega) (by decide) c66
          refine e_aloadn d_X6_nextSign_69 rfl ?_
          refine e_aloadn d_X6_nextSign_70 rfl ?_
          refine e_get d_X6_nextSign_71 f_X6_52 H_re.s.s rfl ?_
          refine e_bipush (v := 23) d_X6_nextSign_74 (by decide) ?_
          refine e_icmp_ne d_X6_nextSign_76 (fun _ => ?_) (fun z => by first | exact absurd (fun z => absurd ((nI_eq (b := 23) (by omega) (by decide)).mp z) (by omega)) z | exact absurd z (fun z => absurd ((nI_eq (b := 23) (by omega) (by decide)).mp z) (by omega)))
          refine e_bipush (v := 22) d_X6_nextSign_84 (by decide) ?_
          refine e_puti d_X6_nextSign_86 f_X6_52 H_re.s.s (Nat.le_of_ble_eq_true rfl) ?_
          refine e_aloadn d_X6_nextSign_89 rfl ?_
          refine e_dup d_X6_nextSign_90 rfl ?_
          refine e_get d_X6_nextSign_91 f_X6_28 H_re.s.s.s rfl ?_
          refine e_iconst (v := 1) d_X6_nextSign_94 (by decide) ?_
          refine e_iadd d_X6_nextSign_95 ?_
          refine e_puti d_X6_nextSign_96 f_X6_28 H_re.s.s.s (Nat.le_of_ble_eq_true rfl) ?_
          exact e_vret d_X6_nextSign_99 rfl (⟨rfl, by first | (rw [tok_sg hb h1 h2 (by omega)]; exact Hs.s (Hs.s H_re)) | (rw [tok_sg hb h1 h2 (by omega), ← nI_1]; exact Hs.s (Hs.s H_re)) | (rw [tok_e2 hb h1 h2 (by omega) (by omega) c66, show nI (s + 2) = nI (s + 1) + 1 from (nI_1 _).symm]; first | (rw [c32]; exact Hs.s (Hs.s (Hs.s (Hs.s H_re)))) | (rw [c41]; exact Hs.s (Hs.s (Hs.s (Hs.s H_re))))), by first | exact ((Fr.refl _ _).up (by decide)).up (by decide) | exact ((((Fr.refl _ _).up (by decide)).up (by decide)).up (by decide)).up (by decide)⟩)

theorem tok_end {b : Nat → Nat} {L s : Nat} (h : L ≤ s) : tok b L s = (35, s) := by rw [tok, if_pos h]
theorem tok_w {b : Nat → Nat} {L s : Nat} (h : s < L) (h1 : isL (b s) = true) : tok b L s = (wc (wdS b s (run isL b L s)), run isL b L s) := by
  rw [tok, if_neg (by omega), if_pos h1]
theorem tok_n {b : Nat → Nat} {L s : Nat} (h : s < L) (h1 : isL (b s) = false) (h2 : isD (b s) = true) : tok b L s = (100 + numC b s (run isD b L s - s), run isD b L s) := by
  rw [tok, if_neg (by omega), if_neg (by rw [h1]; decide), if_pos h2]

theorem s_X6_next {h : AH} {tape : Nat → Int32} {tb : Nat → Nat} {L a : Nat} {rtop rop rbr rst rtk rsta rkin rsas rcm rflt rpl : Int32} {rtx : Value} (H_re : Hs h 22 (oRe rtop rop rbr (.ref 21) (nI L) (nI a) rst rtk rsta rkin rsas rcm rtx rflt rpl)) (H_tape : Hs h 21 (aI 300 tape)) (htb : ∀ k, k < 300 → tape k = nI (tb k) ∧ tb k < 256) (ha : a ≤ L) (hL : L ≤ 300) : Sp M_X6_next (0, 0) h [.ref 22] (rV (fun h' => Hs h' 22 (oRe rtop rop rbr (.ref 21) (nI L) (nI (tok tb L (run isB tb L a)).2) (nI (run isB tb L a)) (nI (tok tb L (run isB tb L a)).1) rsta rkin rsas rcm rtx rflt rpl) ∧ Fr [22] h h')) := by
  refine ⟨Nat.le_of_ble_eq_true rfl, ?_⟩
  show E _ _ _ 0 h [some (.ref 22)] []
  have G_tape := H_tape
  have hA_0 : ∀ i, i ≤ L → ∀ (k : AH) (F : Unit) (re : Unit) (p : Unit), (Fr [22] h k) → (Hs k 22 (oRe rtop rop rbr (.ref 21) (nI L) (nI i) rst rtk rsta rkin rsas rcm rtx rflt rpl)) → (a ≤ i ∧ ∀ j, a ≤ j → j < i → isB (tb j) = true) → E M_X6_next (0, 0) (rV (fun h' => Hs h' 22 (oRe rtop rop rbr (.ref 21) (nI L) (nI (tok tb L (run isB tb L a)).2) (nI (run isB tb L a)) (nI (tok tb L (run isB tb L a)).1) rsta rkin rsas rcm rtx rflt rpl) ∧ Fr [22] h h')) 0 (k) [some (.ref 22)] [] := by
    refine loop_ind (n := L) ?_
    intro i hi_i ih_0 k F re p h_F h_re h_p
    have H_tape := h_F.hs G_tape (by decide)
    refine e_aloadn d_X6_next_0 rfl ?_
    refine e_get d_X6_next_1 f_X6_28 h_re rfl ?_
    refine e_aloadn d_X6_next_4 rfl ?_
    refine e_get d_X6_next_5 f_X6_24 h_re rfl ?_
    refine e_icmp_ge d_X6_next_8 (fun c => ?_) (fun c => ?_)
    · have c := i_le (by omega) (by omega) c
      have ee : i = (run isB tb L a) := run_end h_p.1 hi_i h_p.2 (Or.inl (by omega))
      refine e_aloadn d_X6_next_52 rfl ?_
      refine e_aloadn d_X6_next_53 rfl ?_
      refine e_get d_X6_next_54 f_X6_28 h_re rfl ?_
      refine e_puti d_X6_next_57 f_X6_70 h_re (Nat.le_of_ble_eq_true rfl) ?_
      refine e_aloadn d_X6_next_60 rfl ?_
      refine e_get d_X6_next_61 f_X6_28 h_re.s rfl ?_
      refine e_aloadn d_X6_next_64 rfl ?_
      refine e_get d_X6_next_65 f_X6_24 h_re.s rfl ?_
      refine e_icmp_lt d_X6_next_68 (fun z => by first | exact absurd (fun z => absurd (i_lt (by omega) (by omega) z) (by omega)) z | exact absurd z (fun z => absurd (i_lt (by omega) (by omega) z) (by omega))) (fun _ => ?_)
      refine e_aloadn d_X6_next_71 rfl ?_
      refine e_bipush (v := 35) d_X6_next_72 (by decide) ?_
      refine e_puti d_X6_next_74 f_X6_52 h_re.s (Nat.le_of_ble_eq_true rfl) ?_
      refine e_gt d_X6_next_77 ?_
      exact e_vret d_X6_next_128 rfl (⟨rfl, by rw [← ee]; first | (rw [tok_end (by omega)]; exact Hs.s (Hs.s h_re)) | (rw [tok_w c hl9]; exact H_re9) | (rw [tok_n c hl9 hd9]; exact H_re9) | exact H_re9, by first | exact (h_F.up (by decide)).up (by decide) | exact (h_F.up (by decide)).trans fr_9⟩)
    · have c := i_nle (by omega) (by omega) c
      refine e_aloadn d_X6_next_11 rfl ?_
      refine e_get d_X6_next_12 f_X6_15 h_re rfl ?_
      refine e_aloadn d_X6_next_15 rfl ?_
      refine e_get d_X6_next_16 f_X6_28 h_re rfl ?_
      refine e_ialdN (k := i) d_X6_next_19 H_tape rfl (by omega) (by omega) ?_
      refine e_bipush (v := 32) d_X6_next_20 (by decide) ?_
      rw [(htb i (by omega)).1]
      have hb8 := (htb i (by omega)).2
      refine e_icmp_eq d_X6_next_22 (fun c22 => ?_) (fun c22 => ?_)
      · have hb : isB (tb i) = true := decide_eq_true (Or.inl (i_eq (b := 32) (by omega) (by decide) c22))
        refine e_aloadn d_X6_next_39 rfl ?_
        refine e_dup d_X6_next_40 rfl ?_
        refine e_get d_X6_next_41 f_X6_28 h_re rfl ?_
        refine e_iconst (v := 1) d_X6_next_44 (by decide) ?_
        refine e_iadd d_X6_next_45 ?_
        refine e_puti d_X6_next_46 f_X6_28 h_re (Nat.le_of_ble_eq_true rfl) ?_
        refine e_gt d_X6_next_49 ?_
        refine ih_0 (i + 1) (by omega) (by omega) _ () () () ?_ ?_ ?_
        · exact h_F.up (by decide)
        · first
          | exact Hs.s h_re
          | (rw [← nI_1 i]; exact Hs.s h_re)
        · refine ⟨by omega, fun j h1 h2 => ?_⟩
          by_cases e9 : j = i
          · rw [e9]; exact hb
          · exact h_p.2 j h1 (by omega)
      · have c22 : ¬ tb i = 32 := fun z => c22 (by rw [z]; rfl)
        refine e_aloadn d_X6_next_25 rfl ?_
        refine e_get d_X6_next_26 f_X6_15 h_re rfl ?_
        refine e_aloadn d_X6_next_29 rfl ?_
        refine e_get d_X6_next_30 f_X6_28 h_re rfl ?_
        refine e_ialdN (k := i) d_X6_next_33 H_tape rfl (by omega) (by omega) ?_
        refine e_bipush (v := 10) d_X6_next_34 (by decide) ?_
        rw [(htb i (by omega)).1]
        refine e_icmp_ne d_X6_next_36 (fun c36 => ?_) (fun c36 => ?_)
        · have c36 : ¬ tb i = 10 := fun z => c36 (by rw [z]; rfl)
          have hb : isB (tb i) = false := decide_eq_false (by omega)
          have ee : i = (run isB tb L a) := run_end h_p.1 hi_i h_p.2 (Or.inr hb)
          refine e_aloadn d_X6_next_52 rfl ?_
          refine e_aloadn d_X6_next_53 rfl ?_
          refine e_get d_X6_next_54 f_X6_28 h_re rfl ?_
          refine e_puti d_X6_next_57 f_X6_70 h_re (Nat.le_of_ble_eq_true rfl) ?_
          refine e_aloadn d_X6_next_60 rfl ?_
          refine e_get d_X6_next_61 f_X6_28 h_re.s rfl ?_
          refine e_aloadn d_X6_next_64 rfl ?_
          refine e_get d_X6_next_65 f_X6_24 h_re.s rfl ?_
          refine e_icmp_lt d_X6_next_68 (fun _ => ?_) (fun z => by first | exact absurd ((nI_ltI (by omega) (by omega)).mpr c) z | exact absurd z ((nI_ltI (by omega) (by omega)).mpr c))
          refine e_aloadn d_X6_next_80 rfl ?_
          refine e_get d_X6_next_81 f_X6_15 h_re.s rfl ?_
          refine e_aloadn d_X6_next_84 rfl ?_
          refine e_get d_X6_next_85 f_X6_28 h_re.s rfl ?_
          refine e_ialdN (k := i) d_X6_next_88 (H_tape.n (by decide)) rfl (by omega) (by omega) ?_
          rw [(htb i (by omega)).1]
          have hb8 := (htb i (by omega)).2
          refine e_callSI d_X6_next_89 l_X6_next_141 (s_X6_isLetter (htb i (by omega)).2) rfl rfl (Nat.le_of_ble_eq_true rfl) ?_
          refine e_if_eq d_X6_next_92 (fun c92 => ?_) (fun c92 => ?_)
          · have hl9 := Bool.eq_false_iff.mpr (bI_0.mp c92)
            refine e_aloadn d_X6_next_102 rfl ?_
            refine e_get d_X6_next_103 f_X6_15 h_re.s rfl ?_
            refine e_aloadn d_X6_next_106 rfl ?_
            refine e_get d_X6_next_107 f_X6_28 h_re.s rfl ?_
            refine e_ialdN (k := i) d_X6_next_110 (H_tape.n (by decide)) rfl (by omega) (by omega) ?_
            rw [(htb i (by omega)).1]
            refine e_callSI d_X6_next_111 l_X6_next_147 (s_X6_isDigit (htb i (by omega)).2) rfl rfl (Nat.le_of_ble_eq_true rfl) ?_
            refine e_if_eq d_X6_next_114 (fun c114 => ?_) (fun c114 => ?_)
            · have hd9 := Bool.eq_false_iff.mpr (bI_0.mp c114)
              refine e_aloadn d_X6_next_124 rfl ?_
              refine e_callRVV d_X6_next_125 l_X6_next_153 h_re.s rfl rfl (s_X6_nextSign h_re.s (H_tape.n (by decide)) htb hL c hl9 hd9) rfl rfl (Nat.le_of_ble_eq_true rfl) (fun h_9 q_9 s_9 => ?_)
              obtain ⟨H_re9, fr_9⟩ := q_9
              have H_tape := fr_9.hs (H_tape.n (by decide)) (by first | decide | (simp; omega))
              exact e_vret d_X6_next_128 rfl (⟨rfl, by rw [← ee]; first | (rw [tok_end (by omega)]; exact Hs.s (Hs.s h_re)) | (rw [tok_w c hl9]; exact H_re9) | (rw [tok_n c hl9 hd9]; exact H_re9) | exact H_re9, by first | exact (h_F.up (by decide)).up (by decide) | exact (h_F.up (by decide)).trans fr_9⟩)
            · have hd9 := bI_1.mp (bI_z.resolve_left c114)
              refine e_aloadn d_X6_next_117 rfl ?_
              refine e_callRVV d_X6_next_118 l_X6_next_150 h_re.s rfl rfl (s_X6_nextNumber h_re.s (H_tape.n (by decide)) htb (by omega) hL) rfl rfl (Nat.le_of_ble_eq_true rfl) (fun h_9 q_9 s_9 => ?_)
              obtain ⟨H_re9, fr_9⟩ := q_9
              have H_tape := fr_9.hs (H_tape.n (by decide)) (by first | decide | (simp; omega))
              refine e_gt d_X6_next_121 ?_
              exact e_vret d_X6_next_128 rfl (⟨rfl, by rw [← ee]; first | (rw [tok_end (by omega)]; exact Hs.s (Hs.s h_re)) | (rw [tok_w c hl9]; exact H_re9) | (rw [tok_n c hl9 hd9]; exact H_re9) | exact H_re9, by first | exact (h_F.up (by decide)).up (by decide) | exact (h_F.up (by decide)).trans fr_9⟩)
          · have hl9 := bI_1.mp (bI_z.resolve_left c92)
            refine e_aloadn d_X6_next_95 rfl ?_
            refine e_callRVV d_X6_next_96 l_X6_next_144 h_re.s rfl rfl (s_X6_nextWord h_re.s (H_tape.n (by decide)) htb (by omega) hL) rfl rfl (Nat.le_of_ble_eq_true rfl) (fun h_9 q_9 s_9 => ?_)
            obtain ⟨H_re9, fr_9⟩ := q_9
            have H_tape := fr_9.hs (H_tape.n (by decide)) (by first | decide | (simp; omega))
            refine e_gt d_X6_next_99 ?_
            exact e_vret d_X6_next_128 rfl (⟨rfl, by rw [← ee]; first | (rw [tok_end (by omega)]; exact Hs.s (Hs.s h_re)) | (rw [tok_w c hl9]; exact H_re9) | (rw [tok_n c hl9 hd9]; exact H_re9) | exact H_re9, by first | exact (h_F.up (by decide)).up (by decide) | exact (h_F.up (by decide)).trans fr_9⟩)
        · have hb : isB (tb i) = true := decide_eq_true (Or.inr (i_eq (b := 10) (by omega) (by decide) c36))
          refine e_aloadn d_X6_next_39 rfl ?_
          refine e_dup d_X6_next_40 rfl ?_
          refine e_get d_X6_next_41 f_X6_28 h_re rfl ?_
          refine e_iconst (v := 1) d_X6_next_44 (by decide) ?_
          refine e_iadd d_X6_next_45 ?_
          refine e_puti d_X6_next_46 f_X6_28 h_re (Nat.le_of_ble_eq_true rfl) ?_
          refine e_gt d_X6_next_49 ?_
          refine ih_0 (i + 1) (by omega) (by omega) _ () () () ?_ ?_ ?_
          · exact h_F.up (by decide)
          · first
            | exact Hs.s h_re
            | (rw [← nI_1 i]; exact Hs.s h_re)
          · refine ⟨by omega, fun j h1 h2 => ?_⟩
            by_cases e9 : j = i
            · rw [e9]; exact hb
            · exact h_p.2 j h1 (by omega)
  exact hA_0 a (by omega) _ () () () (Fr.refl _ _) (H_re) (⟨Nat.le_refl _, fun j h1 h2 => absurd h1 (by omega)⟩)
