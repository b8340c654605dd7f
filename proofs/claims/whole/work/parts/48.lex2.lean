/-! THE MODEL: TOKENS -/
/-- a byte as the model reads it -/
def sbI (b : Nat) : Int32 := if b < 128 then nI b else Int32.ofInt ((b : Int) - 256)
theorem sb_pos {b : Nat} (h : b < 128) : sbI b = nI b := by rw [sbI, if_pos h]
theorem sb_tbl : ∀ b, b < 256 → (sbI b).toInt = (if b < 128 then (b : Int) else (b : Int) - 256) := by decide +kernel
theorem sb_in {b lo hi : Nat} (hb : b < 256) (h1 : 1 ≤ lo) (h2 : hi < 128) (h3 : lo < 128) : (nI lo ≤ sbI b ∧ sbI b ≤ nI hi) ↔ (lo ≤ b ∧ b ≤ hi) := by
  rw [Int32.le_iff_toInt_le, Int32.le_iff_toInt_le, sb_tbl b hb, nI_tI lo (by omega), nI_tI hi (by omega)]
  split <;> omega
theorem sb_eq {b k : Nat} (hb : b < 256) (hk : k < 128) : sbI b = nI k ↔ b = k := by
  rw [← Int32.toInt_inj, sb_tbl b hb, nI_tI k (by omega)]
  split <;> omega
/-- a token's number among the model's words, signs -/
def mccL : List Nat := [14, 15, 16, 17, 18, 19, 20, 13, 12, 11, 0, 1, 2, 3, 4, 5, 6, 7, 8, 9, 10]
def mcc (w : Nat) : Nat := mccL.getD w 36
def mkL : List Nat := [11934649, 12212338, 914804069, 231970744469874, 566369460, 12544370, 650075044, 3058, 138148, 191476, 211320, 227956, 10681189, 935275251, 13524514, 14589218, 683596130, 59857616098, 165988, 137701, 9644151]
def mk (w : Nat) : Nat := mkL.getD w 0
def msg (t : Nat) : Nat := if t = 21 then 300 else if t = 22 then 301 else if t = 23 then 60 else if t = 24 then 62 else if t = 25 then 61 else if t = 26 then 35 else if t = 27 then 43 else if t = 28 then 45 else if t = 29 then 42 else if t = 30 then 47 else if t = 32 then 40 else if t = 33 then 41 else if t = 34 then 59 else 0
def numG (f : Nat → Nat) : Nat → Nat
  | 0 => 0
  | k + 1 => 64 * numG f k + (f k - 64)
theorem mk_ok : ∀ w, w < 21 → mk w = numG (fun k => (wwd (mcc w)).getD k 0) (wwd (mcc w)).length ∧ (wwd (mcc w)).length ≤ 8 ∧ mcc w < 21 := by decide +kernel
theorem mk_let : ∀ c, c < 21 → ∀ k, k < (wwd c).length → isL ((wwd c).getD k 0) = true := by decide +kernel
theorem mcc_sur : ∀ c, c < 21 → ∃ w, w < 21 ∧ mcc w = c := by decide +kernel
theorem isL_in {b : Nat} (h : isL b = true) : 65 ≤ b ∧ b < 127 := by have := of_decide_eq_true h; omega
theorem numG_inj {f g : Nat → Nat} : ∀ n m, (∀ k, k < n → isL (f k) = true) → (∀ k, k < m → isL (g k) = true) → numG f n = numG g m → n = m ∧ ∀ k, k < n → f k = g k
  | 0, 0, _, _, _ => ⟨rfl, fun k hk => by omega⟩
  | 0, m + 1, _, hg, h => by
    have := isL_in (hg m (Nat.lt_succ_self m))
    simp only [numG] at h; omega
  | n + 1, 0, hf, _, h => by
    have := isL_in (hf n (Nat.lt_succ_self n))
    simp only [numG] at h; omega
  | n + 1, m + 1, hf, hg, h => by
    have h1 := isL_in (hf n (Nat.lt_succ_self n))
    have h2 := isL_in (hg m (Nat.lt_succ_self m))
    simp only [numG] at h
    obtain ⟨e, q⟩ := numG_inj n m (fun k hk => hf k (by omega)) (fun k hk => hg k (by omega)) (by omega)
    subst e
    refine ⟨rfl, fun k hk => ?_⟩
    by_cases e : k = n
    · subst e; omega
    · exact q k (by omega)
theorem numG_lt {f : Nat → Nat} : ∀ n, (∀ k, k < n → isL (f k) = true) → numG f n < 64 ^ n
  | 0, _ => by simp [numG]
  | n + 1, h => by
    have h1 := isL_in (h n (Nat.lt_succ_self n))
    have h2 := numG_lt n (fun k hk => h k (by omega))
    simp only [numG]
    rw [Nat.pow_succ]; omega
theorem wds_len {b : Nat → Nat} {s e : Nat} : (wdS b s e).length = e - s := by simp [wdS]
theorem wds_get {b : Nat → Nat} {s e k : Nat} (h : k < e - s) : (wdS b s e).getD k 0 = b (s + k) := by
  simp [wdS, List.getD_eq_getElem?_getD, h]
theorem ext_d {l l' : List Nat} (hl : l.length = l'.length) (h : ∀ k, k < l.length → l.getD k 0 = l'.getD k 0) : l = l' := by
  refine List.ext_getElem hl (fun k h1 h2 => ?_)
  have := h k h1
  simpa [List.getD_eq_getElem?_getD, h1, h2] using this
/-- what the number of the letters says -/
theorem wc_num {b : Nat → Nat} {s e : Nat} (hL : ∀ k, s ≤ k → k < e → isL (b k) = true) {w : Nat} (hw : w < 21) (h : numG (fun k => b (s + k)) (e - s) = mk w) : wc (wdS b s e) = mcc w := by
  obtain ⟨h1, h2, h3⟩ := mk_ok w hw
  rw [h1] at h
  obtain ⟨q1, q2⟩ := numG_inj _ _ (fun k hk => hL (s + k) (by omega) (by omega)) (mk_let _ h3) h
  refine wc_is h3 (ext_d (by rw [wds_len]; exact q1.symm) (fun k hk => ?_))
  rw [wds_get (by omega)]
  exact (q2 k (by omega)).symm
theorem wc_non {b : Nat → Nat} {s e : Nat} (h : ∀ w, w < 21 → ¬ numG (fun k => b (s + k)) (e - s) = mk w) : wc (wdS b s e) = 36 := by
  refine wc_no (fun c hc q => ?_)
  obtain ⟨w, hw, rfl⟩ := mcc_sur c hc
  obtain ⟨h1, h2, h3⟩ := mk_ok w hw
  refine h w hw ?_
  rw [h1, q, wds_len]
  have : ∀ n, n ≤ e - s → numG (fun k => b (s + k)) n = numG (fun k => (wdS b s e).getD k 0) n := by
    intro n
    induction n with
    | zero => intro _; rfl
    | succ n ih => intro hn; simp only [numG]; rw [ih (by omega), wds_get (by omega)]
  exact this _ (Nat.le_refl _)
theorem wc_long {b : Nat → Nat} {s e : Nat} (h : 8 < e - s) : wc (wdS b s e) = 36 := by
  refine wc_no (fun c hc q => ?_)
  obtain ⟨w, hw, rfl⟩ := mcc_sur c hc
  obtain ⟨h1, h2, h3⟩ := mk_ok w hw
  have := congrArg List.length q
  rw [wds_len] at this; omega
/-- a token as the model has it -/
def TkM (t : Nat) (so to : Int32) : Prop :=
  (t = 35 ∧ so = 0) ∨ (100 ≤ t ∧ so = 2 ∧ ∃ v, to = nI v ∧ v ≤ 999999 ∧ t = 100 + min v 10000) ∨ (∃ w, w < 21 ∧ t = mcc w ∧ so = 1 ∧ to = nI w) ∨ (21 ≤ t ∧ t ≤ 34 ∧ t ≠ 31 ∧ so = 3 ∧ to = nI (msg t)) ∨ (t = 36 ∧ (so = 4 ∨ (so = 3 ∧ to = 44)))
theorem sg_t1 : ∀ b, b < 256 → ¬ sgn b = 36 → sgn b ≤ 34 ∧ sgn b ≠ 31 ∧ msg (sgn b) = b := by decide +kernel
theorem sg_t2 : ∀ b, b < 256 → ¬ sgn b = 36 → ((59 ≤ b ∧ b ≤ 62) ∨ (40 ≤ b ∧ b ≤ 45) ∨ b = 47 ∨ b = 35) := by decide +kernel
theorem sg_t3 : ∀ b, b < 256 → sgn b = 36 → (59 ≤ b ∧ b ≤ 62) ∨ (40 ≤ b ∧ b ≤ 45) ∨ b = 47 ∨ b = 35 → b = 44 := by decide +kernel
theorem sg_t4 : ∀ b, b < 256 → ((sgn b = 23 ↔ b = 60) ∧ (sgn b = 24 ↔ b = 62)) := by decide +kernel
theorem sg_tbl (b : Nat) (hb : b < 256) : (¬ sgn b = 36 → sgn b ≤ 34 ∧ sgn b ≠ 31 ∧ msg (sgn b) = b ∧ ((59 ≤ b ∧ b ≤ 62) ∨ (40 ≤ b ∧ b ≤ 45) ∨ b = 47 ∨ b = 35)) ∧ (sgn b = 36 → (59 ≤ b ∧ b ≤ 62) ∨ (40 ≤ b ∧ b ≤ 45) ∨ b = 47 ∨ b = 35 → b = 44) ∧ (sgn b = 23 ↔ b = 60) ∧ (sgn b = 24 ↔ b = 62) :=
  ⟨fun h => ⟨(sg_t1 b hb h).1, (sg_t1 b hb h).2.1, (sg_t1 b hb h).2.2, sg_t2 b hb h⟩, sg_t3 b hb, (sg_t4 b hb).1, (sg_t4 b hb).2⟩
theorem tkm_sg {b : Nat} (hb : b < 256) (h : (59 ≤ b ∧ b ≤ 62) ∨ (40 ≤ b ∧ b ≤ 45) ∨ b = 47 ∨ b = 35) : TkM (sgn b) 3 (sbI b) := by
  obtain ⟨h1, h2, -⟩ := sg_tbl b hb
  have hg := (sgn_lt b hb).2
  by_cases e : sgn b = 36
  · have := h2 e h
    subst this
    exact Or.inr (Or.inr (Or.inr (Or.inr ⟨e, Or.inr ⟨rfl, rfl⟩⟩)))
  · obtain ⟨g1, g2, g3, -⟩ := h1 e
    exact Or.inr (Or.inr (Or.inr (Or.inl ⟨by omega, g1, g2, rfl, by rw [g3, sb_pos (by omega)]⟩)))
theorem tkm_bad {b : Nat} {to : Int32} (hb : b < 256) (h : ¬ ((59 ≤ b ∧ b ≤ 62) ∨ (40 ≤ b ∧ b ≤ 45) ∨ b = 47 ∨ b = 35)) : TkM (sgn b) 4 to := by
  obtain ⟨h1, h2, -⟩ := sg_tbl b hb
  have e : sgn b = 36 := Decidable.byContradiction (fun e => h (h1 e).2.2.2)
  exact Or.inr (Or.inr (Or.inr (Or.inr ⟨e, Or.inl rfl⟩)))

theorem s_X11_isLetter {h : AH} {b : Nat} (hb : b < 256) : Sp M_X11_isLetter (0, 0) h [.int (sbI b)] (pI (bI (isL b = true)) h) := by
  refine ⟨Nat.le_of_ble_eq_true rfl, ?_⟩
  show E _ _ _ 0 h [some (.int (sbI b))] []
  refine e_iloadn d_X11_isLetter_0 rfl ?_
  refine e_bipush (v := 97) d_X11_isLetter_1 (by decide) ?_
  refine e_bipush (v := 122) d_X11_isLetter_3 (by decide) ?_
  refine e_callSI d_X11_isLetter_5 l_X11_isLetter_101 (s_X11_in) rfl rfl (Nat.le_of_ble_eq_true rfl) ?_
  refine e_if_ne d_X11_isLetter_8 (fun c8 => ?_) (fun c8 => ?_)
  · have c8 := (sb_in (lo := 97) (hi := 122) hb (by decide) (by decide) (by decide)).mp (bI_1.mp (bI_z.resolve_left c8))
    refine e_iconst (v := 1) d_X11_isLetter_22 (by decide) ?_
    refine e_gt d_X11_isLetter_23 ?_
    exact e_iret d_X11_isLetter_27 rfl (rfl) (⟨by first | (rw [bI_t (by simp only [isL, decide_eq_true_eq]; omega)]; done) | (rw [bI_f (by simp only [isL, decide_eq_true_eq]; omega)]; done), rfl⟩)
  · have c8 : ¬ (97 ≤ b ∧ b ≤ 122) := fun z => bI_0.mp c8 ((sb_in (lo := 97) (hi := 122) hb (by decide) (by decide) (by decide)).mpr z)
    refine e_iloadn d_X11_isLetter_11 rfl ?_
    refine e_bipush (v := 65) d_X11_isLetter_12 (by decide) ?_
    refine e_bipush (v := 90) d_X11_isLetter_14 (by decide) ?_
    refine e_callSI d_X11_isLetter_16 l_X11_isLetter_101 (s_X11_in) rfl rfl (Nat.le_of_ble_eq_true rfl) ?_
    refine e_if_eq d_X11_isLetter_19 (fun c19 => ?_) (fun c19 => ?_)
    · have c19 : ¬ (65 ≤ b ∧ b ≤ 90) := fun z => bI_0.mp c19 ((sb_in (lo := 65) (hi := 90) hb (by decide) (by decide) (by decide)).mpr z)
      refine e_iconst (v := 0) d_X11_isLetter_26 (by decide) ?_
      exact e_iret d_X11_isLetter_27 rfl (rfl) (⟨by first | (rw [bI_t (by simp only [isL, decide_eq_true_eq]; omega)]; done) | (rw [bI_f (by simp only [isL, decide_eq_true_eq]; omega)]; done), rfl⟩)
    · have c19 := (sb_in (lo := 65) (hi := 90) hb (by decide) (by decide) (by decide)).mp (bI_1.mp (bI_z.resolve_left c19))
      refine e_iconst (v := 1) d_X11_isLetter_22 (by decide) ?_
      refine e_gt d_X11_isLetter_23 ?_
      exact e_iret d_X11_isLetter_27 rfl (rfl) (⟨by first | (rw [bI_t (by simp only [isL, decide_eq_true_eq]; omega)]; done) | (rw [bI_f (by simp only [isL, decide_eq_true_eq]; omega)]; done), rfl⟩)

theorem i64_N {x y : Nat} (hx : x < 1000000000000000) (hy : y < 1000000000000000) (h : Int64.ofInt (x : Int) = Int64.ofInt (y : Int)) : x = y := by
  have := (i64_eq (a := (x : Int)) (b := (y : Int)) (by omega) (by omega)).mp h
  omega

theorem s_X11_wordOf {h : AH} {x : Nat} (hx : x < 1000000000000000) : Sp M_X11_wordOf (0, 0) h [.long (Int64.ofInt (x : Int))] (rI (fun v h' => h' = h ∧ ((∃ w, w < 21 ∧ x = mk w ∧ v = nI w) ∨ ((∀ w, w < 21 → ¬ x = mk w) ∧ v = -1)))) := by
  refine ⟨Nat.le_of_ble_eq_true rfl, ?_⟩
  show E _ _ _ 0 h [some (.long (Int64.ofInt (x : Int))), none] []
  refine e_lloadn d_X11_wordOf_0 rfl ?_
  refine e_ldc2 d_X11_wordOf_1 v_X11_149 ?_
  refine e_lcmp_ne d_X11_wordOf_4 d_X11_wordOf_5 (fun c4 => ?_) (fun c4 => ?_)
  · have c4 : ¬ x = mk 0 := fun z => c4 (by rw [z]; rfl)
    refine e_lloadn d_X11_wordOf_10 rfl ?_
    refine e_ldc2 d_X11_wordOf_11 v_X11_151 ?_
    refine e_lcmp_ne d_X11_wordOf_14 d_X11_wordOf_15 (fun c14 => ?_) (fun c14 => ?_)
    · have c14 : ¬ x = mk 1 := fun z => c14 (by rw [z]; rfl)
      refine e_lloadn d_X11_wordOf_20 rfl ?_
      refine e_ldc2 d_X11_wordOf_21 v_X11_153 ?_
      refine e_lcmp_ne d_X11_wordOf_24 d_X11_wordOf_25 (fun c24 => ?_) (fun c24 => ?_)
      · have c24 : ¬ x = mk 2 := fun z => c24 (by rw [z]; rfl)
        refine e_lloadn d_X11_wordOf_30 rfl ?_
        refine e_ldc2 d_X11_wordOf_31 v_X11_155 ?_
        refine e_lcmp_ne d_X11_wordOf_34 d_X11_wordOf_35 (fun c34 => ?_) (fun c34 => ?_)
        · have c34 : ¬ x = mk 3 := fun z => c34 (by rw [z]; rfl)
          refine e_lloadn d_X11_wordOf_40 rfl ?_
          refine e_ldc2 d_X11_wordOf_41 v_X11_157 ?_
          refine e_lcmp_ne d_X11_wordOf_44 d_X11_wordOf_45 (fun c44 => ?_) (fun c44 => ?_)
          · have c44 : ¬ x = mk 4 := fun z => c44 (by rw [z]; rfl)
            refine e_lloadn d_X11_wordOf_50 rfl ?_
            refine e_ldc2 d_X11_wordOf_51 v_X11_159 ?_
            refine e_lcmp_ne d_X11_wordOf_54 d_X11_wordOf_55 (fun c54 => ?_) (fun c54 => ?_)
            · have c54 : ¬ x = mk 5 := fun z => c54 (by rw [z]; rfl)
              refine e_lloadn d_X11_wordOf_60 rfl ?_
              refine e_ldc2 d_X11_wordOf_61 v_X11_161 ?_
              refine e_lcmp_ne d_X11_wordOf_64 d_X11_wordOf_65 (fun c64 => ?_) (fun c64 => ?_)
              · have c64 : ¬ x = mk 6 := fun z => c64 (by rw [z]; rfl)
                refine e_lloadn d_X11_wordOf_71 rfl ?_
                refine e_ldc2 d_X11_wordOf_72 v_X11_163 ?_
                refine e_lcmp_ne d_X11_wordOf_75 d_X11_wordOf_76 (fun c75 => ?_) (fun c75 => ?_)
                · have c75 : ¬ x = mk 7 := fun z => c75 (by rw [z]; rfl)
                  refine e_lloadn d_X11_wordOf_82 rfl ?_
                  refine e_ldc2 d_X11_wordOf_83 v_X11_165 ?_
                  refine e_lcmp_ne d_X11_wordOf_86 d_X11_wordOf_87 (fun c86 => ?_) (fun c86 => ?_)
                  · have c86 : ¬ x = mk 8 := fun z => c86 (by rw [z]; rfl)
                    refine e_lloadn d_X11_wordOf_93 rfl ?_
                    refine e_ldc2 d_X11_wordOf_94 v_X11_167 ?_
                    refine e_lcmp_ne d_X11_wordOf_97 d_X11_wordOf_98 (fun c97 => ?_) (fun c97 => ?_)
                    · have c97 : ¬ x = mk 9 := fun z => c97 (by rw [z]; rfl)
                      refine e_lloadn d_X11_wordOf_104 rfl ?_
                      refine e_ldc2 d_X11_wordOf_105 v_X11_169 ?_
                      refine e_lcmp_ne d_X11_wordOf_108 d_X11_wordOf_109 (fun c108 => ?_) (fun c108 => ?_)
                      · have c108 : ¬ x = mk 10 := fun z => c108 (by rw [z]; rfl)
                        refine e_lloadn d_X11_wordOf_115 rfl ?_
                        refine e_ldc2 d_X11_wordOf_116 v_X11_171 ?_
                        refine e_lcmp_ne d_X11_wordOf_119 d_X11_wordOf_120 (fun c119 => ?_) (fun c119 => ?_)
                        · have c119 : ¬ x = mk 11 := fun z => c119 (by rw [z]; rfl)
                          refine e_lloadn d_X11_wordOf_126 rfl ?_
                          refine e_ldc2 d_X11_wordOf_127 v_X11_173 ?_
                          refine e_lcmp_ne d_X11_wordOf_130 d_X11_wordOf_131 (fun c130 => ?_) (fun c130 => ?_)
                          · have c130 : ¬ x = mk 12 := fun z => c130 (by rw [z]; rfl)
                            refine e_lloadn d_X11_wordOf_137 rfl ?_
                            refine e_ldc2 d_X11_wordOf_138 v_X11_175 ?_
                            refine e_lcmp_ne d_X11_wordOf_141 d_X11_wordOf_142 (fun c141 => ?_) (fun c141 => ?_)
                            · have c141 : ¬ x = mk 13 := fun z => c141 (by rw [z]; rfl)
                              refine e_lloadn d_X11_wordOf_148 rfl ?_
                              refine e_ldc2 d_X11_wordOf_149 v_X11_177 ?_
                              refine e_lcmp_ne d_X11_wordOf_152 d_X11_wordOf_153 (fun c152 => ?_) (fun c152 => ?_)
                              · have c152 : ¬ x = mk 14 := fun z => c152 (by rw [z]; rfl)
                                refine e_lloadn d_X11_wordOf_159 rfl ?_
                                refine e_ldc2 d_X11_wordOf_160 v_X11_179 ?_
                                refine e_lcmp_ne d_X11_wordOf_163 d_X11_wordOf_164 (fun c163 => ?_) (fun c163 => ?_)
                                · have c163 : ¬ x = mk 15 := fun z => c163 (by rw [z]; rfl)
                                  refine e_lloadn d_X11_wordOf_170 rfl ?_
                                  refine e_ldc2 d_X11_wordOf_171 v_X11_181 ?_
                                  refine e_lcmp_ne d_X11_wordOf_174 d_X11_wordOf_175 (fun c174 => ?_) (fun c174 => ?_)
                                  · have c174 : ¬ x = mk 16 := fun z => c174 (by rw [z]; rfl)
                                    refine e_lloadn d_X11_wordOf_181 rfl ?_
                                    refine e_ldc2 d_X11_wordOf_182 v_X11_183 ?_
                                    refine e_lcmp_ne d_X11_wordOf_185 d_X11_wordOf_186 (fun c185 => ?_) (fun c185 => ?_)
                                    · have c185 : ¬ x = mk 17 := fun z => c185 (by rw [z]; rfl)
                                      refine e_lloadn d_X11_wordOf_192 rfl ?_
                                      refine e_ldc2 d_X11_wordOf_193 v_X11_185 ?_
                                      refine e_lcmp_ne d_X11_wordOf_196 d_X11_wordOf_197 (fun c196 => ?_) (fun c196 => ?_)
                                      · have c196 : ¬ x = mk 18 := fun z => c196 (by rw [z]; rfl)
                                        refine e_lloadn d_X11_wordOf_203 rfl ?_
                                        refine e_ldc2 d_X11_wordOf_204 v_X11_187 ?_
                                        refine e_lcmp_ne d_X11_wordOf_207 d_X11_wordOf_208 (fun c207 => ?_) (fun c207 => ?_)
                                        · have c207 : ¬ x = mk 19 := fun z => c207 (by rw [z]; rfl)
                                          refine e_lloadn d_X11_wordOf_214 rfl ?_
                                          refine e_ldc2 d_X11_wordOf_215 v_X11_189 ?_
                                          refine e_lcmp_ne d_X11_wordOf_218 d_X11_wordOf_219 (fun c218 => ?_) (fun c218 => ?_)
                                          · have c218 : ¬ x = mk 20 := fun z => c218 (by rw [z]; rfl)
                                            refine e_iconst (v := -1) d_X11_wordOf_225 (by decide) ?_
                                            exact e_iret d_X11_wordOf_226 rfl (rfl) (⟨_, rfl, rfl, Or.inr ⟨fun w hw => by
    rcases (by omega : w = 0 ∨ w = 1 ∨ w = 2 ∨ w = 3 ∨ w = 4 ∨ w = 5 ∨ w = 6 ∨ w = 7 ∨ w = 8 ∨ w = 9 ∨ w = 10 ∨ w = 11 ∨ w = 12 ∨ w = 13 ∨ w = 14 ∨ w = 15 ∨ w = 16 ∨ w = 17 ∨ w = 18 ∨ w = 19 ∨ w = 20) with rfl | rfl | rfl | rfl | rfl | rfl | rfl | rfl | rfl | rfl | rfl | rfl | rfl | rfl | rfl | rfl | rfl | rfl | rfl | rfl | rfl
    · exact c4
    · exact c14
    · exact c24
    · exact c34
    · exact c44
    · exact c54
    · exact c64
    · exact c75
    · exact c86
    · exact c97
    · exact c108
    · exact c119
    · exact c130
    · exact c141
    · exact c152
    · exact c163
    · exact c174
    · exact c185
    · exact c196
    · exact c207
    · exact c218, rfl⟩⟩)
                                          · have c218 : x = mk 20 := i64_N hx (by decide) c218
                                            refine e_bipush (v := 20) d_X11_wordOf_222 (by decide) ?_
                                            exact e_iret d_X11_wordOf_224 rfl (rfl) (⟨_, rfl, rfl, Or.inl ⟨20, by decide, c218, rfl⟩⟩)
                                        · have c207 : x = mk 19 := i64_N hx (by decide) c207
                                          refine e_bipush (v := 19) d_X11_wordOf_211 (by decide) ?_
                                          exact e_iret d_X11_wordOf_213 rfl (rfl) (⟨_, rfl, rfl, Or.inl ⟨19, by decide, c207, rfl⟩⟩)
                                      · have c196 : x = mk 18 := i64_N hx (by decide) c196
                                        refine e_bipush (v := 18) d_X11_wordOf_200 (by decide) ?_
                                        exact e_iret d_X11_wordOf_202 rfl (rfl) (⟨_, rfl, rfl, Or.inl ⟨18, by decide, c196, rfl⟩⟩)
                                    · have c185 : x = mk 17 := i64_N hx (by decide) c185
                                      refine e_bipush (v := 17) d_X11_wordOf_189 (by decide) ?_
                                      exact e_iret d_X11_wordOf_191 rfl (rfl) (⟨_, rfl, rfl, Or.inl ⟨17, by decide, c185, rfl⟩⟩)
                                  · have c174 : x = mk 16 := i64_N hx (by decide) c174
                                    refine e_bipush (v := 16) d_X11_wordOf_178 (by decide) ?_
                                    exact e_iret d_X11_wordOf_180 rfl (rfl) (⟨_, rfl, rfl, Or.inl ⟨16, by decide, c174, rfl⟩⟩)
                                · have c163 : x = mk 15 := i64_N hx (by decide) c163
                                  refine e_bipush (v := 15) d_X11_wordOf_167 (by decide) ?_
                                  exact e_iret d_X11_wordOf_169 rfl (rfl) (⟨_, rfl, rfl, Or.inl ⟨15, by decide, c163, rfl⟩⟩)
                              · have c152 : x = mk 14 := i64_N hx (by decide) c152
                                refine e_bipush (v := 14) d_X11_wordOf_156 (by decide) ?_
                                exact e_iret d_X11_wordOf_158 rfl (rfl) (⟨_, rfl, rfl, Or.inl ⟨14, by decide, c152, rfl⟩⟩)
                            · have c141 : x = mk 13 := i64_N hx (by decide) c141
                              refine e_bipush (v := 13) d_X11_wordOf_145 (by decide) ?_
                              exact e_iret d_X11_wordOf_147 rfl (rfl) (⟨_, rfl, rfl, Or.inl ⟨13, by decide, c141, rfl⟩⟩)
                          · have c130 : x = mk 12 := i64_N hx (by decide) c130
                            refine e_bipush (v := 12) d_X11_wordOf_134 (by decide) ?_
                            exact e_iret d_X11_wordOf_136 rfl (rfl) (⟨_, rfl, rfl, Or.inl ⟨12, by decide, c130, rfl⟩⟩)
                        · have c119 : x = mk 11 := i64_N hx (by decide) c119
                          refine e_bipush (v := 11) d_X11_wordOf_123 (by decide) ?_
                          exact e_iret d_X11_wordOf_125 rfl (rfl) (⟨_, rfl, rfl, Or.inl ⟨11, by decide, c119, rfl⟩⟩)
                      · have c108 : x = mk 10 := i64_N hx (by decide) c108
                        refine e_bipush (v := 10) d_X11_wordOf_112 (by decide) ?_
                        exact e_iret d_X11_wordOf_114 rfl (rfl) (⟨_, rfl, rfl, Or.inl ⟨10, by decide, c108, rfl⟩⟩)
                    · have c97 : x = mk 9 := i64_N hx (by decide) c97
                      refine e_bipush (v := 9) d_X11_wordOf_101 (by decide) ?_
                      exact e_iret d_X11_wordOf_103 rfl (rfl) (⟨_, rfl, rfl, Or.inl ⟨9, by decide, c97, rfl⟩⟩)
                  · have c86 : x = mk 8 := i64_N hx (by decide) c86
                    refine e_bipush (v := 8) d_X11_wordOf_90 (by decide) ?_
                    exact e_iret d_X11_wordOf_92 rfl (rfl) (⟨_, rfl, rfl, Or.inl ⟨8, by decide, c86, rfl⟩⟩)
                · have c75 : x = mk 7 := i64_N hx (by decide) c75
                  refine e_bipush (v := 7) d_X11_wordOf_79 (by decide) ?_
                  exact e_iret d_X11_wordOf_81 rfl (rfl) (⟨_, rfl, rfl, Or.inl ⟨7, by decide, c75, rfl⟩⟩)
              · have c64 : x = mk 6 := i64_N hx (by decide) c64
                refine e_bipush (v := 6) d_X11_wordOf_68 (by decide) ?_
                exact e_iret d_X11_wordOf_70 rfl (rfl) (⟨_, rfl, rfl, Or.inl ⟨6, by decide, c64, rfl⟩⟩)
            · have c54 : x = mk 5 := i64_N hx (by decide) c54
              refine e_iconst (v := 5) d_X11_wordOf_58 (by decide) ?_
              exact e_iret d_X11_wordOf_59 rfl (rfl) (⟨_, rfl, rfl, Or.inl ⟨5, by decide, c54, rfl⟩⟩)
          · have c44 : x = mk 4 := i64_N hx (by decide) c44
            refine e_iconst (v := 4) d_X11_wordOf_48 (by decide) ?_
            exact e_iret d_X11_wordOf_49 rfl (rfl) (⟨_, rfl, rfl, Or.inl ⟨4, by decide, c44, rfl⟩⟩)
        · have c34 : x = mk 3 := i64_N hx (by decide) c34
          refine e_iconst (v := 3) d_X11_wordOf_38 (by decide) ?_
          exact e_iret d_X11_wordOf_39 rfl (rfl) (⟨_, rfl, rfl, Or.inl ⟨3, by decide, c34, rfl⟩⟩)
      · have c24 : x = mk 2 := i64_N hx (by decide) c24
        refine e_iconst (v := 2) d_X11_wordOf_28 (by decide) ?_
        exact e_iret d_X11_wordOf_29 rfl (rfl) (⟨_, rfl, rfl, Or.inl ⟨2, by decide, c24, rfl⟩⟩)
    · have c14 : x = mk 1 := i64_N hx (by decide) c14
      refine e_iconst (v := 1) d_X11_wordOf_18 (by decide) ?_
      exact e_iret d_X11_wordOf_19 rfl (rfl) (⟨_, rfl, rfl, Or.inl ⟨1, by decide, c14, rfl⟩⟩)
  · have c4 : x = mk 0 := i64_N hx (by decide) c4
    refine e_iconst (v := 0) d_X11_wordOf_8 (by decide) ?_
    exact e_iret d_X11_wordOf_9 rfl (rfl) (⟨_, rfl, rfl, Or.inl ⟨0, by decide, c4, rfl⟩⟩)

theorem let_step {tb : Nat → Nat} {i q n : Nat} (hb : isL (tb q) = true) (e : i + n = q) : (64 : Int64) * Int64.ofInt ((numG (fun k => tb (i + k)) n : Nat) : Int) + (sbI (tb q)).toInt64 - 64 = Int64.ofInt ((numG (fun k => tb (i + k)) (n + 1) : Nat) : Int) := by
  have h := isL_in hb
  rw [sb_pos (by omega), nI64 (by omega), show (64 : Int64) = Int64.ofInt 64 from rfl, ← Int64.ofInt_mul, ← Int64.ofInt_add, ← Int64.ofInt_sub]
  congr 1
  simp only [numG]
  rw [e]
  omega
theorem num_step {v b : Nat} (h : 48 ≤ b) : (10 : Int32) * nI v + nI b - 48 = nI (v * 10 + b - 48) := by
  rw [show (10 : Int32) = nI 10 from rfl, show (48 : Int32) = nI 48 from rfl, pk_mul, nI_add, nI_subN (by omega)]
  congr 1; omega
theorem tkm_e2a {b : Nat} (h : b = 60) : TkM (sgn b - 2) 3 300 := by subst h; exact Or.inr (Or.inr (Or.inr (Or.inl ⟨by decide, by decide, by decide, rfl, rfl⟩)))
theorem tkm_e2b {b : Nat} (h : b = 62) : TkM (sgn b - 2) 3 301 := by subst h; exact Or.inr (Or.inr (Or.inr (Or.inl ⟨by decide, by decide, by decide, rfl, rfl⟩)))
theorem sg_2 {b : Nat} (hb : b < 256) (h : b = 60 ∨ b = 62) : sgn b = 23 ∨ sgn b = 24 := by
  obtain ⟨-, -, g3, g4⟩ := sg_tbl _ hb
  rw [g3, g4]; exact h
theorem nxt_sg2 {h k : AH} {L i : Nat} {mt : Nat → Int32} {tb : Nat → Nat} {mtp mfl mfa mso mto mwr mwp mop mfs mws mst mnc mnk mnr mdn : Int32} {mup mlo mgu mgl : Int64} (hF : Fr [66] h k) (H_md : Hs k 66 (oMd mtp mfl mfa mup mlo (nI L) (nI (i + 1)) (nI i) mso (sbI (tb i)) mwr mwp mop mfs mws mst mnc mnk mnr mdn mgu mgl)) (H_mtape0 : Hs h 69 (aB 300 mt)) (hmt : ∀ k, k < 300 → mt k = sbI (tb k) ∧ tb k < 256) (c : i < L) (hL : L ≤ 300) (hl9 : isL (tb i) = false) (hd9 : isD (tb i) = false) {so : Int32} (hsg : TkM (sgn (tb i)) so (sbI (tb i))) (hs3 : tb i = 60 ∨ tb i = 62 → so = 3) : E M_X11_next (0, 0) (rV (fun h' => (∃ so to : Int32, Hs h' 66 (oMd mtp mfl mfa mup mlo (nI L) (nI (tok tb L i).2) (nI i) so to mwr mwp mop mfs mws mst mnc mnk mnr mdn mgu mgl) ∧ TkM (tok tb L i).1 so to) ∧ Fr [66] h h')) 370 k [some (.ref 66), some (.int (sbI (tb i))), none, none, none] [.int so, .ref 66] := by
  have H_mtape := hF.hs H_mtape0 (by decide)
  have hb8 := (hmt i (by omega)).2
  refine e_puti d_X11_next_370 f_X11_200 H_md (Nat.le_of_ble_eq_true rfl) ?_
  refine e_iloadn d_X11_next_373 rfl ?_
  refine e_bipush (v := 60) d_X11_next_374 (by decide) ?_
  refine e_icmp_eq d_X11_next_376 (fun c376 => ?_) (fun c376 => ?_)
  · have c376 := (sb_eq (k := 60) hb8 (by decide)).mp c376
    refine e_aloadn d_X11_next_385 rfl ?_
    refine e_get d_X11_next_386 f_X11_191 H_md.s rfl ?_
    refine e_aloadn d_X11_next_389 rfl ?_
    refine e_get d_X11_next_390 f_X11_194 H_md.s rfl ?_
    refine e_icmp_ge d_X11_next_393 (fun c393 => ?_) (fun c393 => ?_)
    · have c393 := i_le (by omega) (by omega) c393
      have hnt : ¬ ((sgn (tb i) = 23 ∨ sgn (tb i) = 24) ∧ i + 1 < L ∧ tb (i + 1) = 61) := fun z => by omega
      exact e_vret d_X11_next_439 rfl (⟨rfl, by first | (have hq9 := hnt; exact ⟨_, _, by rw [tok_sg c hl9 hd9 hnt]; exact Hs.s H_md, by rw [tok_sg c hl9 hd9 hnt]; exact hsg⟩) | (have hq9 := c407; exact ⟨_, _, by rw [tok_e2 c hl9 hd9 (sg_2 hb8 (by omega)) (by omega) c407, show nI (i + 2) = nI (i + 1) + 1 from (nI_1 _).symm]; exact Hs.s (Hs.s (Hs.s H_md)), by rw [tok_e2 c hl9 hd9 (sg_2 hb8 (by omega)) (by omega) c407, hs3 (by omega)]; first | exact tkm_e2a c414 | exact tkm_e2b (by omega)⟩), by first | exact hF.up (by decide) | exact ((hF.up (by decide)).up (by decide)).up (by decide)⟩)
    · have c393 := i_nle (by omega) (by omega) c393
      refine e_aloadn d_X11_next_396 rfl ?_
      refine e_get d_X11_next_397 f_X11_16 H_md.s rfl ?_
      refine e_aloadn d_X11_next_400 rfl ?_
      refine e_get d_X11_next_401 f_X11_191 H_md.s rfl ?_
      refine e_baldN (k := (i + 1)) d_X11_next_404 (H_mtape.n (by decide)) rfl (by omega) (by omega) ?_
      refine e_bipush (v := 61) d_X11_next_405 (by decide) ?_
      rw [(hmt (i + 1) (by omega)).1]
      have hb61 := (hmt (i + 1) (by omega)).2
      refine e_icmp_ne d_X11_next_407 (fun c407 => ?_) (fun c407 => ?_)
      · have c407 : ¬ tb (i + 1) = 61 := fun z => c407 ((sb_eq (k := 61) hb61 (by decide)).mpr z)
        have hnt : ¬ ((sgn (tb i) = 23 ∨ sgn (tb i) = 24) ∧ i + 1 < L ∧ tb (i + 1) = 61) := fun z => c407 z.2.2
        exact e_vret d_X11_next_439 rfl (⟨rfl, by first | (have hq9 := hnt; exact ⟨_, _, by rw [tok_sg c hl9 hd9 hnt]; exact Hs.s H_md, by rw [tok_sg c hl9 hd9 hnt]; exact hsg⟩) | (have hq9 := c407; exact ⟨_, _, by rw [tok_e2 c hl9 hd9 (sg_2 hb8 (by omega)) (by omega) c407, show nI (i + 2) = nI (i + 1) + 1 from (nI_1 _).symm]; exact Hs.s (Hs.s (Hs.s H_md)), by rw [tok_e2 c hl9 hd9 (sg_2 hb8 (by omega)) (by omega) c407, hs3 (by omega)]; first | exact tkm_e2a c414 | exact tkm_e2b (by omega)⟩), by first | exact hF.up (by decide) | exact ((hF.up (by decide)).up (by decide)).up (by decide)⟩)
      · have c407 := (sb_eq (k := 61) hb61 (by decide)).mp c407
        refine e_aloadn d_X11_next_410 rfl ?_
        refine e_iloadn d_X11_next_411 rfl ?_
        refine e_bipush (v := 60) d_X11_next_412 (by decide) ?_
        refine e_icmp_ne d_X11_next_414 (fun c414 => ?_) (fun c414 => ?_)
        · have c414 : ¬ tb i = 60 := fun z => c414 ((sb_eq (k := 60) hb8 (by decide)).mpr z)
          refine e_sipush (v := 301) d_X11_next_423 (by decide) ?_
          refine e_puti d_X11_next_426 f_X11_212 H_md.s (Nat.le_of_ble_eq_true rfl) ?_
          refine e_aloadn d_X11_next_429 rfl ?_
          refine e_dup d_X11_next_430 rfl ?_
          refine e_get d_X11_next_431 f_X11_191 H_md.s.s rfl ?_
          refine e_iconst (v := 1) d_X11_next_434 (by decide) ?_
          refine e_iadd d_X11_next_435 ?_
          refine e_puti d_X11_next_436 f_X11_191 H_md.s.s (Nat.le_of_ble_eq_true rfl) ?_
          exact e_vret d_X11_next_439 rfl (⟨rfl, by first | (have hq9 := hnt; exact ⟨_, _, by rw [tok_sg c hl9 hd9 hnt]; exact Hs.s H_md, by rw [tok_sg c hl9 hd9 hnt]; exact hsg⟩) | (have hq9 := c407; exact ⟨_, _, by rw [tok_e2 c hl9 hd9 (sg_2 hb8 (by omega)) (by omega) c407, show nI (i + 2) = nI (i + 1) + 1 from (nI_1 _).symm]; exact Hs.s (Hs.s (Hs.s H_md)), by rw [tok_e2 c hl9 hd9 (sg_2 hb8 (by omega)) (by omega) c407, hs3 (by omega)]; first | exact tkm_e2a c414 | exact tkm_e2b (by omega)⟩), by first | exact hF.up (by decide) | exact ((hF.up (by decide)).up (by decide)).up (by decide)⟩)
        · have c414 := (sb_eq (k := 60) hb8 (by decide)).mp c414
          refine e_sipush (v := 300) d_X11_next_417 (by decide) ?_
          refine e_gt d_X11_next_420 ?_
          refine e_puti d_X11_next_426 f_X11_212 H_md.s (Nat.le_of_ble_eq_true rfl) ?_
          refine e_aloadn d_X11_next_429 rfl ?_
          refine e_dup d_X11_next_430 rfl ?_
          refine e_get d_X11_next_431 f_X11_191 H_md.s.s rfl ?_
          refine e_iconst (v := 1) d_X11_next_434 (by decide) ?_
          refine e_iadd d_X11_next_435 ?_
          refine e_puti d_X11_next_436 f_X11_191 H_md.s.s (Nat.le_of_ble_eq_true rfl) ?_
          exact e_vret d_X11_next_439 rfl (⟨rfl, by first | (have hq9 := hnt; exact ⟨_, _, by rw [tok_sg c hl9 hd9 hnt]; exact Hs.s H_md, by rw [tok_sg c hl9 hd9 hnt]; exact hsg⟩) | (have hq9 := c407; exact ⟨_, _, by rw [tok_e2 c hl9 hd9 (sg_2 hb8 (by omega)) (by omega) c407, show nI (i + 2) = nI (i + 1) + 1 from (nI_1 _).symm]; exact Hs.s (Hs.s (Hs.s H_md)), by rw [tok_e2 c hl9 hd9 (sg_2 hb8 (by omega)) (by omega) c407, hs3 (by omega)]; first | exact tkm_e2a c414 | exact tkm_e2b (by omega)⟩), by first | exact hF.up (by decide) | exact ((hF.up (by decide)).up (by decide)).up (by decide)⟩)
  · have c376 : ¬ tb i = 60 := fun z => c376 ((sb_eq (k := 60) hb8 (by decide)).mpr z)
    refine e_iloadn d_X11_next_379 rfl ?_
    refine e_bipush (v := 62) d_X11_next_380 (by decide) ?_
    refine e_icmp_ne d_X11_next_382 (fun c382 => ?_) (fun c382 => ?_)
    · have c382 : ¬ tb i = 62 := fun z => c382 ((sb_eq (k := 62) hb8 (by decide)).mpr z)
      have hnt : ¬ ((sgn (tb i) = 23 ∨ sgn (tb i) = 24) ∧ i + 1 < L ∧ tb (i + 1) = 61) := fun z => by
        obtain ⟨-, -, g3, g4⟩ := sg_tbl _ hb8
        rw [g3, g4] at z
        omega
      exact e_vret d_X11_next_439 rfl (⟨rfl, by first | (have hq9 := hnt; exact ⟨_, _, by rw [tok_sg c hl9 hd9 hnt]; exact Hs.s H_md, by rw [tok_sg c hl9 hd9 hnt]; exact hsg⟩) | (have hq9 := c407; exact ⟨_, _, by rw [tok_e2 c hl9 hd9 (sg_2 hb8 (by omega)) (by omega) c407, show nI (i + 2) = nI (i + 1) + 1 from (nI_1 _).symm]; exact Hs.s (Hs.s (Hs.s H_md)), by rw [tok_e2 c hl9 hd9 (sg_2 hb8 (by omega)) (by omega) c407, hs3 (by omega)]; first | exact tkm_e2a c414 | exact tkm_e2b (by omega)⟩), by first | exact hF.up (by decide) | exact ((hF.up (by decide)).up (by decide)).up (by decide)⟩)
    · have c382 := (sb_eq (k := 62) hb8 (by decide)).mp c382
      refine e_aloadn d_X11_next_385 rfl ?_
      refine e_get d_X11_next_386 f_X11_191 H_md.s rfl ?_
      refine e_aloadn d_X11_next_389 rfl ?_
      refine e_get d_X11_next_390 f_X11_194 H_md.s rfl ?_
      refine e_icmp_ge d_X11_next_393 (fun c393 => ?_) (fun c393 => ?_)
      · have c393 := i_le (by omega) (by omega) c393
        have hnt : ¬ ((sgn (tb i) = 23 ∨ sgn (tb i) = 24) ∧ i + 1 < L ∧ tb (i + 1) = 61) := fun z => by omega
        exact e_vret d_X11_next_439 rfl (⟨rfl, by first | (have hq9 := hnt; exact ⟨_, _, by rw [tok_sg c hl9 hd9 hnt]; exact Hs.s H_md, by rw [tok_sg c hl9 hd9 hnt]; exact hsg⟩) | (have hq9 := c407; exact ⟨_, _, by rw [tok_e2 c hl9 hd9 (sg_2 hb8 (by omega)) (by omega) c407, show nI (i + 2) = nI (i + 1) + 1 from (nI_1 _).symm]; exact Hs.s (Hs.s (Hs.s H_md)), by rw [tok_e2 c hl9 hd9 (sg_2 hb8 (by omega)) (by omega) c407, hs3 (by omega)]; first | exact tkm_e2a c414 | exact tkm_e2b (by omega)⟩), by first | exact hF.up (by decide) | exact ((hF.up (by decide)).up (by decide)).up (by decide)⟩)
      · have c393 := i_nle (by omega) (by omega) c393
        refine e_aloadn d_X11_next_396 rfl ?_
        refine e_get d_X11_next_397 f_X11_16 H_md.s rfl ?_
        refine e_aloadn d_X11_next_400 rfl ?_
        refine e_get d_X11_next_401 f_X11_191 H_md.s rfl ?_
        refine e_baldN (k := (i + 1)) d_X11_next_404 (H_mtape.n (by decide)) rfl (by omega) (by omega) ?_
        refine e_bipush (v := 61) d_X11_next_405 (by decide) ?_
        rw [(hmt (i + 1) (by omega)).1]
        have hb61 := (hmt (i + 1) (by omega)).2
        refine e_icmp_ne d_X11_next_407 (fun c407 => ?_) (fun c407 => ?_)
        · have c407 : ¬ tb (i + 1) = 61 := fun z => c407 ((sb_eq (k := 61) hb61 (by decide)).mpr z)
          have hnt : ¬ ((sgn (tb i) = 23 ∨ sgn (tb i) = 24) ∧ i + 1 < L ∧ tb (i + 1) = 61) := fun z => c407 z.2.2
          exact e_vret d_X11_next_439 rfl (⟨rfl, by first | (have hq9 := hnt; exact ⟨_, _, by rw [tok_sg c hl9 hd9 hnt]; exact Hs.s H_md, by rw [tok_sg c hl9 hd9 hnt]; exact hsg⟩) | (have hq9 := c407; exact ⟨_, _, by rw [tok_e2 c hl9 hd9 (sg_2 hb8 (by omega)) (by omega) c407, show nI (i + 2) = nI (i + 1) + 1 from (nI_1 _).symm]; exact Hs.s (Hs.s (Hs.s H_md)), by rw [tok_e2 c hl9 hd9 (sg_2 hb8 (by omega)) (by omega) c407, hs3 (by omega)]; first | exact tkm_e2a c414 | exact tkm_e2b (by omega)⟩), by first | exact hF.up (by decide) | exact ((hF.up (by decide)).up (by decide)).up (by decide)⟩)
        · have c407 := (sb_eq (k := 61) hb61 (by decide)).mp c407
          refine e_aloadn d_X11_next_410 rfl ?_
          refine e_iloadn d_X11_next_411 rfl ?_
          refine e_bipush (v := 60) d_X11_next_412 (by decide) ?_
          refine e_icmp_ne d_X11_next_414 (fun c414 => ?_) (fun c414 => ?_)
          · have c414 : ¬ tb i = 60 := fun z => c414 ((sb_eq (k := 60) hb8 (by decide)).mpr z)
            refine e_sipush (v := 301) d_X11_next_423 (by decide) ?_
            refine e_puti d_X11_next_426 f_X11_212 H_md.s (Nat.le_of_ble_eq_true rfl) ?_
            refine e_aloadn d_X11_next_429 rfl ?_
            refine e_dup d_X11_next_430 rfl ?_
            refine e_get d_X11_next_431 f_X11_191 H_md.s.s rfl ?_
            refine e_iconst (v := 1) d_X11_next_434 (by decide) ?_
            refine e_iadd d_X11_next_435 ?_
            refine e_puti d_X11_next_436 f_X11_191 H_md.s.s (Nat.le_of_ble_eq_true rfl) ?_
            exact e_vret d_X11_next_439 rfl (⟨rfl, by first | (have hq9 := hnt; exact ⟨_, _, by rw [tok_sg c hl9 hd9 hnt]; exact Hs.s H_md, by rw [tok_sg c hl9 hd9 hnt]; exact hsg⟩) | (have hq9 := c407; exact ⟨_, _, by rw [tok_e2 c hl9 hd9 (sg_2 hb8 (by omega)) (by omega) c407, show nI (i + 2) = nI (i + 1) + 1 from (nI_1 _).symm]; exact Hs.s (Hs.s (Hs.s H_md)), by rw [tok_e2 c hl9 hd9 (sg_2 hb8 (by omega)) (by omega) c407, hs3 (by omega)]; first | exact tkm_e2a c414 | exact tkm_e2b (by omega)⟩), by first | exact hF.up (by decide) | exact ((hF.up (by decide)).up (by decide)).up (by decide)⟩)
          · have c414 := (sb_eq (k := 60) hb8 (by decide)).mp c414
            refine e_sipush (v := 300) d_X11_next_417 (by decide) ?_
            refine e_gt d_X11_next_420 ?_
            refine e_puti d_X11_next_426 f_X11_212 H_md.s (Nat.le_of_ble_eq_true rfl) ?_
            refine e_aloadn d_X11_next_429 rfl ?_
            refine e_dup d_X11_next_430 rfl ?_
            refine e_get d_X11_next_431 f_X11_191 H_md.s.s rfl ?_
            refine e_iconst (v := 1) d_X11_next_434 (by decide) ?_
            refine e_iadd d_X11_next_435 ?_
            refine e_puti d_X11_next_436 f_X11_191 H_md.s.s (Nat.le_of_ble_eq_true rfl) ?_
            exact e_vret d_X11_next_439 rfl (⟨rfl, by first | (have hq9 := hnt; exact ⟨_, _, by rw [tok_sg c hl9 hd9 hnt]; exact Hs.s H_md, by rw [tok_sg c hl9 hd9 hnt]; exact hsg⟩) | (have hq9 := c407; exact ⟨_, _, by rw [tok_e2 c hl9 hd9 (sg_2 hb8 (by omega)) (by omega) c407, show nI (i + 2) = nI (i + 1) + 1 from (nI_1 _).symm]; exact Hs.s (Hs.s (Hs.s H_md)), by rw [tok_e2 c hl9 hd9 (sg_2 hb8 (by omega)) (by omega) c407, hs3 (by omega)]; first | exact tkm_e2a c414 | exact tkm_e2b (by omega)⟩), by first | exact hF.up (by decide) | exact ((hF.up (by decide)).up (by decide)).up (by decide)⟩)
theorem nxt_sg {h k : AH} {L i : Nat} {mt : Nat → Int32} {tb : Nat → Nat} {mtp mfl mfa mso mto mwr mwp mop mfs mws mst mnc mnk mnr mdn : Int32} {mup mlo mgu mgl : Int64} (hF : Fr [66] h k) (H_md : Hs k 66 (oMd mtp mfl mfa mup mlo (nI L) (nI i) (nI i) mso mto mwr mwp mop mfs mws mst mnc mnk mnr mdn mgu mgl)) (H_mtape0 : Hs h 69 (aB 300 mt)) (hmt : ∀ k, k < 300 → mt k = sbI (tb k) ∧ tb k < 256) (c : i < L) (hL : L ≤ 300) (hl9 : isL (tb i) = false) (hd9 : isD (tb i) = false) : E M_X11_next (0, 0) (rV (fun h' => (∃ so to : Int32, Hs h' 66 (oMd mtp mfl mfa mup mlo (nI L) (nI (tok tb L i).2) (nI i) so to mwr mwp mop mfs mws mst mnc mnk mnr mdn mgu mgl) ∧ TkM (tok tb L i).1 so to) ∧ Fr [66] h h')) 315 k [some (.ref 66), some (.int (sbI (tb i))), none, none, none] [] := by
  have H_mtape := hF.hs H_mtape0 (by decide)
  have hb8 := (hmt i (by omega)).2
  refine e_aloadn d_X11_next_315 rfl ?_
  refine e_dup d_X11_next_316 rfl ?_
  refine e_get d_X11_next_317 f_X11_191 H_md rfl ?_
  refine e_iconst (v := 1) d_X11_next_320 (by decide) ?_
  refine e_iadd d_X11_next_321 ?_
  refine e_puti d_X11_next_322 f_X11_191 H_md (Nat.le_of_ble_eq_true rfl) ?_
  rw [nI_1]
  refine e_aloadn d_X11_next_325 rfl ?_
  refine e_iloadn d_X11_next_326 rfl ?_
  refine e_puti d_X11_next_327 f_X11_212 H_md.s (Nat.le_of_ble_eq_true rfl) ?_
  refine e_aloadn d_X11_next_330 rfl ?_
  refine e_iloadn d_X11_next_331 rfl ?_
  refine e_bipush (v := 59) d_X11_next_332 (by decide) ?_
  refine e_bipush (v := 62) d_X11_next_334 (by decide) ?_
  refine e_callSI d_X11_next_336 l_X11_next_101 (s_X11_in) rfl rfl (Nat.le_of_ble_eq_true rfl) ?_
  refine e_if_ne d_X11_next_339 (fun c339 => ?_) (fun c339 => ?_)
  · have c339 := (sb_in (lo := 59) (hi := 62) hb8 (by decide) (by decide) (by decide)).mp (bI_1.mp (bI_z.resolve_left c339))
    have hsg := tkm_sg hb8 (Or.inl c339)
    refine e_iconst (v := 3) d_X11_next_365 (by decide) ?_
    refine e_gt d_X11_next_366 ?_
    exact nxt_sg2 (mto := mto) ((hF.up (by decide)).up (by decide)) (Hs.s (Hs.s H_md)) H_mtape0 hmt c hL hl9 hd9 hsg (fun z => by first | rfl | (exfalso; omega))
  · have c339 : ¬ (59 ≤ tb i ∧ tb i ≤ 62) := fun z => bI_0.mp c339 ((sb_in (lo := 59) (hi := 62) hb8 (by decide) (by decide) (by decide)).mpr z)
    refine e_iloadn d_X11_next_342 rfl ?_
    refine e_bipush (v := 40) d_X11_next_343 (by decide) ?_
    refine e_bipush (v := 45) d_X11_next_345 (by decide) ?_
    refine e_callSI d_X11_next_347 l_X11_next_101 (s_X11_in) rfl rfl (Nat.le_of_ble_eq_true rfl) ?_
    refine e_if_ne d_X11_next_350 (fun c350 => ?_) (fun c350 => ?_)
    · have c350 := (sb_in (lo := 40) (hi := 45) hb8 (by decide) (by decide) (by decide)).mp (bI_1.mp (bI_z.resolve_left c350))
      have hsg := tkm_sg hb8 (Or.inr (Or.inl c350))
      refine e_iconst (v := 3) d_X11_next_365 (by decide) ?_
      refine e_gt d_X11_next_366 ?_
      exact nxt_sg2 (mto := mto) ((hF.up (by decide)).up (by decide)) (Hs.s (Hs.s H_md)) H_mtape0 hmt c hL hl9 hd9 hsg (fun z => by first | rfl | (exfalso; omega))
    · have c350 : ¬ (40 ≤ tb i ∧ tb i ≤ 45) := fun z => bI_0.mp c350 ((sb_in (lo := 40) (hi := 45) hb8 (by decide) (by decide) (by decide)).mpr z)
      refine e_iloadn d_X11_next_353 rfl ?_
      refine e_bipush (v := 47) d_X11_next_354 (by decide) ?_
      refine e_icmp_eq d_X11_next_356 (fun c356 => ?_) (fun c356 => ?_)
      · have c356 := (sb_eq (k := 47) hb8 (by decide)).mp c356
        have hsg := tkm_sg hb8 (Or.inr (Or.inr (Or.inl c356)))
        refine e_iconst (v := 3) d_X11_next_365 (by decide) ?_
        refine e_gt d_X11_next_366 ?_
        exact nxt_sg2 (mto := mto) ((hF.up (by decide)).up (by decide)) (Hs.s (Hs.s H_md)) H_mtape0 hmt c hL hl9 hd9 hsg (fun z => by first | rfl | (exfalso; omega))
      · have c356 : ¬ tb i = 47 := fun z => c356 ((sb_eq (k := 47) hb8 (by decide)).mpr z)
        refine e_iloadn d_X11_next_359 rfl ?_
        refine e_bipush (v := 35) d_X11_next_360 (by decide) ?_
        refine e_icmp_ne d_X11_next_362 (fun c362 => ?_) (fun c362 => ?_)
        · have c362 : ¬ tb i = 35 := fun z => c362 ((sb_eq (k := 35) hb8 (by decide)).mpr z)
          have hsg : TkM (sgn (tb i)) 4 (sbI (tb i)) := tkm_bad hb8 (by omega)
          refine e_iconst (v := 4) d_X11_next_369 (by decide) ?_
          exact nxt_sg2 (mto := mto) ((hF.up (by decide)).up (by decide)) (Hs.s (Hs.s H_md)) H_mtape0 hmt c hL hl9 hd9 hsg (fun z => by first | rfl | (exfalso; omega))
        · have c362 := (sb_eq (k := 35) hb8 (by decide)).mp c362
          have hsg := tkm_sg hb8 (Or.inr (Or.inr (Or.inr c362)))
          refine e_iconst (v := 3) d_X11_next_365 (by decide) ?_
          refine e_gt d_X11_next_366 ?_
          exact nxt_sg2 (mto := mto) ((hF.up (by decide)).up (by decide)) (Hs.s (Hs.s H_md)) H_mtape0 hmt c hL hl9 hd9 hsg (fun z => by first | rfl | (exfalso; omega))

theorem s_X11_next {h : AH} {L a : Nat} {mt : Nat → Int32} {tb : Nat → Nat} {mtp mfl mfa mtk mso mto mwr mwp mop mfs mws mst mnc mnk mnr mdn : Int32} {mup mlo mgu mgl : Int64} (H_md : Hs h 66 (oMd mtp mfl mfa mup mlo (nI L) (nI a) mtk mso mto mwr mwp mop mfs mws mst mnc mnk mnr mdn mgu mgl)) (H_mtape : Hs h 69 (aB 300 mt)) (hmt : ∀ k, k < 300 → mt k = sbI (tb k) ∧ tb k < 256) (ha : a ≤ L) (hL : L ≤ 300) : Sp M_X11_next (0, 0) h [.ref 66] (rV (fun h' => (∃ so to : Int32, Hs h' 66 (oMd mtp mfl mfa mup mlo (nI L) (nI (tok tb L (run isB tb L a)).2) (nI (run isB tb L a)) so to mwr mwp mop mfs mws mst mnc mnk mnr mdn mgu mgl) ∧ TkM (tok tb L (run isB tb L a)).1 so to) ∧ Fr [66] h h')) := by
  refine ⟨Nat.le_of_ble_eq_true rfl, ?_⟩
  show E _ _ _ 0 h [some (.ref 66), none, none, none, none] []
  have G_mtape := H_mtape
  have hA_0 : ∀ i, i ≤ L → ∀ (k : AH) (F : Unit) (md : Unit) (p : Unit), (Fr [66] h k) → (Hs k 66 (oMd mtp mfl mfa mup mlo (nI L) (nI i) mtk mso mto mwr mwp mop mfs mws mst mnc mnk mnr mdn mgu mgl)) → (a ≤ i ∧ ∀ j, a ≤ j → j < i → isB (tb j) = true) → E M_X11_next (0, 0) (rV (fun h' => (∃ so to : Int32, Hs h' 66 (oMd mtp mfl mfa mup mlo (nI L) (nI (tok tb L (run isB tb L a)).2) (nI (run isB tb L a)) so to mwr mwp mop mfs mws mst mnc mnk mnr mdn mgu mgl) ∧ TkM (tok tb L (run isB tb L a)).1 so to) ∧ Fr [66] h h')) 0 (k) [some (.ref 66), none, none, none, none] [] := by
    refine loop_ind (n := L) ?_
    intro i hi_i ih_0 k F md p h_F h_md h_p
    have H_mtape := h_F.hs G_mtape (by decide)
    refine e_aloadn d_X11_next_0 rfl ?_
    refine e_get d_X11_next_1 f_X11_191 h_md rfl ?_
    refine e_aloadn d_X11_next_4 rfl ?_
    refine e_get d_X11_next_5 f_X11_194 h_md rfl ?_
    refine e_icmp_ge d_X11_next_8 (fun c => ?_) (fun c => ?_)
    · have c := i_le (by omega) (by omega) c
      have ee : i = (run isB tb L a) := run_end h_p.1 hi_i h_p.2 (Or.inl (by omega))
      refine e_aloadn d_X11_next_52 rfl ?_
      refine e_aloadn d_X11_next_53 rfl ?_
      refine e_get d_X11_next_54 f_X11_191 h_md rfl ?_
      refine e_puti d_X11_next_57 f_X11_197 h_md (Nat.le_of_ble_eq_true rfl) ?_
      refine e_aloadn d_X11_next_60 rfl ?_
      refine e_get d_X11_next_61 f_X11_191 h_md.s rfl ?_
      refine e_aloadn d_X11_next_64 rfl ?_
      refine e_get d_X11_next_65 f_X11_194 h_md.s rfl ?_
      refine e_icmp_ne d_X11_next_68 (fun z => by first | exact absurd (fun z => z (by rw [show i = L by omega])) z | exact absurd z (fun z => z (by rw [show i = L by omega]))) (fun _ => ?_)
      refine e_aloadn d_X11_next_71 rfl ?_
      refine e_iconst (v := 0) d_X11_next_72 (by decide) ?_
      refine e_puti d_X11_next_73 f_X11_200 h_md.s (Nat.le_of_ble_eq_true rfl) ?_
      exact e_vret d_X11_next_76 rfl (⟨rfl, ⟨_, _, by rw [← ee, tok_end (by omega)]; exact ⟨Hs.s (Hs.s h_md), Or.inl ⟨rfl, rfl⟩⟩⟩, (h_F.up (by decide)).up (by decide)⟩)
    · have c := i_nle (by omega) (by omega) c
      have hb8 := (hmt i (by omega)).2
      refine e_aloadn d_X11_next_11 rfl ?_
      refine e_get d_X11_next_12 f_X11_16 h_md rfl ?_
      refine e_aloadn d_X11_next_15 rfl ?_
      refine e_get d_X11_next_16 f_X11_191 h_md rfl ?_
      refine e_baldN (k := i) d_X11_next_19 H_mtape rfl (by omega) (by omega) ?_
      refine e_bipush (v := 32) d_X11_next_20 (by decide) ?_
      rw [(hmt i (by omega)).1]
      refine e_icmp_eq d_X11_next_22 (fun c22 => ?_) (fun c22 => ?_)
      · have hb : isB (tb i) = true := decide_eq_true (Or.inl ((sb_eq (k := 32) hb8 (by decide)).mp c22))
        refine e_aloadn d_X11_next_39 rfl ?_
        refine e_dup d_X11_next_40 rfl ?_
        refine e_get d_X11_next_41 f_X11_191 h_md rfl ?_
        refine e_iconst (v := 1) d_X11_next_44 (by decide) ?_
        refine e_iadd d_X11_next_45 ?_
        refine e_puti d_X11_next_46 f_X11_191 h_md (Nat.le_of_ble_eq_true rfl) ?_
        refine e_gt d_X11_next_49 ?_
        refine ih_0 (i + 1) (by omega) (by omega) _ () () () ?_ ?_ ?_
        · exact h_F.up (by decide)
        · rw [← nI_1 i]; exact Hs.s h_md
        · refine ⟨by omega, fun j h1 h2 => ?_⟩
          by_cases e9 : j = i
          · rw [e9]; exact hb
          · exact h_p.2 j h1 (by omega)
      · have c22 : ¬ tb i = 32 := fun z => c22 ((sb_eq (k := 32) hb8 (by decide)).mpr z)
        refine e_aloadn d_X11_next_25 rfl ?_
        refine e_get d_X11_next_26 f_X11_16 h_md rfl ?_
        refine e_aloadn d_X11_next_29 rfl ?_
        refine e_get d_X11_next_30 f_X11_191 h_md rfl ?_
        refine e_baldN (k := i) d_X11_next_33 H_mtape rfl (by omega) (by omega) ?_
        refine e_bipush (v := 10) d_X11_next_34 (by decide) ?_
        rw [(hmt i (by omega)).1]
        refine e_icmp_ne d_X11_next_36 (fun c36 => ?_) (fun c36 => ?_)
        · have c36 : ¬ tb i = 10 := fun z => c36 ((sb_eq (k := 10) hb8 (by decide)).mpr z)
          have hb : isB (tb i) = false := decide_eq_false (by omega)
          have ee : i = (run isB tb L a) := run_end h_p.1 hi_i h_p.2 (Or.inr hb)
          refine e_aloadn d_X11_next_52 rfl ?_
          refine e_aloadn d_X11_next_53 rfl ?_
          refine e_get d_X11_next_54 f_X11_191 h_md rfl ?_
          refine e_puti d_X11_next_57 f_X11_197 h_md (Nat.le_of_ble_eq_true rfl) ?_
          refine e_aloadn d_X11_next_60 rfl ?_
          refine e_get d_X11_next_61 f_X11_191 h_md.s rfl ?_
          refine e_aloadn d_X11_next_64 rfl ?_
          refine e_get d_X11_next_65 f_X11_194 h_md.s rfl ?_
          refine e_icmp_ne d_X11_next_68 (fun _ => ?_) (fun z => by first | exact absurd (fun z => absurd (i_eq (by omega) (by omega) z) (by omega)) z | exact absurd z (fun z => absurd (i_eq (by omega) (by omega) z) (by omega)))
          refine e_aloadn d_X11_next_77 rfl ?_
          refine e_get d_X11_next_78 f_X11_16 h_md.s rfl ?_
          refine e_aloadn d_X11_next_81 rfl ?_
          refine e_get d_X11_next_82 f_X11_191 h_md.s rfl ?_
          refine e_baldN (k := i) d_X11_next_85 (H_mtape.n (by decide)) rfl (by omega) (by omega) ?_
          rw [(hmt i (by omega)).1]
          refine e_istoren d_X11_next_86 (by decide) rfl ?_
          refine e_iloadn d_X11_next_87 rfl ?_
          refine e_callSI d_X11_next_88 l_X11_next_203 (s_X11_isLetter hb8) rfl rfl (Nat.le_of_ble_eq_true rfl) ?_
          refine e_if_eq d_X11_next_91 (fun c91 => ?_) (fun c91 => ?_)
          · have hl9 : isL (tb i) = false := Bool.eq_false_iff.mpr (bI_0.mp c91)
            refine e_iloadn d_X11_next_211 rfl ?_
            refine e_bipush (v := 48) d_X11_next_212 (by decide) ?_
            refine e_bipush (v := 57) d_X11_next_214 (by decide) ?_
            refine e_callSI d_X11_next_216 l_X11_next_101 (s_X11_in) rfl rfl (Nat.le_of_ble_eq_true rfl) ?_
            refine e_if_eq d_X11_next_219 (fun c219 => ?_) (fun c219 => ?_)
            · have hd9 : isD (tb i) = false := decide_eq_false (fun z => bI_0.mp c219 ((sb_in (lo := 48) (hi := 57) hb8 (by decide) (by decide) (by decide)).mpr z))
              subst ee
              exact nxt_sg (h_F.up (by decide)) (Hs.s h_md) G_mtape hmt c hL hl9 hd9
            · have hd9 : isD (tb i) = true := decide_eq_true ((sb_in (lo := 48) (hi := 57) hb8 (by decide) (by decide) (by decide)).mp (bI_1.mp (bI_z.resolve_left c219)))
              skip
              refine e_aloadn d_X11_next_222 rfl ?_
              refine e_iconst (v := 2) d_X11_next_223 (by decide) ?_
              refine e_puti d_X11_next_224 f_X11_200 h_md.s (Nat.le_of_ble_eq_true rfl) ?_
              refine e_aloadn d_X11_next_227 rfl ?_
              refine e_iconst (v := 0) d_X11_next_228 (by decide) ?_
              refine e_puti d_X11_next_229 f_X11_212 h_md.s.s (Nat.le_of_ble_eq_true rfl) ?_
              have hA_232 : ∀ q, q ≤ L → ∀ (k2 : AH) (F2 : Unit) (p2 : Unit) (md2 : Unit), (Fr [66] h k2) → (i ≤ q ∧ ∀ j, i ≤ j → j < q → isD (tb j) = true) → (∃ v, Hs k2 66 (oMd mtp mfl mfa mup mlo (nI L) (nI q) (nI i) 2 (nI v) mwr mwp mop mfs mws mst mnc mnk mnr mdn mgu mgl) ∧ v ≤ 999999 ∧ numC tb i (q - i) = min v 10000) → E M_X11_next (0, 0) (rV (fun h' => (∃ so to : Int32, Hs h' 66 (oMd mtp mfl mfa mup mlo (nI L) (nI (tok tb L (run isB tb L a)).2) (nI (run isB tb L a)) so to mwr mwp mop mfs mws mst mnc mnk mnr mdn mgu mgl) ∧ TkM (tok tb L (run isB tb L a)).1 so to) ∧ Fr [66] h h')) 232 (k2) [some (.ref 66), some (.int (sbI (tb i))), none, none, none] [] := by
                refine loop_ind (n := L) ?_
                intro q hi_q ih_232 k2 F2 p2 md2 h_F2 h_p2 h_md2
                obtain ⟨v9, H_md2, hv9, hn9⟩ := id h_md2
                have H_mtape := h_F2.hs G_mtape (by decide)
                refine e_aloadn d_X11_next_232 rfl ?_
                refine e_get d_X11_next_233 f_X11_191 H_md2 rfl ?_
                refine e_aloadn d_X11_next_236 rfl ?_
                refine e_get d_X11_next_237 f_X11_194 H_md2 rfl ?_
                refine e_icmp_ge d_X11_next_240 (fun c240 => ?_) (fun c240 => ?_)
                · have c240 := i_le (by omega) (by omega) c240
                  have eq9 : q = (run isD tb L i) := run_end h_p2.1 hi_q h_p2.2 (Or.inl (by omega))
                  exact e_vret d_X11_next_439 rfl (⟨rfl, by rw [← ee, tok_n c hl9 hd9, ← eq9]; exact ⟨_, _, H_md2, by rw [hn9]; exact Or.inr (Or.inl ⟨by omega, rfl, v9, rfl, hv9, rfl⟩)⟩, h_F2⟩)
                · have c240 := i_nle (by omega) (by omega) c240
                  have hq8 := (hmt q (by omega)).2
                  refine e_aloadn d_X11_next_243 rfl ?_
                  refine e_get d_X11_next_244 f_X11_16 H_md2 rfl ?_
                  refine e_aloadn d_X11_next_247 rfl ?_
                  refine e_get d_X11_next_248 f_X11_191 H_md2 rfl ?_
                  refine e_baldN (k := q) d_X11_next_251 H_mtape rfl (by omega) (by omega) ?_
                  refine e_bipush (v := 48) d_X11_next_252 (by decide) ?_
                  refine e_bipush (v := 57) d_X11_next_254 (by decide) ?_
                  rw [(hmt q (by omega)).1]
                  refine e_callSI d_X11_next_256 l_X11_next_101 (s_X11_in) rfl rfl (Nat.le_of_ble_eq_true rfl) ?_
                  refine e_if_eq d_X11_next_259 (fun c259 => ?_) (fun c259 => ?_)
                  · have hbq : isD (tb q) = false := decide_eq_false (fun z => bI_0.mp c259 ((sb_in (lo := 48) (hi := 57) hq8 (by decide) (by decide) (by decide)).mpr z))
                    have eq9 : q = (run isD tb L i) := run_end h_p2.1 hi_q h_p2.2 (Or.inr hbq)
                    exact e_vret d_X11_next_439 rfl (⟨rfl, by rw [← ee, tok_n c hl9 hd9, ← eq9]; exact ⟨_, _, H_md2, by rw [hn9]; exact Or.inr (Or.inl ⟨by omega, rfl, v9, rfl, hv9, rfl⟩)⟩, h_F2⟩)
                  · have hbq : isD (tb q) = true := decide_eq_true ((sb_in (lo := 48) (hi := 57) hq8 (by decide) (by decide) (by decide)).mp (bI_1.mp (bI_z.resolve_left c259)))
                    have hbd := of_decide_eq_true hbq
                    refine e_aloadn d_X11_next_262 rfl ?_
                    refine e_aloadn d_X11_next_263 rfl ?_
                    refine e_get d_X11_next_264 f_X11_212 H_md2 rfl ?_
                    refine e_ldc d_X11_next_267 v_X11_215 ?_
                    refine e_icmp_le d_X11_next_269 (fun c269 => ?_) (fun c269 => ?_)
                    · have c269 := i_le (b := 99999) (by omega) (by decide) c269
                      refine e_bipush (v := 10) d_X11_next_279 (by decide) ?_
                      refine e_aloadn d_X11_next_281 rfl ?_
                      refine e_get d_X11_next_282 f_X11_212 H_md2 rfl ?_
                      refine e_imul d_X11_next_285 ?_
                      refine e_aloadn d_X11_next_286 rfl ?_
                      refine e_get d_X11_next_287 f_X11_16 H_md2 rfl ?_
                      refine e_aloadn d_X11_next_290 rfl ?_
                      refine e_get d_X11_next_291 f_X11_191 H_md2 rfl ?_
                      refine e_baldN (k := q) d_X11_next_294 H_mtape rfl (by omega) (by omega) ?_
                      rw [(hmt q (by omega)).1, sb_pos (b := tb q) (by omega)]
                      refine e_iadd d_X11_next_295 ?_
                      refine e_bipush (v := 48) d_X11_next_296 (by decide) ?_
                      refine e_isub d_X11_next_298 ?_
                      refine e_puti d_X11_next_299 f_X11_212 H_md2 (Nat.le_of_ble_eq_true rfl) ?_
                      refine e_aloadn d_X11_next_302 rfl ?_
                      refine e_dup d_X11_next_303 rfl ?_
                      refine e_get d_X11_next_304 f_X11_191 H_md2.s rfl ?_
                      refine e_iconst (v := 1) d_X11_next_307 (by decide) ?_
                      refine e_iadd d_X11_next_308 ?_
                      refine e_puti d_X11_next_309 f_X11_191 H_md2.s (Nat.le_of_ble_eq_true rfl) ?_
                      refine e_gt d_X11_next_312 ?_
                      refine ih_232 (q + 1) (by omega) (by omega) _ () () () ?_ ?_ ?_
                      · exact (h_F2.up (by decide)).up (by decide)
                      · refine ⟨by omega, fun j h1 h2 => ?_⟩
                        by_cases e9 : j = q
                        · rw [e9]; exact hbq
                        · exact h_p2.2 j h1 (by omega)
                      · first
                        | exact ⟨v9, by rw [← nI_1 q]; exact Hs.s (Hs.s H_md2), hv9, by rw [show q + 1 - i = q - i + 1 by omega, numC, hn9, show i + (q - i) = q by omega]; omega⟩
                        | exact ⟨v9 * 10 + tb q - 48, by rw [← nI_1 q, ← num_step hbd.1]; exact Hs.s (Hs.s H_md2), by omega, by rw [show q + 1 - i = q - i + 1 by omega, numC, hn9, show i + (q - i) = q by omega]; omega⟩
                    · have c269 := i_nle (b := 99999) (by omega) (by decide) c269
                      refine e_aloadn d_X11_next_272 rfl ?_
                      refine e_get d_X11_next_273 f_X11_212 H_md2 rfl ?_
                      refine e_gt d_X11_next_276 ?_
                      refine e_puti d_X11_next_299 f_X11_212 H_md2 (Nat.le_of_ble_eq_true rfl) ?_
                      refine e_aloadn d_X11_next_302 rfl ?_
                      refine e_dup d_X11_next_303 rfl ?_
                      refine e_get d_X11_next_304 f_X11_191 H_md2.s rfl ?_
                      refine e_iconst (v := 1) d_X11_next_307 (by decide) ?_
                      refine e_iadd d_X11_next_308 ?_
                      refine e_puti d_X11_next_309 f_X11_191 H_md2.s (Nat.le_of_ble_eq_true rfl) ?_
                      refine e_gt d_X11_next_312 ?_
                      refine ih_232 (q + 1) (by omega) (by omega) _ () () () ?_ ?_ ?_
                      · exact (h_F2.up (by decide)).up (by decide)
                      · refine ⟨by omega, fun j h1 h2 => ?_⟩
                        by_cases e9 : j = q
                        · rw [e9]; exact hbq
                        · exact h_p2.2 j h1 (by omega)
                      · first
                        | exact ⟨v9, by rw [← nI_1 q]; exact Hs.s (Hs.s H_md2), hv9, by rw [show q + 1 - i = q - i + 1 by omega, numC, hn9, show i + (q - i) = q by omega]; omega⟩
                        | exact ⟨v9 * 10 + tb q - 48, by rw [← nI_1 q, ← num_step hbd.1]; exact Hs.s (Hs.s H_md2), by omega, by rw [show q + 1 - i = q - i + 1 by omega, numC, hn9, show i + (q - i) = q by omega]; omega⟩
              exact hA_232 i (by omega) _ () () () (((h_F.up (by decide)).up (by decide)).up (by decide)) (⟨Nat.le_refl _, fun j h1 h2 => absurd h1 (by omega)⟩) (⟨0, Hs.s (Hs.s (Hs.s h_md)), by decide, by rw [Nat.sub_self]; rfl⟩)
          · have hl9 : isL (tb i) = true := bI_1.mp (bI_z.resolve_left c91)
            skip
            refine e_lconst (v := 0) d_X11_next_94 (by decide) ?_
            refine e_lstoren d_X11_next_95 (by decide) rfl ?_
            refine e_iconst (v := 0) d_X11_next_96 (by decide) ?_
            refine e_istore d_X11_next_97 (by decide) rfl ?_
            have hA_99 : ∀ q, q ≤ L → ∀ (k2 : AH) (F2 : Unit) (md2 : Unit) (p2 : Unit) (z : Int64) (y : Int32), (Fr [66] h k2) → (Hs k2 66 (oMd mtp mfl mfa mup mlo (nI L) (nI q) (nI i) mso mto mwr mwp mop mfs mws mst mnc mnk mnr mdn mgu mgl)) → (i ≤ q ∧ ∀ j, i ≤ j → j < q → isL (tb j) = true) → (q - i ≤ 8 → z = Int64.ofInt ((numG (fun k => tb (i + k)) (q - i) : Nat) : Int)) → (y = nI (q - i)) → E M_X11_next (0, 0) (rV (fun h' => (∃ so to : Int32, Hs h' 66 (oMd mtp mfl mfa mup mlo (nI L) (nI (tok tb L (run isB tb L a)).2) (nI (run isB tb L a)) so to mwr mwp mop mfs mws mst mnc mnk mnr mdn mgu mgl) ∧ TkM (tok tb L (run isB tb L a)).1 so to) ∧ Fr [66] h h')) 99 (k2) [some (.ref 66), some (.int (sbI (tb i))), some (.long z), none, some (.int y)] [] := by
              refine loop_ind (n := L) ?_
              intro q hi_q ih_99 k2 F2 md2 p2 z y h_F2 h_md2 h_p2 h_z h_y
              subst h_y
              have H_mtape := h_F2.hs G_mtape (by decide)
              refine e_aloadn d_X11_next_99 rfl ?_
              refine e_get d_X11_next_100 f_X11_191 h_md2 rfl ?_
              refine e_aloadn d_X11_next_103 rfl ?_
              refine e_get d_X11_next_104 f_X11_194 h_md2 rfl ?_
              refine e_icmp_ge d_X11_next_107 (fun c107 => ?_) (fun c107 => ?_)
              · have c107 := i_le (by omega) (by omega) c107
                have eq9 : q = (run isL tb L i) := run_end h_p2.1 hi_q h_p2.2 (Or.inl (by omega))
                refine e_aloadn d_X11_next_173 rfl ?_
                refine e_iload d_X11_next_174 rfl ?_
                refine e_bipush (v := 8) d_X11_next_176 (by decide) ?_
                have hqi : q - i < 1000 := by omega
                refine e_icmp_le d_X11_next_178 (fun c178 => ?_) (fun c178 => ?_)
                · have c178 := i_le (b := 8) (by omega) (by decide) c178
                  have hng := numG_lt (f := fun k => tb (i + k)) (q - i) (fun k hk => h_p2.2 (i + k) (by omega) (by omega))
                  have hnp : 64 ^ (q - i) ≤ 64 ^ 8 := Nat.pow_le_pow_right (by decide) c178
                  rw [h_z c178]
                  refine e_lloadn d_X11_next_185 rfl ?_
                  refine e_callRSI d_X11_next_186 l_X11_next_208 (s_X11_wordOf (by omega)) rfl rfl (Nat.le_of_ble_eq_true rfl) (fun v_9 h_9 q_9 s_9 => ?_)
                  obtain ⟨rfl, hv9⟩ := q_9
                  clear s_9
                  refine e_puti d_X11_next_189 f_X11_212 h_md2 (Nat.le_of_ble_eq_true rfl) ?_
                  refine e_aloadn d_X11_next_192 rfl ?_
                  refine e_aloadn d_X11_next_193 rfl ?_
                  refine e_get d_X11_next_194 f_X11_212 h_md2.s rfl ?_
                  refine e_if_ge d_X11_next_197 (fun c197 => ?_) (fun c197 => ?_)
                  · obtain ⟨w9, hw9, hx9, rfl⟩ := hv9.resolve_right (fun z => absurd c197 (by rw [z.2]; decide))
                    refine e_iconst (v := 1) d_X11_next_204 (by decide) ?_
                    refine e_puti d_X11_next_205 f_X11_200 h_md2.s (Nat.le_of_ble_eq_true rfl) ?_
                    refine e_gt d_X11_next_208 ?_
                    exact e_vret d_X11_next_439 rfl (⟨rfl, by
    rw [← ee, tok_w c hl9, ← eq9]
    first
    | (have hq1 := hwc; exact ⟨_, _, Hs.s (Hs.s h_md2), by rw [hwc]; exact Or.inr (Or.inr (Or.inr (Or.inr ⟨rfl, Or.inl rfl⟩)))⟩)
    | (have hq1 := hvn; exact ⟨_, _, Hs.s (Hs.s h_md2), by rw [wc_non hvn]; exact Or.inr (Or.inr (Or.inr (Or.inr ⟨rfl, Or.inl rfl⟩)))⟩)
    | exact ⟨_, _, Hs.s (Hs.s h_md2), by rw [wc_num h_p2.2 hw9 hx9]; exact Or.inr (Or.inr (Or.inl ⟨w9, hw9, rfl, rfl, rfl⟩))⟩, (h_F2.up (by decide)).up (by decide)⟩)
                  · obtain ⟨hvn, rfl⟩ := hv9.resolve_left (fun ⟨w, h1, _, h3⟩ => c197 (by rw [h3]; exact (nI_leI (a := 0) (by decide) (by omega)).mpr (Nat.zero_le _)))
                    refine e_iconst (v := 4) d_X11_next_200 (by decide) ?_
                    refine e_gt d_X11_next_201 ?_
                    refine e_puti d_X11_next_205 f_X11_200 h_md2.s (Nat.le_of_ble_eq_true rfl) ?_
                    refine e_gt d_X11_next_208 ?_
                    exact e_vret d_X11_next_439 rfl (⟨rfl, by
    rw [← ee, tok_w c hl9, ← eq9]
    first
    | (have hq1 := hwc; exact ⟨_, _, Hs.s (Hs.s h_md2), by rw [hwc]; exact Or.inr (Or.inr (Or.inr (Or.inr ⟨rfl, Or.inl rfl⟩)))⟩)
    | (have hq1 := hvn; exact ⟨_, _, Hs.s (Hs.s h_md2), by rw [wc_non hvn]; exact Or.inr (Or.inr (Or.inr (Or.inr ⟨rfl, Or.inl rfl⟩)))⟩)
    | exact ⟨_, _, Hs.s (Hs.s h_md2), by rw [wc_num h_p2.2 hw9 hx9]; exact Or.inr (Or.inr (Or.inl ⟨w9, hw9, rfl, rfl, rfl⟩))⟩, (h_F2.up (by decide)).up (by decide)⟩)
                · have c178 := i_nle (b := 8) (by omega) (by decide) c178
                  have hwc := wc_long (b := tb) (s := i) (e := q) (by omega)
                  refine e_iconst (v := -1) d_X11_next_181 (by decide) ?_
                  refine e_gt d_X11_next_182 ?_
                  refine e_puti d_X11_next_189 f_X11_212 h_md2 (Nat.le_of_ble_eq_true rfl) ?_
                  refine e_aloadn d_X11_next_192 rfl ?_
                  refine e_aloadn d_X11_next_193 rfl ?_
                  refine e_get d_X11_next_194 f_X11_212 h_md2.s rfl ?_
                  refine e_if_ge d_X11_next_197 (fun z => by first | exact absurd (by decide) z | exact absurd z (by decide)) (fun _ => ?_)
                  refine e_iconst (v := 4) d_X11_next_200 (by decide) ?_
                  refine e_gt d_X11_next_201 ?_
                  refine e_puti d_X11_next_205 f_X11_200 h_md2.s (Nat.le_of_ble_eq_true rfl) ?_
                  refine e_gt d_X11_next_208 ?_
                  exact e_vret d_X11_next_439 rfl (⟨rfl, by
    rw [← ee, tok_w c hl9, ← eq9]
    first
    | (have hq1 := hwc; exact ⟨_, _, Hs.s (Hs.s h_md2), by rw [hwc]; exact Or.inr (Or.inr (Or.inr (Or.inr ⟨rfl, Or.inl rfl⟩)))⟩)
    | (have hq1 := hvn; exact ⟨_, _, Hs.s (Hs.s h_md2), by rw [wc_non hvn]; exact Or.inr (Or.inr (Or.inr (Or.inr ⟨rfl, Or.inl rfl⟩)))⟩)
    | exact ⟨_, _, Hs.s (Hs.s h_md2), by rw [wc_num h_p2.2 hw9 hx9]; exact Or.inr (Or.inr (Or.inl ⟨w9, hw9, rfl, rfl, rfl⟩))⟩, (h_F2.up (by decide)).up (by decide)⟩)
              · have c107 := i_nle (by omega) (by omega) c107
                have hq8 := (hmt q (by omega)).2
                refine e_aloadn d_X11_next_110 rfl ?_
                refine e_get d_X11_next_111 f_X11_16 h_md2 rfl ?_
                refine e_aloadn d_X11_next_114 rfl ?_
                refine e_get d_X11_next_115 f_X11_191 h_md2 rfl ?_
                refine e_baldN (k := q) d_X11_next_118 H_mtape rfl (by omega) (by omega) ?_
                rw [(hmt q (by omega)).1]
                refine e_callSI d_X11_next_119 l_X11_next_203 (s_X11_isLetter hq8) rfl rfl (Nat.le_of_ble_eq_true rfl) ?_
                refine e_if_eq d_X11_next_122 (fun c122 => ?_) (fun c122 => ?_)
                · have hbq := Bool.eq_false_iff.mpr (bI_0.mp c122)
                  have eq9 : q = (run isL tb L i) := run_end h_p2.1 hi_q h_p2.2 (Or.inr hbq)
                  refine e_aloadn d_X11_next_173 rfl ?_
                  refine e_iload d_X11_next_174 rfl ?_
                  refine e_bipush (v := 8) d_X11_next_176 (by decide) ?_
                  have hqi : q - i < 1000 := by omega
                  refine e_icmp_le d_X11_next_178 (fun c178 => ?_) (fun c178 => ?_)
                  · have c178 := i_le (b := 8) (by omega) (by decide) c178
                    have hng := numG_lt (f := fun k => tb (i + k)) (q - i) (fun k hk => h_p2.2 (i + k) (by omega) (by omega))
                    have hnp : 64 ^ (q - i) ≤ 64 ^ 8 := Nat.pow_le_pow_right (by decide) c178
                    rw [h_z c178]
                    refine e_lloadn d_X11_next_185 rfl ?_
                    refine e_callRSI d_X11_next_186 l_X11_next_208 (s_X11_wordOf (by omega)) rfl rfl (Nat.le_of_ble_eq_true rfl) (fun v_9 h_9 q_9 s_9 => ?_)
                    obtain ⟨rfl, hv9⟩ := q_9
                    clear s_9
                    refine e_puti d_X11_next_189 f_X11_212 h_md2 (Nat.le_of_ble_eq_true rfl) ?_
                    refine e_aloadn d_X11_next_192 rfl ?_
                    refine e_aloadn d_X11_next_193 rfl ?_
                    refine e_get d_X11_next_194 f_X11_212 h_md2.s rfl ?_
                    refine e_if_ge d_X11_next_197 (fun c197 => ?_) (fun c197 => ?_)
                    · obtain ⟨w9, hw9, hx9, rfl⟩ := hv9.resolve_right (fun z => absurd c197 (by rw [z.2]; decide))
                      refine e_iconst (v := 1) d_X11_next_204 (by decide) ?_
                      refine e_puti d_X11_next_205 f_X11_200 h_md2.s (Nat.le_of_ble_eq_true rfl) ?_
                      refine e_gt d_X11_next_208 ?_
                      exact e_vret d_X11_next_439 rfl (⟨rfl, by
    rw [← ee, tok_w c hl9, ← eq9]
    first
    | (have hq1 := hwc; exact ⟨_, _, Hs.s (Hs.s h_md2), by rw [hwc]; exact Or.inr (Or.inr (Or.inr (Or.inr ⟨rfl, Or.inl rfl⟩)))⟩)
    | (have hq1 := hvn; exact ⟨_, _, Hs.s (Hs.s h_md2), by rw [wc_non hvn]; exact Or.inr (Or.inr (Or.inr (Or.inr ⟨rfl, Or.inl rfl⟩)))⟩)
    | exact ⟨_, _, Hs.s (Hs.s h_md2), by rw [wc_num h_p2.2 hw9 hx9]; exact Or.inr (Or.inr (Or.inl ⟨w9, hw9, rfl, rfl, rfl⟩))⟩, (h_F2.up (by decide)).up (by decide)⟩)
                    · obtain ⟨hvn, rfl⟩ := hv9.resolve_left (fun ⟨w, h1, _, h3⟩ => c197 (by rw [h3]; exact (nI_leI (a := 0) (by decide) (by omega)).mpr (Nat.zero_le _)))
                      refine e_iconst (v := 4) d_X11_next_200 (by decide) ?_
                      refine e_gt d_X11_next_201 ?_
                      refine e_puti d_X11_next_205 f_X11_200 h_md2.s (Nat.le_of_ble_eq_true rfl) ?_
                      refine e_gt d_X11_next_208 ?_
                      exact e_vret d_X11_next_439 rfl (⟨rfl, by
    rw [← ee, tok_w c hl9, ← eq9]
    first
    | (have hq1 := hwc; exact ⟨_, _, Hs.s (Hs.s h_md2), by rw [hwc]; exact Or.inr (Or.inr (Or.inr (Or.inr ⟨rfl, Or.inl rfl⟩)))⟩)
    | (have hq1 := hvn; exact ⟨_, _, Hs.s (Hs.s h_md2), by rw [wc_non hvn]; exact Or.inr (Or.inr (Or.inr (Or.inr ⟨rfl, Or.inl rfl⟩)))⟩)
    | exact ⟨_, _, Hs.s (Hs.s h_md2), by rw [wc_num h_p2.2 hw9 hx9]; exact Or.inr (Or.inr (Or.inl ⟨w9, hw9, rfl, rfl, rfl⟩))⟩, (h_F2.up (by decide)).up (by decide)⟩)
                  · have c178 := i_nle (b := 8) (by omega) (by decide) c178
                    have hwc := wc_long (b := tb) (s := i) (e := q) (by omega)
                    refine e_iconst (v := -1) d_X11_next_181 (by decide) ?_
                    refine e_gt d_X11_next_182 ?_
                    refine e_puti d_X11_next_189 f_X11_212 h_md2 (Nat.le_of_ble_eq_true rfl) ?_
                    refine e_aloadn d_X11_next_192 rfl ?_
                    refine e_aloadn d_X11_next_193 rfl ?_
                    refine e_get d_X11_next_194 f_X11_212 h_md2.s rfl ?_
                    refine e_if_ge d_X11_next_197 (fun z => by first | exact absurd (by decide) z | exact absurd z (by decide)) (fun _ => ?_)
                    refine e_iconst (v := 4) d_X11_next_200 (by decide) ?_
                    refine e_gt d_X11_next_201 ?_
                    refine e_puti d_X11_next_205 f_X11_200 h_md2.s (Nat.le_of_ble_eq_true rfl) ?_
                    refine e_gt d_X11_next_208 ?_
                    exact e_vret d_X11_next_439 rfl (⟨rfl, by
    rw [← ee, tok_w c hl9, ← eq9]
    first
    | (have hq1 := hwc; exact ⟨_, _, Hs.s (Hs.s h_md2), by rw [hwc]; exact Or.inr (Or.inr (Or.inr (Or.inr ⟨rfl, Or.inl rfl⟩)))⟩)
    | (have hq1 := hvn; exact ⟨_, _, Hs.s (Hs.s h_md2), by rw [wc_non hvn]; exact Or.inr (Or.inr (Or.inr (Or.inr ⟨rfl, Or.inl rfl⟩)))⟩)
    | exact ⟨_, _, Hs.s (Hs.s h_md2), by rw [wc_num h_p2.2 hw9 hx9]; exact Or.inr (Or.inr (Or.inl ⟨w9, hw9, rfl, rfl, rfl⟩))⟩, (h_F2.up (by decide)).up (by decide)⟩)
                · have hbq : isL (tb q) = true := bI_1.mp (bI_z.resolve_left c122)
                  refine e_iload d_X11_next_125 rfl ?_
                  refine e_bipush (v := 9) d_X11_next_127 (by decide) ?_
                  refine e_icmp_ge d_X11_next_129 (fun c129 => ?_) (fun c129 => ?_)
                  · refine e_lloadn d_X11_next_155 rfl ?_
                    refine e_lstoren d_X11_next_156 (by decide) rfl ?_
                    refine e_iincw (w := 1) d_X11_next_157 rfl (by decide) (by decide) rfl ?_
                    refine e_aloadn d_X11_next_160 rfl ?_
                    refine e_dup d_X11_next_161 rfl ?_
                    refine e_get d_X11_next_162 f_X11_191 h_md2 rfl ?_
                    refine e_iconst (v := 1) d_X11_next_165 (by decide) ?_
                    refine e_iadd d_X11_next_166 ?_
                    refine e_puti d_X11_next_167 f_X11_191 h_md2 (Nat.le_of_ble_eq_true rfl) ?_
                    refine e_gt d_X11_next_170 ?_
                    refine ih_99 (q + 1) (by omega) (by omega) _ () () () _ _ ?_ ?_ ?_ ?_ ?_
                    · exact h_F2.up (by decide)
                    · rw [← nI_1 q]; exact Hs.s h_md2
                    · refine ⟨by omega, fun j h1 h2 => ?_⟩
                      by_cases e9 : j = q
                      · rw [e9]; exact hbq
                      · exact h_p2.2 j h1 (by omega)
                    · intro h9
                      first
                      | exact absurd (i_le (a := 9) (by decide) (by omega) c129) (by omega)
                      | (rw [h_z (by omega), show q + 1 - i = q - i + 1 by omega]; exact let_step hbq (show i + (q - i) = q by omega))
                    · rw [show q + 1 - i = q - i + 1 by omega]; exact nI_1 _
                  · refine e_ldc2 d_X11_next_132 v_X11_206 ?_
                    refine e_lloadn d_X11_next_135 rfl ?_
                    refine e_lmul d_X11_next_136 ?_
                    refine e_aloadn d_X11_next_137 rfl ?_
                    refine e_get d_X11_next_138 f_X11_16 h_md2 rfl ?_
                    refine e_aloadn d_X11_next_141 rfl ?_
                    refine e_get d_X11_next_142 f_X11_191 h_md2 rfl ?_
                    refine e_baldN (k := q) d_X11_next_145 H_mtape rfl (by omega) (by omega) ?_
                    rw [(hmt q (by omega)).1]
                    refine e_i2l d_X11_next_146 ?_
                    refine e_ladd d_X11_next_147 ?_
                    refine e_ldc2 d_X11_next_148 v_X11_206 ?_
                    refine e_lsub d_X11_next_151 ?_
                    refine e_gt d_X11_next_152 ?_
                    refine e_lstoren d_X11_next_156 (by decide) rfl ?_
                    refine e_iincw (w := 1) d_X11_next_157 rfl (by decide) (by decide) rfl ?_
                    refine e_aloadn d_X11_next_160 rfl ?_
                    refine e_dup d_X11_next_161 rfl ?_
                    refine e_get d_X11_next_162 f_X11_191 h_md2 rfl ?_
                    refine e_iconst (v := 1) d_X11_next_165 (by decide) ?_
                    refine e_iadd d_X11_next_166 ?_
                    refine e_puti d_X11_next_167 f_X11_191 h_md2 (Nat.le_of_ble_eq_true rfl) ?_
                    refine e_gt d_X11_next_170 ?_
                    refine ih_99 (q + 1) (by omega) (by omega) _ () () () _ _ ?_ ?_ ?_ ?_ ?_
                    · exact h_F2.up (by decide)
                    · rw [← nI_1 q]; exact Hs.s h_md2
                    · refine ⟨by omega, fun j h1 h2 => ?_⟩
                      by_cases e9 : j = q
                      · rw [e9]; exact hbq
                      · exact h_p2.2 j h1 (by omega)
                    · intro h9
                      first
                      | exact absurd (i_le (a := 9) (by decide) (by omega) c129) (by omega)
                      | (rw [h_z (by omega), show q + 1 - i = q - i + 1 by omega]; exact let_step hbq (show i + (q - i) = q by omega))
                    · rw [show q + 1 - i = q - i + 1 by omega]; exact nI_1 _
            exact hA_99 i (by omega) _ () () () _ _ (h_F.up (by decide)) (Hs.s h_md) (⟨Nat.le_refl _, fun j h1 h2 => absurd h1 (by omega)⟩) (fun _ => by rw [Nat.sub_self]; rfl) (by rw [Nat.sub_self]; rfl)
        · have hb : isB (tb i) = true := decide_eq_true (Or.inr ((sb_eq (k := 10) hb8 (by decide)).mp c36))
          refine e_aloadn d_X11_next_39 rfl ?_
          refine e_dup d_X11_next_40 rfl ?_
          refine e_get d_X11_next_41 f_X11_191 h_md rfl ?_
          refine e_iconst (v := 1) d_X11_next_44 (by decide) ?_
          refine e_iadd d_X11_next_45 ?_
          refine e_puti d_X11_next_46 f_X11_191 h_md (Nat.le_of_ble_eq_true rfl) ?_
          refine e_gt d_X11_next_49 ?_
          refine ih_0 (i + 1) (by omega) (by omega) _ () () () ?_ ?_ ?_
          · exact h_F.up (by decide)
          · rw [← nI_1 i]; exact Hs.s h_md
          · refine ⟨by omega, fun j h1 h2 => ?_⟩
            by_cases e9 : j = i
            · rw [e9]; exact hb
            · exact h_p.2 j h1 (by omega)
  exact hA_0 a (by omega) _ () () () (Fr.refl _ _) (H_md) (⟨Nat.le_refl _, fun j h1 h2 => absurd h1 (by omega)⟩)
