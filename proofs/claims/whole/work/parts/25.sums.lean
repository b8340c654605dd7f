/-! TALLY, twice: the sums of any set -/
theorem bt_tb (S c : Nat) : bt S c = S.testBit c := by
  rw [Nat.testBit_eq_decide_div_mod_eq, bt, Bool.eq_iff_iff]; simp
theorem pS_14 {o : Nat → Nat} (S : Nat) : pS o 14 S = pS o 7 (S % 128) + pS (fun k => o (7 + k)) 7 (S / 128) := by
  have h1 : pS o 14 S = sm (fun c => if bt S c then o c else 0) 7 + sm (fun k => if bt S (7 + k) then o (7 + k) else 0) 7 := sm_split _ 7 7
  rw [h1]
  congr 1
  · refine sm_cong (fun c hc => ?_)
    rw [bt_tb, bt_tb, show 128 = 2 ^ 7 from rfl, Nat.testBit_mod_two_pow]
    simp [hc]
  · refine sm_cong (fun c hc => ?_)
    rw [bt_tb, bt_tb, show 128 = 2 ^ 7 from rfl, Nat.testBit_div_two_pow, Nat.add_comm c 7]
def TB (g1 g2 : Nat → Int32) (o : Nat → Nat) : Prop := (∀ S, S < 128 → g1 S = nI (pS o 7 S)) ∧ ∀ S, S < 128 → g2 S = nI (pS (fun k => o (7 + k)) 7 S)
theorem pS_own {ans less : Nat → Int32} {T A : Nat} (k S : Nat) : pS (own ans less T A) k S = 65536 * dN (cF ans T A) S k + dS (cF ans T A) (cV ans less T) S k := by
  simp only [dN, dS, pS]
  rw [← sm_mul, ← sm_add]
  refine sm_cong (fun c _ => ?_)
  simp only [own]
  cases cF ans T A c <;> cases bt S c <;> simp
theorem cV_99 {ans less : Nat → Int32} {T : Nat} {A : Nat} (hV : ∀ c, c < 14 → ans (T * 14 + c) = -1 ∨ ∃ v, v ≤ 99 ∧ ans (T * 14 + c) = nI v) : ∀ c, c < 14 → cF ans T A c = true → cV ans less T c ≤ 99 := by
  intro c hc hF
  simp only [cF, Bool.and_eq_true, decide_eq_true_eq] at hF
  rcases hV c hc with e | ⟨v, hv, e⟩
  · exact absurd e hF.1
  · simp only [cV, e, clamp99 hv]; split <;> omega
theorem bt_all : ∀ c, c < 14 → bt 16383 c = true := by decide +kernel
theorem dN_all {F : Nat → Bool} {S : Nat} : dN F 16383 14 = dN F S 14 + dM F S 14 := by
  simp only [dN, dM]
  rw [← sm_add]
  refine sm_cong (fun c hc => ?_)
  rw [bt_all c hc]
  cases F c <;> cases bt S c <;> simp
theorem dS_all {F : Nat → Bool} {V : Nat → Nat} {S : Nat} : dS F V 16383 14 = dS F V S 14 + dR F V S 14 := by
  simp only [dS, dR]
  rw [← sm_add]
  refine sm_cong (fun c hc => ?_)
  rw [bt_all c hc]
  cases F c <;> cases bt S c <;> simp
theorem lo16 {n s : Nat} (h : s < 65536) (hn : n < 32768) : nI (65536 * n + s) &&& 65535 = nI s := by
  rw [pk_andN (k := 16) (by omega) (by decide)]; congr 1; omega
theorem hi16 {n s : Nat} (h : s < 65536) (hn : n < 32768) : nI (65536 * n + s) >>> ((16 : Int32) &&& 31) = nI n := by
  have := shrN (S := 65536 * n + s) (c := 16) (by omega) (by decide)
  rw [show ((16 : Int32) &&& 31) = (nI 16 &&& 31) from rfl, this]; congr 1; omega
theorem dU_16 {F : Nat → Bool} {V : Nat → Nat} {S : Nat} : nI (dS F V S 14) * nI (dN F 16383 14) - nI (dS F V 16383 14) * nI (dN F S 14) = Int32.ofInt (dU F V S 14) := by
  rw [pk_mul, pk_mul, nI_subI, dN_all (S := S), dS_all (S := S)]
  congr 1
  simp only [dU]
  rw [Nat.mul_add, Nat.add_mul]
  omega
theorem and127 {S : Nat} (hS : S < 2 ^ 31) : nI S &&& 127 = nI (S % 128) := pk_andN (k := 7) (by omega) (by decide)

theorem s_X7_part0_a {h : AH} {whole : Int32} {g1 g2 : Nat → Int32} {o : Nat → Nat} {x : Int32} (H_ta : Hs h 31 (oTa 31 whole)) (H_al : Hs h 32 (aI 128 g1)) (H_ah : Hs h 33 (aI 128 g2)) {S : Nat} (hx : x &&& 127 = nI (S % 128) ∧ (x >>> ((7 : Int32) &&& 31)) &&& 127 = nI (S / 128)) (hS : S < 16384) (hT : TB g1 g2 o) : Sp M_X7_part (0, 0) h [.ref 31, .int x] (pI (nI (pS o 14 S)) h) := by
  refine ⟨Nat.le_of_ble_eq_true rfl, ?_⟩
  show E _ _ _ 0 h [some (.ref 31), some (.int x)] []
  refine e_aloadn d_X7_part_0 rfl ?_
  refine e_get d_X7_part_1 f_X7_11 H_ta rfl ?_
  refine e_iloadn d_X7_part_4 rfl ?_
  refine e_bipush (v := 127) d_X7_part_5 (by decide) ?_
  refine e_iand d_X7_part_7 ?_
  refine e_ialdN (k := S % 128) d_X7_part_8 H_al hx.1 (by omega) (by omega) ?_
  refine e_aloadn d_X7_part_9 rfl ?_
  refine e_get d_X7_part_10 f_X7_15 H_ta rfl ?_
  refine e_iloadn d_X7_part_13 rfl ?_
  refine e_bipush (v := 7) d_X7_part_14 (by decide) ?_
  refine e_ishr d_X7_part_16 ?_
  refine e_bipush (v := 127) d_X7_part_17 (by decide) ?_
  refine e_iand d_X7_part_19 ?_
  refine e_ialdN (k := S / 128) d_X7_part_20 H_ah hx.2 (by omega) (by omega) ?_
  refine e_iadd d_X7_part_21 ?_
  exact e_iret d_X7_part_22 rfl (rfl) (⟨by rw [hT.1 _ (by omega), hT.2 _ (by omega), nI_add, pS_14], rfl⟩)

theorem s_X7_part_a {h : AH} {whole : Int32} {g1 g2 : Nat → Int32} {o : Nat → Nat} (H_ta : Hs h 31 (oTa 31 whole)) (H_al : Hs h 32 (aI 128 g1)) (H_ah : Hs h 33 (aI 128 g2)) {S : Nat} (hT : TB g1 g2 o) (hS : S < 16384) : Sp M_X7_part (0, 0) h [.ref 31, .int (nI S)] (pI (nI (pS o 14 S)) h) := by
  refine s_X7_part0_a H_ta H_al H_ah ⟨and127 (by omega), ?_⟩ hS hT
  rw [show ((7 : Int32) &&& 31) = (nI 7 &&& 31) from rfl, shrN (by omega) (by decide), and127 (by omega)]
  congr 1
  exact Nat.mod_eq_of_lt (by omega)
theorem s_X7_partm_a {h : AH} {whole : Int32} {g1 g2 : Nat → Int32} {o : Nat → Nat} (H_ta : Hs h 31 (oTa 31 whole)) (H_al : Hs h 32 (aI 128 g1)) (H_ah : Hs h 33 (aI 128 g2)) (hT : TB g1 g2 o) : Sp M_X7_part (0, 0) h [.ref 31, .int (-1)] (pI (nI (pS o 14 16383)) h) :=
  s_X7_part0_a H_ta H_al H_ah (S := 16383) ⟨by decide, by decide⟩ (by decide) hT

theorem s_X7_load_a {h : AH} {less ans low high : Nat → Int32} {whole : Int32} {T A n : Nat} (H_th : Hs h 6 (oTh (nI n))) (H_tl_ : Hs h 9 (aZ 12 less)) (H_an : Hs h 11 (aI 168 ans)) (H_ta : Hs h 31 (oTa 31 whole)) (H_al : Hs h 32 (aI 128 low)) (H_ah : Hs h 33 (aI 128 high)) (h_l : low 0 = 0) (h_h : high 0 = 0) (hT : T < n) (hn : n ≤ 12) (hA : A < 2 ^ 31) (hV : ∀ c, c < 14 → ans (T * 14 + c) = -1 ∨ ∃ v, v ≤ 99 ∧ ans (T * 14 + c) = nI v) : Sp M_X7_load (0, 0) h [.ref 31, .ref 6, .int (nI T), .int (nI A)] (rV (fun h' => ∃ g1 g2 : Nat → Int32, h' = up (up (up h 32 (aI 128 g1)) 33 (aI 128 g2)) 31 (oTa 31 (nI (pS (own ans less T A) 14 16383))) ∧ TB g1 g2 (own ans less T A))) := by
  refine ⟨Nat.le_of_ble_eq_true rfl, ?_⟩
  show E _ _ _ 0 h [some (.ref 31), some (.ref 6), some (.int (nI T)), some (.int (nI A))] []
  refine e_aloadn d_X7_load_0 rfl ?_
  refine e_get d_X7_load_1 f_X7_11 H_ta rfl ?_
  refine e_aloadn d_X7_load_4 rfl ?_
  refine e_iloadn d_X7_load_5 rfl ?_
  refine e_iloadn d_X7_load_6 rfl ?_
  refine e_iconst (v := 0) d_X7_load_7 (by decide) ?_
  refine e_callRSV d_X7_load_8 l_X7_load_21 (s_X7_fill (T := T) (A := A) (f := 0) H_th H_tl_ H_an H_al (by assumption) hT hn (by omega) hA (by decide) hV) rfl rfl (Nat.le_of_ble_eq_true rfl) (fun h1 q1 s1 => ?_)
  obtain ⟨g1, rfl, hg1⟩ := q1
  refine e_aloadn d_X7_load_11 rfl ?_
  refine e_get d_X7_load_12 f_X7_15 (H_ta.n (by decide)) rfl ?_
  refine e_aloadn d_X7_load_15 rfl ?_
  refine e_iloadn d_X7_load_16 rfl ?_
  refine e_iloadn d_X7_load_17 rfl ?_
  refine e_bipush (v := 7) d_X7_load_18 (by decide) ?_
  refine e_callRSV d_X7_load_20 l_X7_load_21 (s_X7_fill (T := T) (A := A) (f := 7) (H_th.n (by decide)) (H_tl_.n (by decide)) (H_an.n (by decide)) (H_ah.n (by decide)) (by assumption) hT hn (by omega) hA (by decide) hV) rfl rfl (Nat.le_of_ble_eq_true rfl) (fun h2 q2 s2 => ?_)
  obtain ⟨g2, rfl, hg2⟩ := q2
  have hTB : TB g1 g2 (own ans less T A) := ⟨fun S hS => by rw [hg1 S hS]; simp only [Nat.zero_add], hg2⟩
  refine e_aloadn d_X7_load_23 rfl ?_
  refine e_aloadn d_X7_load_24 rfl ?_
  refine e_iconst (v := -1) d_X7_load_25 (by decide) ?_
  refine e_callVI d_X7_load_26 l_X7_load_25 ((H_ta.n (by decide)).n (by decide)) rfl rfl (s_X7_partm_a ((H_ta.n (by decide)).n (by decide)) (H_al.s.n (by decide)) ((H_ah.n (by decide)).s) hTB) rfl rfl (Nat.le_of_ble_eq_true rfl) ?_
  refine e_puti d_X7_load_29 f_X7_29 ((H_ta.n (by decide)).n (by decide)) (Nat.le_of_ble_eq_true rfl) ?_
  exact e_vret d_X7_load_32 rfl (⟨rfl, g1, g2, rfl, hTB⟩)

theorem s_X7_upper_a {h : AH} {g1 g2 ans less : Nat → Int32} {T A : Nat} (H_ta : Hs h 31 (oTa 31 (nI (pS (own ans less T A) 14 16383)))) (H_al : Hs h 32 (aI 128 g1)) (H_ah : Hs h 33 (aI 128 g2)) {S : Nat} (hT : TB g1 g2 (own ans less T A)) (hS : S < 16384) (hV : ∀ c, c < 14 → ans (T * 14 + c) = -1 ∨ ∃ v, v ≤ 99 ∧ ans (T * 14 + c) = nI v) : Sp M_X7_upper (0, 0) h [.ref 31, .int (nI S)] (pI (Int32.ofInt (dU (cF ans T A) (cV ans less T) S 14)) h) := by
  refine ⟨Nat.le_of_ble_eq_true rfl, ?_⟩
  show E _ _ _ 0 h [some (.ref 31), some (.int (nI S)), none] []
  have bn := dN_le (F := (cF ans T A)) (S := S) (k := 14)
  have bs := dS_le (F := (cF ans T A)) (V := (cV ans less T)) (S := S) (k := 14) (cV_99 hV)
  have ba := dN_le (F := (cF ans T A)) (S := 16383) (k := 14)
  have bb := dS_le (F := (cF ans T A)) (V := (cV ans less T)) (S := 16383) (k := 14) (cV_99 hV)
  refine e_aloadn d_X7_upper_0 rfl ?_
  refine e_iloadn d_X7_upper_1 rfl ?_
  refine e_callVI d_X7_upper_2 l_X7_upper_25 H_ta rfl rfl (s_X7_part_a H_ta H_al H_ah hT hS) rfl rfl (Nat.le_of_ble_eq_true rfl) ?_
  refine e_istoren d_X7_upper_5 (by decide) rfl ?_
  refine e_iloadn d_X7_upper_6 rfl ?_
  refine e_ldc d_X7_upper_7 v_X7_40 ?_
  refine e_iand d_X7_upper_9 ?_
  refine e_aloadn d_X7_upper_10 rfl ?_
  refine e_get d_X7_upper_11 f_X7_29 H_ta rfl ?_
  refine e_bipush (v := 16) d_X7_upper_14 (by decide) ?_
  refine e_ishr d_X7_upper_16 ?_
  refine e_imul d_X7_upper_17 ?_
  refine e_aloadn d_X7_upper_18 rfl ?_
  refine e_get d_X7_upper_19 f_X7_29 H_ta rfl ?_
  refine e_ldc d_X7_upper_22 v_X7_40 ?_
  refine e_iand d_X7_upper_24 ?_
  refine e_iloadn d_X7_upper_25 rfl ?_
  refine e_bipush (v := 16) d_X7_upper_26 (by decide) ?_
  refine e_ishr d_X7_upper_28 ?_
  refine e_imul d_X7_upper_29 ?_
  refine e_isub d_X7_upper_30 ?_
  exact e_iret d_X7_upper_31 rfl (rfl) (⟨by rw [pS_own, pS_own, lo16 (by omega) (by omega), lo16 (by omega) (by omega), hi16 (by omega) (by omega), hi16 (by omega) (by omega), dU_16], rfl⟩)

theorem s_X7_lower_a {h : AH} {g1 g2 ans less : Nat → Int32} {T A : Nat} (H_ta : Hs h 31 (oTa 31 (nI (pS (own ans less T A) 14 16383)))) (H_al : Hs h 32 (aI 128 g1)) (H_ah : Hs h 33 (aI 128 g2)) {S : Nat} (hT : TB g1 g2 (own ans less T A)) (hS : S < 16384) (hV : ∀ c, c < 14 → ans (T * 14 + c) = -1 ∨ ∃ v, v ≤ 99 ∧ ans (T * 14 + c) = nI v) : Sp M_X7_lower (0, 0) h [.ref 31, .int (nI S)] (pI (nI (dN (cF ans T A) S 14 * dM (cF ans T A) S 14)) h) := by
  refine ⟨Nat.le_of_ble_eq_true rfl, ?_⟩
  show E _ _ _ 0 h [some (.ref 31), some (.int (nI S)), none] []
  have bn := dN_le (F := (cF ans T A)) (S := S) (k := 14)
  have bs := dS_le (F := (cF ans T A)) (V := (cV ans less T)) (S := S) (k := 14) (cV_99 hV)
  have ba := dN_le (F := (cF ans T A)) (S := 16383) (k := 14)
  have bb := dS_le (F := (cF ans T A)) (V := (cV ans less T)) (S := 16383) (k := 14) (cV_99 hV)
  refine e_aloadn d_X7_lower_0 rfl ?_
  refine e_iloadn d_X7_lower_1 rfl ?_
  refine e_callVI d_X7_lower_2 l_X7_lower_25 H_ta rfl rfl (s_X7_part_a H_ta H_al H_ah hT hS) rfl rfl (Nat.le_of_ble_eq_true rfl) ?_
  refine e_bipush (v := 16) d_X7_lower_5 (by decide) ?_
  refine e_ishr d_X7_lower_7 ?_
  refine e_istoren d_X7_lower_8 (by decide) rfl ?_
  refine e_iloadn d_X7_lower_9 rfl ?_
  refine e_aloadn d_X7_lower_10 rfl ?_
  refine e_get d_X7_lower_11 f_X7_29 H_ta rfl ?_
  refine e_bipush (v := 16) d_X7_lower_14 (by decide) ?_
  refine e_ishr d_X7_lower_16 ?_
  refine e_iloadn d_X7_lower_17 rfl ?_
  refine e_isub d_X7_lower_18 ?_
  refine e_imul d_X7_lower_19 ?_
  exact e_iret d_X7_lower_20 rfl (rfl) (⟨by rw [pS_own, pS_own, hi16 (by omega) (by omega), hi16 (by omega) (by omega), dN_all (S := S), pk_sub (by omega), Nat.add_sub_cancel_left, pk_mul], rfl⟩)

theorem s_X7_part0_b {h : AH} {wholeb : Int32} {g1 g2 : Nat → Int32} {o : Nat → Nat} {x : Int32} (H_tb : Hs h 35 (oTa 35 wholeb)) (H_bl : Hs h 36 (aI 128 g1)) (H_bh : Hs h 37 (aI 128 g2)) {S : Nat} (hx : x &&& 127 = nI (S % 128) ∧ (x >>> ((7 : Int32) &&& 31)) &&& 127 = nI (S / 128)) (hS : S < 16384) (hT : TB g1 g2 o) : Sp M_X7_part (0, 0) h [.ref 35, .int x] (pI (nI (pS o 14 S)) h) := by
  refine ⟨Nat.le_of_ble_eq_true rfl, ?_⟩
  show E _ _ _ 0 h [some (.ref 35), some (.int x)] []
  refine e_aloadn d_X7_part_0 rfl ?_
  refine e_get d_X7_part_1 f_X7_11 H_tb rfl ?_
  refine e_iloadn d_X7_part_4 rfl ?_
  refine e_bipush (v := 127) d_X7_part_5 (by decide) ?_
  refine e_iand d_X7_part_7 ?_
  refine e_ialdN (k := S % 128) d_X7_part_8 H_bl hx.1 (by omega) (by omega) ?_
  refine e_aloadn d_X7_part_9 rfl ?_
  refine e_get d_X7_part_10 f_X7_15 H_tb rfl ?_
  refine e_iloadn d_X7_part_13 rfl ?_
  refine e_bipush (v := 7) d_X7_part_14 (by decide) ?_
  refine e_ishr d_X7_part_16 ?_
  refine e_bipush (v := 127) d_X7_part_17 (by decide) ?_
  refine e_iand d_X7_part_19 ?_
  refine e_ialdN (k := S / 128) d_X7_part_20 H_bh hx.2 (by omega) (by omega) ?_
  refine e_iadd d_X7_part_21 ?_
  exact e_iret d_X7_part_22 rfl (rfl) (⟨by rw [hT.1 _ (by omega), hT.2 _ (by omega), nI_add, pS_14], rfl⟩)

theorem s_X7_part_b {h : AH} {wholeb : Int32} {g1 g2 : Nat → Int32} {o : Nat → Nat} (H_tb : Hs h 35 (oTa 35 wholeb)) (H_bl : Hs h 36 (aI 128 g1)) (H_bh : Hs h 37 (aI 128 g2)) {S : Nat} (hT : TB g1 g2 o) (hS : S < 16384) : Sp M_X7_part (0, 0) h [.ref 35, .int (nI S)] (pI (nI (pS o 14 S)) h) := by
  refine s_X7_part0_b H_tb H_bl H_bh ⟨and127 (by omega), ?_⟩ hS hT
  rw [show ((7 : Int32) &&& 31) = (nI 7 &&& 31) from rfl, shrN (by omega) (by decide), and127 (by omega)]
  congr 1
  exact Nat.mod_eq_of_lt (by omega)
theorem s_X7_partm_b {h : AH} {wholeb : Int32} {g1 g2 : Nat → Int32} {o : Nat → Nat} (H_tb : Hs h 35 (oTa 35 wholeb)) (H_bl : Hs h 36 (aI 128 g1)) (H_bh : Hs h 37 (aI 128 g2)) (hT : TB g1 g2 o) : Sp M_X7_part (0, 0) h [.ref 35, .int (-1)] (pI (nI (pS o 14 16383)) h) :=
  s_X7_part0_b H_tb H_bl H_bh (S := 16383) ⟨by decide, by decide⟩ (by decide) hT

theorem s_X7_load_b {h : AH} {less ans lowb highb : Nat → Int32} {wholeb : Int32} {T A n : Nat} (H_th : Hs h 6 (oTh (nI n))) (H_tl_ : Hs h 9 (aZ 12 less)) (H_an : Hs h 11 (aI 168 ans)) (H_tb : Hs h 35 (oTa 35 wholeb)) (H_bl : Hs h 36 (aI 128 lowb)) (H_bh : Hs h 37 (aI 128 highb)) (h_l : lowb 0 = 0) (h_h : highb 0 = 0) (hT : T < n) (hn : n ≤ 12) (hA : A < 2 ^ 31) (hV : ∀ c, c < 14 → ans (T * 14 + c) = -1 ∨ ∃ v, v ≤ 99 ∧ ans (T * 14 + c) = nI v) : Sp M_X7_load (0, 0) h [.ref 35, .ref 6, .int (nI T), .int (nI A)] (rV (fun h' => ∃ g1 g2 : Nat → Int32, h' = up (up (up h 36 (aI 128 g1)) 37 (aI 128 g2)) 35 (oTa 35 (nI (pS (own ans less T A) 14 16383))) ∧ TB g1 g2 (own ans less T A))) := by
  refine ⟨Nat.le_of_ble_eq_true rfl, ?_⟩
  show E _ _ _ 0 h [some (.ref 35), some (.ref 6), some (.int (nI T)), some (.int (nI A))] []
  refine e_aloadn d_X7_load_0 rfl ?_
  refine e_get d_X7_load_1 f_X7_11 H_tb rfl ?_
  refine e_aloadn d_X7_load_4 rfl ?_
  refine e_iloadn d_X7_load_5 rfl ?_
  refine e_iloadn d_X7_load_6 rfl ?_
  refine e_iconst (v := 0) d_X7_load_7 (by decide) ?_
  refine e_callRSV d_X7_load_8 l_X7_load_21 (s_X7_fill (T := T) (A := A) (f := 0) H_th H_tl_ H_an H_bl (by assumption) hT hn (by omega) hA (by decide) hV) rfl rfl (Nat.le_of_ble_eq_true rfl) (fun h1 q1 s1 => ?_)
  obtain ⟨g1, rfl, hg1⟩ := q1
  refine e_aloadn d_X7_load_11 rfl ?_
  refine e_get d_X7_load_12 f_X7_15 (H_tb.n (by decide)) rfl ?_
  refine e_aloadn d_X7_load_15 rfl ?_
  refine e_iloadn d_X7_load_16 rfl ?_
  refine e_iloadn d_X7_load_17 rfl ?_
  refine e_bipush (v := 7) d_X7_load_18 (by decide) ?_
  refine e_callRSV d_X7_load_20 l_X7_load_21 (s_X7_fill (T := T) (A := A) (f := 7) (H_th.n (by decide)) (H_tl_.n (by decide)) (H_an.n (by decide)) (H_bh.n (by decide)) (by assumption) hT hn (by omega) hA (by decide) hV) rfl rfl (Nat.le_of_ble_eq_true rfl) (fun h2 q2 s2 => ?_)
  obtain ⟨g2, rfl, hg2⟩ := q2
  have hTB : TB g1 g2 (own ans less T A) := ⟨fun S hS => by rw [hg1 S hS]; simp only [Nat.zero_add], hg2⟩
  refine e_aloadn d_X7_load_23 rfl ?_
  refine e_aloadn d_X7_load_24 rfl ?_
  refine e_iconst (v := -1) d_X7_load_25 (by decide) ?_
  refine e_callVI d_X7_load_26 l_X7_load_25 ((H_tb.n (by decide)).n (by decide)) rfl rfl (s_X7_partm_b ((H_tb.n (by decide)).n (by decide)) (H_bl.s.n (by decide)) ((H_bh.n (by decide)).s) hTB) rfl rfl (Nat.le_of_ble_eq_true rfl) ?_
  refine e_puti d_X7_load_29 f_X7_29 ((H_tb.n (by decide)).n (by decide)) (Nat.le_of_ble_eq_true rfl) ?_
  exact e_vret d_X7_load_32 rfl (⟨rfl, g1, g2, rfl, hTB⟩)

theorem s_X7_upper_b {h : AH} {g1 g2 ans less : Nat → Int32} {T A : Nat} (H_tb : Hs h 35 (oTa 35 (nI (pS (own ans less T A) 14 16383)))) (H_bl : Hs h 36 (aI 128 g1)) (H_bh : Hs h 37 (aI 128 g2)) {S : Nat} (hT : TB g1 g2 (own ans less T A)) (hS : S < 16384) (hV : ∀ c, c < 14 → ans (T * 14 + c) = -1 ∨ ∃ v, v ≤ 99 ∧ ans (T * 14 + c) = nI v) : Sp M_X7_upper (0, 0) h [.ref 35, .int (nI S)] (pI (Int32.ofInt (dU (cF ans T A) (cV ans less T) S 14)) h) := by
  refine ⟨Nat.le_of_ble_eq_true rfl, ?_⟩
  show E _ _ _ 0 h [some (.ref 35), some (.int (nI S)), none] []
  have bn := dN_le (F := (cF ans T A)) (S := S) (k := 14)
  have bs := dS_le (F := (cF ans T A)) (V := (cV ans less T)) (S := S) (k := 14) (cV_99 hV)
  have ba := dN_le (F := (cF ans T A)) (S := 16383) (k := 14)
  have bb := dS_le (F := (cF ans T A)) (V := (cV ans less T)) (S := 16383) (k := 14) (cV_99 hV)
  refine e_aloadn d_X7_upper_0 rfl ?_
  refine e_iloadn d_X7_upper_1 rfl ?_
  refine e_callVI d_X7_upper_2 l_X7_upper_25 H_tb rfl rfl (s_X7_part_b H_tb H_bl H_bh hT hS) rfl rfl (Nat.le_of_ble_eq_true rfl) ?_
  refine e_istoren d_X7_upper_5 (by decide) rfl ?_
  refine e_iloadn d_X7_upper_6 rfl ?_
  refine e_ldc d_X7_upper_7 v_X7_40 ?_
  refine e_iand d_X7_upper_9 ?_
  refine e_aloadn d_X7_upper_10 rfl ?_
  refine e_get d_X7_upper_11 f_X7_29 H_tb rfl ?_
  refine e_bipush (v := 16) d_X7_upper_14 (by decide) ?_
  refine e_ishr d_X7_upper_16 ?_
  refine e_imul d_X7_upper_17 ?_
  refine e_aloadn d_X7_upper_18 rfl ?_
  refine e_get d_X7_upper_19 f_X7_29 H_tb rfl ?_
  refine e_ldc d_X7_upper_22 v_X7_40 ?_
  refine e_iand d_X7_upper_24 ?_
  refine e_iloadn d_X7_upper_25 rfl ?_
  refine e_bipush (v := 16) d_X7_upper_26 (by decide) ?_
  refine e_ishr d_X7_upper_28 ?_
  refine e_imul d_X7_upper_29 ?_
  refine e_isub d_X7_upper_30 ?_
  exact e_iret d_X7_upper_31 rfl (rfl) (⟨by rw [pS_own, pS_own, lo16 (by omega) (by omega), lo16 (by omega) (by omega), hi16 (by omega) (by omega), hi16 (by omega) (by omega), dU_16], rfl⟩)

theorem s_X7_lower_b {h : AH} {g1 g2 ans less : Nat → Int32} {T A : Nat} (H_tb : Hs h 35 (oTa 35 (nI (pS (own ans less T A) 14 16383)))) (H_bl : Hs h 36 (aI 128 g1)) (H_bh : Hs h 37 (aI 128 g2)) {S : Nat} (hT : TB g1 g2 (own ans less T A)) (hS : S < 16384) (hV : ∀ c, c < 14 → ans (T * 14 + c) = -1 ∨ ∃ v, v ≤ 99 ∧ ans (T * 14 + c) = nI v) : Sp M_X7_lower (0, 0) h [.ref 35, .int (nI S)] (pI (nI (dN (cF ans T A) S 14 * dM (cF ans T A) S 14)) h) := by
  refine ⟨Nat.le_of_ble_eq_true rfl, ?_⟩
  show E _ _ _ 0 h [some (.ref 35), some (.int (nI S)), none] []
  have bn := dN_le (F := (cF ans T A)) (S := S) (k := 14)
  have bs := dS_le (F := (cF ans T A)) (V := (cV ans less T)) (S := S) (k := 14) (cV_99 hV)
  have ba := dN_le (F := (cF ans T A)) (S := 16383) (k := 14)
  have bb := dS_le (F := (cF ans T A)) (V := (cV ans less T)) (S := 16383) (k := 14) (cV_99 hV)
  refine e_aloadn d_X7_lower_0 rfl ?_
  refine e_iloadn d_X7_lower_1 rfl ?_
  refine e_callVI d_X7_lower_2 l_X7_lower_25 H_tb rfl rfl (s_X7_part_b H_tb H_bl H_bh hT hS) rfl rfl (Nat.le_of_ble_eq_true rfl) ?_
  refine e_bipush (v := 16) d_X7_lower_5 (by decide) ?_
  refine e_ishr d_X7_lower_7 ?_
  refine e_istoren d_X7_lower_8 (by decide) rfl ?_
  refine e_iloadn d_X7_lower_9 rfl ?_
  refine e_aloadn d_X7_lower_10 rfl ?_
  refine e_get d_X7_lower_11 f_X7_29 H_tb rfl ?_
  refine e_bipush (v := 16) d_X7_lower_14 (by decide) ?_
  refine e_ishr d_X7_lower_16 ?_
  refine e_iloadn d_X7_lower_17 rfl ?_
  refine e_isub d_X7_lower_18 ?_
  refine e_imul d_X7_lower_19 ?_
  exact e_iret d_X7_lower_20 rfl (rfl) (⟨by rw [pS_own, pS_own, hi16 (by omega) (by omega), hi16 (by omega) (by omega), dN_all (S := S), pk_sub (by omega), Nat.add_sub_cancel_left, pk_mul], rfl⟩)
