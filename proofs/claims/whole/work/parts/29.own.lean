/-! MORNINGCOIN'S own small methods -/
theorem TaOK.fr {S : List Nat} {h h' : AH} (T : TaOK h) (F : Fr S h h') (hS : 31 ∉ S ∧ 32 ∉ S ∧ 33 ∉ S ∧ 34 ∉ S) : TaOK h' := by
  obtain ⟨w, g1, g2, g3, a, b, c, d, e, f⟩ := T
  exact ⟨w, g1, g2, g3, F.hs a hS.1, F.hs b hS.2.1, F.hs c hS.2.2.1, F.hs d hS.2.2.2, e, f⟩
theorem TbOK.fr {S : List Nat} {h h' : AH} (T : TbOK h) (F : Fr S h h') (hS : 35 ∉ S ∧ 36 ∉ S ∧ 37 ∉ S ∧ 38 ∉ S) : TbOK h' := by
  obtain ⟨w, g1, g2, g3, a, b, c, d, e, f⟩ := T
  exact ⟨w, g1, g2, g3, F.hs a hS.1, F.hs b hS.2.1, F.hs c hS.2.2.1, F.hs d hS.2.2.2, e, f⟩
theorem TaOK.up {h : AH} {k : Nat} {c : AC} (T : TaOK h) (hk : k < 31 ∨ 34 < k) : TaOK (up h k c) := T.fr ((Fr.refl [k] h).up (by simp)) (by simp; omega)
theorem TbOK.up {h : AH} {k : Nat} {c : AC} (T : TbOK h) (hk : k < 35 ∨ 38 < k) : TbOK (up h k c) := T.fr ((Fr.refl [k] h).up (by simp)) (by simp; omega)
/-- the DEALS are laid: D of them, dl -/
def DeOK (h : AH) (D : Nat) (dl : Nat → Nat) : Prop := ∃ (drow : Nat) (dtext : Int32) (drn : Nat) (row : Nat → Int32), Hs h 27 (oDe drow (nI D) dtext) ∧ Hs h drow (aI drn row) ∧ (drow = 30 ∨ 92 < drow) ∧ D ≤ drn ∧ D ≤ 16384 ∧ drn < 2 ^ 31 ∧ ∀ i, i < D → row i = nI (dl i) ∧ dl i < 16384
theorem DeOK.fr {S : List Nat} {h h' : AH} {D : Nat} {dl : Nat → Nat} (T : DeOK h D dl) (F : Fr S h h') (hS : 27 ∉ S ∧ ∀ k, k ∈ S → k ≤ 92 ∧ k ≠ 30) : DeOK h' D dl := by
  obtain ⟨drow, dtext, drn, row, a, b, c, d⟩ := T
  exact ⟨drow, dtext, drn, row, F.hs a hS.1, F.hs b (fun z => by have := hS.2 _ z; omega), c, d⟩
theorem DeOK.up {h : AH} {D : Nat} {dl : Nat → Nat} {k : Nat} {c : AC} (T : DeOK h D dl) (hk : k ≠ 27 ∧ k ≠ 30 ∧ k ≤ 92) : DeOK (up h k c) D dl := T.fr ((Fr.refl [k] h).up (by simp)) (by simp; omega)
def stC (f t : Int32) (D : Nat) : Bool := decide (f ≠ -1 ∧ f * 1000 ≤ t * nI D)
/-- of no number -/
def oI : Option Nat → Int32
  | none => -1
  | some k => nI k
def lOf (keys : Nat → Int32) (S : Nat) : Nat → Option Nat
  | 0 => none
  | k + 1 => if bt S k then (match lOf keys S k with
    | none => some k
    | some r => if keys k < keys r then some k else some r) else lOf keys S k
theorem lOf_lt {keys : Nat → Int32} {S : Nat} : ∀ k r, lOf keys S k = some r → r < k
  | 0, r, h => by simp [lOf] at h
  | k + 1, r, h => by
    simp only [lOf] at h
    split at h
    · split at h
      · simp at h; omega
      · rename_i q hq
        have := lOf_lt k q hq
        split at h <;> simp at h <;> omega
    · have := lOf_lt k r h; omega

theorem s_X10_asFar {h : AH} {tc tl lf lp cost : Int32} {less ans : Nat → Int32} {T A S0 n D : Nat} {dl : Nat → Nat} (H_mc : Hs h 0 (oMC tc tl lf lp cost)) (H_th : Hs h 6 (oTh (nI n))) (H_tl_ : Hs h 9 (aZ 12 less)) (H_an : Hs h 11 (aI 168 ans)) (hTa : TaOK h) (hDe : DeOK h D dl) (hT : T < n) (hn : n ≤ 12) (hS0 : S0 < 16384) (hA : A < 2 ^ 31) (hV : ∀ c, c < 14 → ans (T * 14 + c) = -1 ∨ ∃ v, v ≤ 99 ∧ ans (T * 14 + c) = nI v) : Sp M_X10_asFar (0, 0) h [.ref 0, .int (nI T), .int (nI A), .int (nI S0)] (rI (fun x h' => x = farC ans less A dl T S0 D ∧ TaOK h' ∧ Fr [31, 32, 33, 34] h h')) := by
  refine ⟨Nat.le_of_ble_eq_true rfl, ?_⟩
  show E _ _ _ 0 h [some (.ref 0), some (.int (nI T)), some (.int (nI A)), some (.int (nI S0))] []
  obtain ⟨wta, q1, q2, q3, H_ta, H_al, H_ah, H_am, h_l, h_h⟩ := hTa
  obtain ⟨drow, dtext, drn, row, H_de, H_dr, hdr, hD, hD2, hrn, hdl⟩ := hDe
  refine e_aloadn d_X10_asFar_0 rfl ?_
  refine e_get d_X10_asFar_1 f_X10_81 H_mc rfl ?_
  refine e_aloadn d_X10_asFar_4 rfl ?_
  refine e_get d_X10_asFar_5 f_X10_19 H_mc rfl ?_
  refine e_iloadn d_X10_asFar_8 rfl ?_
  refine e_iloadn d_X10_asFar_9 rfl ?_
  refine e_callRVV d_X10_asFar_10 l_X10_asFar_142 H_ta rfl rfl (s_X7_load_a H_th H_tl_ H_an H_ta H_al H_ah h_l h_h hT hn hA hV) rfl rfl (Nat.le_of_ble_eq_true rfl) (fun h1 q1 s1 => ?_)
  obtain ⟨g1, g2, rfl, hTB⟩ := q1
  refine e_aloadn d_X10_asFar_13 rfl ?_
  refine e_get d_X10_asFar_14 f_X10_81 (((H_mc.n (by decide)).n (by decide)).n (by decide)) rfl ?_
  refine e_aloadn d_X10_asFar_17 rfl ?_
  refine e_get d_X10_asFar_18 f_X10_74 (((H_mc.n (by decide)).n (by decide)).n (by decide)) rfl ?_
  refine e_iloadn d_X10_asFar_21 rfl ?_
  refine e_callRVI d_X10_asFar_22 l_X10_asFar_316 (((H_ta.n (by decide)).n (by decide)).s) rfl rfl (s_X7_asFar_a (((H_ta.n (by decide)).n (by decide)).s) ((H_al.s.n (by decide)).n (by decide)) (((H_ah.n (by decide)).s).n (by decide)) (((H_am.n (by decide)).n (by decide)).n (by decide)) (((H_de.n (by decide)).n (by decide)).n (by decide)) (((H_dr.n (by omega)).n (by omega)).n (by omega)) hTB hS0 hdr hD hD2 hrn hdl hV) rfl rfl (Nat.le_of_ble_eq_true rfl) (fun x2 h2 q2 s2 => ?_)
  obtain ⟨rfl, ⟨g3, H_am⟩, fr2⟩ := q2
  have H_mc := fr2.hs (((H_mc.n (by decide)).n (by decide)).n (by decide)) (by first | decide | (simp; omega))
  have H_th := fr2.hs (((H_th.n (by decide)).n (by decide)).n (by decide)) (by first | decide | (simp; omega))
  have H_tl_ := fr2.hs (((H_tl_.n (by decide)).n (by decide)).n (by decide)) (by first | decide | (simp; omega))
  have H_an := fr2.hs (((H_an.n (by decide)).n (by decide)).n (by decide)) (by first | decide | (simp; omega))
  have H_ta := fr2.hs (((H_ta.n (by decide)).n (by decide)).s) (by first | decide | (simp; omega))
  have H_al := fr2.hs ((H_al.s.n (by decide)).n (by decide)) (by first | decide | (simp; omega))
  have H_ah := fr2.hs (((H_ah.n (by decide)).s).n (by decide)) (by first | decide | (simp; omega))
  have H_de := fr2.hs (((H_de.n (by decide)).n (by decide)).n (by decide)) (by first | decide | (simp; omega))
  have H_dr := fr2.hs (((H_dr.n (by omega)).n (by omega)).n (by omega)) (by first | decide | (simp; omega))
  exact e_iret d_X10_asFar_25 rfl (rfl) (⟨_, rfl, rfl, ⟨_, g1, g2, g3, H_ta, H_al, H_ah, H_am, (TB_0 hTB).1, (TB_0 hTB).2⟩, ((((Fr.refl _ _).up (by decide)).up (by decide)).up (by decide)).trans (fr2.mono (by decide))⟩)

theorem s_X10_stands {h : AH} {tc tl lf lp cost : Int32} {f t : Int32} {D : Nat} {dl : Nat → Nat} (H_mc : Hs h 0 (oMC tc tl lf lp cost)) (hDe : DeOK h D dl) : Sp M_X10_stands (0, 0) h [.ref 0, .int f, .int t] (pI (bI (stC f t D = true)) h) := by
  refine ⟨Nat.le_of_ble_eq_true rfl, ?_⟩
  show E _ _ _ 0 h [some (.ref 0), some (.int f), some (.int t)] []
  obtain ⟨drow, dtext, drn, row, H_de, -⟩ := hDe
  refine e_iloadn d_X10_stands_0 rfl ?_
  refine e_iconst (v := -1) d_X10_stands_1 (by decide) ?_
  refine e_icmp_eq d_X10_stands_2 (fun c_2 => ?_) (fun c_2 => ?_)
  · have hP : ¬ stC f t D = true := by simp [stC, c_2]
    refine e_iconst (v := 0) d_X10_stands_26 (by decide) ?_
    exact e_iret d_X10_stands_27 rfl (rfl) (⟨by first | rw [bI_t hP] | rw [bI_f hP], rfl⟩)
  · refine e_iloadn d_X10_stands_5 rfl ?_
    refine e_sipush (v := 1000) d_X10_stands_6 (by decide) ?_
    refine e_imul d_X10_stands_9 ?_
    refine e_iloadn d_X10_stands_10 rfl ?_
    refine e_aloadn d_X10_stands_11 rfl ?_
    refine e_get d_X10_stands_12 f_X10_74 H_mc rfl ?_
    refine e_get d_X10_stands_15 f_X10_178 H_de rfl ?_
    refine e_imul d_X10_stands_18 ?_
    refine e_icmp_gt d_X10_stands_19 (fun c_19 => ?_) (fun c_19 => ?_)
    · have hP : ¬ stC f t D = true := by simp only [stC, decide_eq_true_eq]; grind
      refine e_iconst (v := 0) d_X10_stands_26 (by decide) ?_
      exact e_iret d_X10_stands_27 rfl (rfl) (⟨by first | rw [bI_t hP] | rw [bI_f hP], rfl⟩)
    · have hP : stC f t D = true := by simp only [stC, decide_eq_true_eq]; grind
      refine e_iconst (v := 1) d_X10_stands_22 (by decide) ?_
      refine e_gt d_X10_stands_23 ?_
      exact e_iret d_X10_stands_27 rfl (rfl) (⟨by first | rw [bI_t hP] | rw [bI_f hP], rfl⟩)

theorem s_X10_leastOf {h : AH} {p : Nat} {keys : Nat → Int32} {S : Nat} (H_k : Hs h p (aI 12 keys)) (hS : S < 2 ^ 31) : Sp M_X10_leastOf (0, 0) h [.ref p, .int (nI S)] (pI (oI (lOf keys S 12)) h) := by
  refine ⟨Nat.le_of_ble_eq_true rfl, ?_⟩
  show E _ _ _ 0 h [some (.ref p), some (.int (nI S)), none, none] []
  refine e_iconst (v := -1) d_X10_leastOf_0 (by decide) ?_
  refine e_istoren d_X10_leastOf_1 (by decide) rfl ?_
  refine e_iconst (v := 0) d_X10_leastOf_2 (by decide) ?_
  refine e_istoren d_X10_leastOf_3 (by decide) rfl ?_
  have hA_4 : ∀ i, i ≤ 12 → ∀ (r : Int32) (y : Int32), (r = oI (lOf keys S i)) → (y = nI i) → E M_X10_leastOf (0, 0) (pI (oI (lOf keys S 12)) h) 4 (h) [some (.ref p), some (.int (nI S)), some (.int r), some (.int y)] [] := by
    refine loop_ind (n := 12) ?_
    intro i hi_i ih_4 r y h_r h_y
    subst h_y
    refine e_iloadn d_X10_leastOf_4 rfl ?_
    refine e_aloadn d_X10_leastOf_5 rfl ?_
    refine e_alenL (v := 12) d_X10_leastOf_6 H_k rfl ?_
    refine e_icmp_ge d_X10_leastOf_7 (fun c => ?_) (fun c => ?_)
    · have c := i_le (a := 12) (by decide) (by omega) c
      obtain rfl : i = 12 := by omega
      refine e_iloadn d_X10_leastOf_41 rfl ?_
      exact e_iret d_X10_leastOf_42 rfl (rfl) (⟨by rw [h_r], rfl⟩)
    · have c := i_nle (a := 12) (by decide) (by omega) c
      refine e_iloadn d_X10_leastOf_10 rfl ?_
      refine e_iloadn d_X10_leastOf_11 rfl ?_
      refine e_ishr d_X10_leastOf_12 ?_
      refine e_iconst (v := 1) d_X10_leastOf_13 (by decide) ?_
      refine e_iand d_X10_leastOf_14 ?_
      refine e_iconst (v := 1) d_X10_leastOf_15 (by decide) ?_
      refine e_icmp_ne d_X10_leastOf_16 (fun c_16 => ?_) (fun c_16 => ?_)
      · have hb := bit0 hS (by omega) c_16
        refine e_iincw (w := 1) d_X10_leastOf_35 rfl (by decide) (by decide) rfl ?_
        refine e_gt d_X10_leastOf_38 ?_
        refine ih_4 (i + 1) (by omega) (by omega) _ _ ?_ ?_
        · first
          | (simp only [lOf, hb, Bool.false_eq_true, if_false]; exact h_r)
          | (simp only [lOf, hb, ho, if_true]; rfl)
          | (simp only [lOf, hb, ho, if_true]; rw [if_pos (by grind)]; rfl)
          | (simp only [lOf, hb, ho, if_true]; rw [if_neg (by grind)]; exact h_r)
        · exact nI_1 i
      · have hb := (bit1 hS (by omega)).mp c_16
        refine e_iloadn d_X10_leastOf_19 rfl ?_
        refine e_iconst (v := -1) d_X10_leastOf_20 (by decide) ?_
        refine e_icmp_eq d_X10_leastOf_21 (fun c_21 => ?_) (fun c_21 => ?_)
        · have ho : lOf keys S i = none := by
            cases ho : lOf keys S i with
            | none => rfl
            | some r0 => exact absurd (show nI r0 = -1 by rw [← c_21, h_r, ho]; rfl) (nI_m1 (by have := lOf_lt _ _ ho; omega))
          refine e_iloadn d_X10_leastOf_33 rfl ?_
          refine e_istoren d_X10_leastOf_34 (by decide) rfl ?_
          refine e_iincw (w := 1) d_X10_leastOf_35 rfl (by decide) (by decide) rfl ?_
          refine e_gt d_X10_leastOf_38 ?_
          refine ih_4 (i + 1) (by omega) (by omega) _ _ ?_ ?_
          · first
            | (simp only [lOf, hb, Bool.false_eq_true, if_false]; exact h_r)
            | (simp only [lOf, hb, ho, if_true]; rfl)
            | (simp only [lOf, hb, ho, if_true]; rw [if_pos (by grind)]; rfl)
            | (simp only [lOf, hb, ho, if_true]; rw [if_neg (by grind)]; exact h_r)
          · exact nI_1 i
        · obtain ⟨r0, ho⟩ : ∃ r0, lOf keys S i = some r0 := by
            cases ho : lOf keys S i with
            | none => exact absurd (by rw [h_r, ho]; rfl) c_21
            | some r0 => exact ⟨r0, rfl⟩
          have hr0 := lOf_lt _ _ ho
          rw [ho] at h_r
          refine e_aloadn d_X10_leastOf_24 rfl ?_
          refine e_iloadn d_X10_leastOf_25 rfl ?_
          refine e_ialdN (k := i) d_X10_leastOf_26 H_k rfl (by omega) (by omega) ?_
          refine e_aloadn d_X10_leastOf_27 rfl ?_
          refine e_iloadn d_X10_leastOf_28 rfl ?_
          refine e_ialdN (k := r0) d_X10_leastOf_29 H_k h_r (by omega) (by omega) ?_
          refine e_icmp_ge d_X10_leastOf_30 (fun c_30 => ?_) (fun c_30 => ?_)
          · refine e_iincw (w := 1) d_X10_leastOf_35 rfl (by decide) (by decide) rfl ?_
            refine e_gt d_X10_leastOf_38 ?_
            refine ih_4 (i + 1) (by omega) (by omega) _ _ ?_ ?_
            · first
              | (simp only [lOf, hb, Bool.false_eq_true, if_false]; exact h_r)
              | (simp only [lOf, hb, ho, if_true]; rfl)
              | (simp only [lOf, hb, ho, if_true]; rw [if_pos (by grind)]; rfl)
              | (simp only [lOf, hb, ho, if_true]; rw [if_neg (by grind)]; exact h_r)
            · exact nI_1 i
          · refine e_iloadn d_X10_leastOf_33 rfl ?_
            refine e_istoren d_X10_leastOf_34 (by decide) rfl ?_
            refine e_iincw (w := 1) d_X10_leastOf_35 rfl (by decide) (by decide) rfl ?_
            refine e_gt d_X10_leastOf_38 ?_
            refine ih_4 (i + 1) (by omega) (by omega) _ _ ?_ ?_
            · first
              | (simp only [lOf, hb, Bool.false_eq_true, if_false]; exact h_r)
              | (simp only [lOf, hb, ho, if_true]; rfl)
              | (simp only [lOf, hb, ho, if_true]; rw [if_pos (by grind)]; rfl)
              | (simp only [lOf, hb, ho, if_true]; rw [if_neg (by grind)]; exact h_r)
            · exact nI_1 i
  exact hA_4 0 (by omega) _ _ (rfl) (rfl)

def lowO (S : Nat) : Option Nat := if S = 0 then none else some (lowN 14 S)
def rlN : Nat → Nat → Nat
  | 0, S => S
  | k + 1, S => rl (rlN k S)
/-- the first behind a place and below an end -/
def fBeh (P : Nat → Bool) (p : Option Nat) (n : Nat) : Option Nat := match p with
  | none => none
  | some p => (List.range n).find? (fun i => decide (p < i) && P i)
theorem rng_some {P : Nat → Bool} {n i : Nat} (hi : i < n) (hP : P i = true) (h : ∀ j, j < i → P j = false) : (List.range n).find? P = some i := List.find?_range_eq_some.mpr ⟨hP, List.mem_range.mpr hi, fun j hj => by rw [h j hj]; rfl⟩
theorem rng_none {P : Nat → Bool} {n : Nat} (h : ∀ j, j < n → P j = false) : (List.range n).find? P = none := List.find?_range_eq_none.mpr (fun i hi => by rw [h i hi]; rfl)

theorem s_X10_lowest {h : AH} {S : Nat} (hS : S < 16384) : Sp M_X10_lowest (0, 0) h [.int (nI S)] (pI (oI (lowO S)) h) := by
  refine ⟨Nat.le_of_ble_eq_true rfl, ?_⟩
  show E _ _ _ 0 h [some (.int (nI S))] []
  refine e_iloadn d_X10_lowest_0 rfl ?_
  refine e_if_ne d_X10_lowest_1 (fun c_1 => ?_) (fun c_1 => ?_)
  · have h0 : S ≠ 0 := fun z => c_1 (by rw [z]; rfl)
    refine e_iloadn d_X10_lowest_8 rfl ?_
    refine e_iloadn d_X10_lowest_9 rfl ?_
    refine e_ineg d_X10_lowest_10 ?_
    refine e_iand d_X10_lowest_11 ?_
    refine e_iconst (v := 1) d_X10_lowest_12 (by decide) ?_
    refine e_isub d_X10_lowest_13 ?_
    refine e_callSI d_X10_lowest_14 l_X10_lowest_198 (s_J6_bitCount_0f7a4  ) rfl rfl (Nat.le_of_ble_eq_true rfl) ?_
    exact e_iret d_X10_lowest_17 rfl (rfl) (⟨by first | (rw [lowO, if_pos h0]; rfl) | (rw [lowO, if_neg h0, low_lowN hS h0]; rfl), rfl⟩)
  · have h0 : S = 0 := (nI_eq (b := 0) (by omega) (by decide)).mp c_1
    refine e_iconst (v := -1) d_X10_lowest_4 (by decide) ?_
    refine e_gt d_X10_lowest_5 ?_
    exact e_iret d_X10_lowest_17 rfl (rfl) (⟨by first | (rw [lowO, if_pos h0]; rfl) | (rw [lowO, if_neg h0, low_lowN hS h0]; rfl), rfl⟩)

theorem s_X10_lowestFew {h : AH} {S : Nat} (hS : S < 16384) : Sp M_X10_lowestFew (0, 0) h [.int (nI S), .int 4] (pI (nI (fw S 14)) h) := by
  refine ⟨Nat.le_of_ble_eq_true rfl, ?_⟩
  show E _ _ _ 0 h [some (.int (nI S)), some (.int 4), none, none] []
  refine e_iloadn d_X10_lowestFew_0 rfl ?_
  refine e_istoren d_X10_lowestFew_1 (by decide) rfl ?_
  refine e_iconst (v := 0) d_X10_lowestFew_2 (by decide) ?_
  refine e_istoren d_X10_lowestFew_3 (by decide) rfl ?_
  have hA_4 : ∀ i, i ≤ 4 → ∀ (l : Int32) (y : Int32), (l = nI (rlN i S)) → (y = nI i) → E M_X10_lowestFew (0, 0) (pI (nI (fw S 14)) h) 4 (h) [some (.int (nI S)), some (.int 4), some (.int l), some (.int y)] [] := by
    refine loop_ind (n := 4) ?_
    intro i hi_i ih_4 l y h_l h_y
    subst h_y
    refine e_iloadn d_X10_lowestFew_4 rfl ?_
    refine e_iloadn d_X10_lowestFew_5 rfl ?_
    refine e_icmp_ge d_X10_lowestFew_6 (fun c => ?_) (fun c => ?_)
    · have c := i_le (a := 4) (by decide) (by omega) c
      obtain rfl : i = 4 := by omega
      refine e_iloadn d_X10_lowestFew_21 rfl ?_
      refine e_iloadn d_X10_lowestFew_22 rfl ?_
      refine e_iconst (v := -1) d_X10_lowestFew_23 (by decide) ?_
      refine e_ixor d_X10_lowestFew_24 ?_
      refine e_iand d_X10_lowestFew_25 ?_
      exact e_iret d_X10_lowestFew_26 rfl (rfl) (⟨by rw [h_l, nI_sdx, ← sd_rl4 hS]; rfl, rfl⟩)
    · have c := i_nle (a := 4) (by decide) (by omega) c
      refine e_iloadn d_X10_lowestFew_9 rfl ?_
      refine e_iloadn d_X10_lowestFew_10 rfl ?_
      refine e_iconst (v := 1) d_X10_lowestFew_11 (by decide) ?_
      refine e_isub d_X10_lowestFew_12 ?_
      refine e_iand d_X10_lowestFew_13 ?_
      refine e_istoren d_X10_lowestFew_14 (by decide) rfl ?_
      refine e_iincw (w := 1) d_X10_lowestFew_15 rfl (by decide) (by decide) rfl ?_
      refine e_gt d_X10_lowestFew_18 ?_
      refine ih_4 (i + 1) (by omega) (by omega) _ _ ?_ ?_
      · rw [h_l, nI_rl]; rfl
      · exact nI_1 i
  exact hA_4 0 (by omega) _ _ (rfl) (rfl)

theorem s_X10_firstBehind {h : AH} {bits pl : Int32} {P : Nat → Bool} {p : Option Nat} {n : Nat} (hpl : pl = oI p) (hp : ∀ q, p = some q → q < 100) (hn : n ≤ 100) (hP : ∀ i, i < n → ((bits >>> (nI i &&& 31)) &&& 1 = 1 ↔ P i = true)) : Sp M_X10_firstBehind (0, 0) h [.int bits, .int pl, .int (nI n)] (pI (oI (fBeh P p n)) h) := by
  refine ⟨Nat.le_of_ble_eq_true rfl, ?_⟩
  show E _ _ _ 0 h [some (.int bits), some (.int pl), some (.int (nI n)), none] []
  refine e_iloadn d_X10_firstBehind_0 rfl ?_
  refine e_iconst (v := 1) d_X10_firstBehind_1 (by decide) ?_
  refine e_iadd d_X10_firstBehind_2 ?_
  refine e_istoren d_X10_firstBehind_3 (by decide) rfl ?_
  cases p with
  | none =>
    subst hpl
    refine e_iloadn d_X10_firstBehind_4 rfl ?_
    refine e_iconst (v := -1) d_X10_firstBehind_5 (by decide) ?_
    refine e_icmp_eq d_X10_firstBehind_6 (fun _ => ?_) (fun z => absurd rfl z)
    refine e_iconst (v := -1) d_X10_firstBehind_31 (by decide) ?_
    exact e_iret d_X10_firstBehind_32 rfl rfl ⟨rfl, rfl⟩
  | some q =>
  have hq := hp q rfl
  have hq1 : ¬ pl = -1 := by rw [hpl]; exact nI_m1 (by omega)
  have hA_4 : ∀ i, i ≤ (n + q + 1) → ∀ (y : Int32) (u : Unit) (v : Unit), (y = nI i) → (∀ j, j < i → (decide (q < j) && P j) = false) → (q < i) → E M_X10_firstBehind (0, 0) (pI (oI (fBeh P (some q) n)) h) 4 (h) [some (.int bits), some (.int pl), some (.int (nI n)), some (.int y)] [] := by
    refine loop_ind (n := (n + q + 1)) ?_
    intro i hi_i ih_4 y u v h_y h_u h_v
    subst h_y
    refine e_iloadn d_X10_firstBehind_4 rfl ?_
    refine e_iconst (v := -1) d_X10_firstBehind_5 (by decide) ?_
    refine e_icmp_eq d_X10_firstBehind_6 (fun z => by first | exact absurd (hq1) z | exact absurd z (hq1)) (fun _ => ?_)
    refine e_iloadn d_X10_firstBehind_9 rfl ?_
    refine e_iloadn d_X10_firstBehind_10 rfl ?_
    refine e_icmp_ge d_X10_firstBehind_11 (fun c => ?_) (fun c => ?_)
    · have c := i_le (by omega) (by omega) c
      refine e_iconst (v := -1) d_X10_firstBehind_31 (by decide) ?_
      exact e_iret d_X10_firstBehind_32 rfl (rfl) (⟨by simp only [fBeh]; rw [rng_none (fun j hj => h_u j (by omega))]; rfl, rfl⟩)
    · have c := i_nle (by omega) (by omega) c
      refine e_iloadn d_X10_firstBehind_14 rfl ?_
      refine e_iloadn d_X10_firstBehind_15 rfl ?_
      refine e_ishr d_X10_firstBehind_16 ?_
      refine e_iconst (v := 1) d_X10_firstBehind_17 (by decide) ?_
      refine e_iand d_X10_firstBehind_18 ?_
      refine e_iconst (v := 1) d_X10_firstBehind_19 (by decide) ?_
      refine e_icmp_ne d_X10_firstBehind_20 (fun c_20 => ?_) (fun c_20 => ?_)
      · have hb : P i = false := by
          cases e : P i
          · rfl
          · exact absurd ((hP i c).mpr e) c_20
        refine e_iincw (w := 1) d_X10_firstBehind_25 rfl (by decide) (by decide) rfl ?_
        refine e_gt d_X10_firstBehind_28 ?_
        refine ih_4 (i + 1) (by omega) (by omega) _ () () ?_ ?_ ?_
        · exact nI_1 i
        · intro j hj
          by_cases e : j = i
          · subst e; simp [hb]
          · exact h_u j (by omega)
        · omega
      · have hb : P i = true := (hP i c).mp c_20
        refine e_iloadn d_X10_firstBehind_23 rfl ?_
        exact e_iret d_X10_firstBehind_24 rfl (rfl) (⟨by simp only [fBeh]; rw [rng_some c (by simp [hb]; exact h_v) h_u]; rfl, rfl⟩)
  exact hA_4 (q + 1) (by omega) (pl + 1) () () (by rw [hpl]; exact nI_1 q) (fun j hj => by simp; omega) (by omega)

theorem s_X10_withOdds {h : AH} {tc tl lf lp cost co : Int32} {less ans fars : Nat → Int32} {N S0 n D S : Nat} {dl : Nat → Nat} (H_mc : Hs h 0 (oMC tc tl lf lp cost)) (H_ch : Hs h 1 (oCh (nI N) co (nI S0))) (H_th : Hs h 6 (oTh (nI n))) (H_tl_ : Hs h 9 (aZ 12 less)) (H_an : Hs h 11 (aI 168 ans)) (H_fars : Hs h 39 (aI 12 fars)) (hTa : TaOK h) (hDe : DeOK h D dl) (hN : N ≤ 14) (hn : n ≤ 12) (hS0 : S0 < 16384) (hS : S < 2 ^ 31) (hV : ∀ t, t < 12 → ∀ c, c < 14 → ans (t * 14 + c) = -1 ∨ ∃ v, v ≤ 99 ∧ ans (t * 14 + c) = nI v) : Sp M_X10_withOdds (0, 0) h [.ref 0, .int (nI S)] (rI (fun x h' => x = nI (bs (fun t => bt S t && decide (farC ans less (2 ^ N - 1) dl t S0 D ≠ -1)) n) ∧ TaOK h' ∧ (∃ fs : Nat → Int32, Hs h' 39 (aI 12 fs) ∧ ∀ j, j < n → bt S j = true → fs j = (farC ans less (2 ^ N - 1) dl j S0 D)) ∧ Fr [31, 32, 33, 34, 39] h h')) := by
  refine ⟨Nat.le_of_ble_eq_true rfl, ?_⟩
  show E _ _ _ 0 h [some (.ref 0), some (.int (nI S)), none, none] []
  have G_mc := H_mc
  have G_ch := H_ch
  have G_th := H_th
  have G_tl_ := H_tl_
  have G_an := H_an
  have gDe := hDe
  refine e_iconst (v := 0) d_X10_withOdds_0 (by decide) ?_
  refine e_istoren d_X10_withOdds_1 (by decide) rfl ?_
  refine e_iconst (v := 0) d_X10_withOdds_2 (by decide) ?_
  refine e_istoren d_X10_withOdds_3 (by decide) rfl ?_
  have hA_4 : ∀ i, i ≤ n → ∀ (k : AH) (F : Unit) (A : Unit) (g : Unit) (w : Int32) (y : Int32), (Fr [31, 32, 33, 34, 39] h k) → (TaOK k) → (∃ fs : Nat → Int32, Hs k 39 (aI 12 fs) ∧ ∀ j, j < i → bt S j = true → fs j = (farC ans less (2 ^ N - 1) dl j S0 D)) → (w = nI (bs (fun t => bt S t && decide (farC ans less (2 ^ N - 1) dl t S0 D ≠ -1)) i)) → (y = nI i) → E M_X10_withOdds (0, 0) (rI (fun x h' => x = nI (bs (fun t => bt S t && decide (farC ans less (2 ^ N - 1) dl t S0 D ≠ -1)) n) ∧ TaOK h' ∧ (∃ fs : Nat → Int32, Hs h' 39 (aI 12 fs) ∧ ∀ j, j < n → bt S j = true → fs j = (farC ans less (2 ^ N - 1) dl j S0 D)) ∧ Fr [31, 32, 33, 34, 39] h h')) 4 (k) [some (.ref 0), some (.int (nI S)), some (.int w), some (.int y)] [] := by
    refine loop_ind (n := n) ?_
    intro i hi_i ih_4 k F A g w y h_F h_A h_g h_w h_y
    subst h_y
    have H_mc := h_F.hs G_mc (by decide)
    have H_ch := h_F.hs G_ch (by decide)
    have H_th := h_F.hs G_th (by decide)
    have H_tl_ := h_F.hs G_tl_ (by decide)
    have H_an := h_F.hs G_an (by decide)
    have hDe := DeOK.fr gDe h_F (by decide)
    have hTa := h_A
    obtain ⟨fs, H_fars, h_g⟩ := h_g
    refine e_iloadn d_X10_withOdds_4 rfl ?_
    refine e_aloadn d_X10_withOdds_5 rfl ?_
    refine e_get d_X10_withOdds_6 f_X10_19 H_mc rfl ?_
    refine e_get d_X10_withOdds_9 f_X10_120 H_th rfl ?_
    refine e_icmp_ge d_X10_withOdds_12 (fun c => ?_) (fun c => ?_)
    · have c := i_le (by omega) (by omega) c
      obtain rfl : n = i := by omega
      refine e_iloadn d_X10_withOdds_75 rfl ?_
      exact e_iret d_X10_withOdds_76 rfl (rfl) (⟨_, rfl, h_w, h_A, ⟨fs, H_fars, h_g⟩, h_F⟩)
    · have c := i_nle (by omega) (by omega) c
      refine e_iloadn d_X10_withOdds_15 rfl ?_
      refine e_iloadn d_X10_withOdds_16 rfl ?_
      refine e_ishr d_X10_withOdds_17 ?_
      refine e_iconst (v := 1) d_X10_withOdds_18 (by decide) ?_
      refine e_iand d_X10_withOdds_19 ?_
      refine e_iconst (v := 1) d_X10_withOdds_20 (by decide) ?_
      refine e_icmp_ne d_X10_withOdds_21 (fun c_21 => ?_) (fun c_21 => ?_)
      · have hb := bit0 hS (by omega) c_21
        refine e_iincw (w := 1) d_X10_withOdds_69 rfl (by decide) (by decide) rfl ?_
        refine e_gt d_X10_withOdds_72 ?_
        refine ih_4 (i + 1) (by omega) (by omega) _ () () () _ _ ?_ ?_ ?_ ?_ ?_
        · first
          | exact h_F
          | exact (h_F.trans (fr_45.mono (by decide))).up (by decide)
        · first
          | exact h_A
          | exact TaOK.up hTa_45 (by decide)
        · first
          | (exact ⟨fs, H_fars, fun j hj hb2 => by
              by_cases e : j = i
              · subst e; rw [hb] at hb2; exact absurd hb2 (by decide)
              · exact h_g j (by omega) hb2⟩)
          | (refine ⟨_, Hs.s H_fars, fun j hj hb2 => ?_⟩
             by_cases e : j = i
             · subst e; rw [va_up_self]
             · rw [va_up_ne _ _ e]; exact h_g j (by omega) hb2)
        · first
          | (rw [bs, hb]; simpa using h_w)
          | (rw [h_w, bs, hb, ← nI_or]
             congr 1
             rcases hz_57 with ⟨q, rfl⟩ | ⟨q, rfl⟩
             · rw [pw14 i (by omega)]; simp [q]
             · simp [q]; try rfl)
        · exact nI_1 i
      · have hb := (bit1 hS (by omega)).mp c_21
        refine e_aloadn d_X10_withOdds_24 rfl ?_
        refine e_get d_X10_withOdds_25 f_X10_88 H_mc rfl ?_
        refine e_iloadn d_X10_withOdds_28 rfl ?_
        refine e_aloadn d_X10_withOdds_29 rfl ?_
        refine e_iloadn d_X10_withOdds_30 rfl ?_
        refine e_aloadn d_X10_withOdds_31 rfl ?_
        refine e_get d_X10_withOdds_32 f_X10_10 H_mc rfl ?_
        refine e_callVI d_X10_withOdds_35 l_X10_withOdds_134 H_ch rfl rfl (s_X0_all2 H_ch ) rfl rfl (Nat.le_of_ble_eq_true rfl) ?_
        rw [al_14 N hN]
        refine e_aloadn d_X10_withOdds_38 rfl ?_
        refine e_get d_X10_withOdds_39 f_X10_10 H_mc rfl ?_
        refine e_get d_X10_withOdds_42 f_X10_117 H_ch rfl ?_
        refine e_callRVI d_X10_withOdds_45 l_X10_withOdds_185 H_mc rfl rfl (s_X10_asFar (T := i) (A := 2 ^ N - 1) H_mc H_th H_tl_ H_an hTa hDe (by omega) hn hS0 (by have := Nat.pow_le_pow_right (n := 2) (by decide) hN; omega) (hV _ (by omega))) rfl rfl (Nat.le_of_ble_eq_true rfl) (fun x_45 h_45 q_45 s_45 => ?_)
        obtain ⟨rfl, hTa_45, fr_45⟩ := q_45
        have H_mc := fr_45.hs H_mc (by first | decide | (simp; omega))
        have H_ch := fr_45.hs H_ch (by first | decide | (simp; omega))
        have H_th := fr_45.hs H_th (by first | decide | (simp; omega))
        have H_tl_ := fr_45.hs H_tl_ (by first | decide | (simp; omega))
        have H_an := fr_45.hs H_an (by first | decide | (simp; omega))
        have H_fars := fr_45.hs H_fars (by first | decide | (simp; omega))
        have H_DE := DeOK.fr hDe fr_45 (by decide)
        refine e_iastN (k := i) d_X10_withOdds_48 H_fars rfl (by omega) (by omega) ?_
        refine e_iloadn d_X10_withOdds_49 rfl ?_
        refine e_aloadn d_X10_withOdds_50 rfl ?_
        refine e_get d_X10_withOdds_51 f_X10_88 (H_mc.n (by decide)) rfl ?_
        refine e_iloadn d_X10_withOdds_54 rfl ?_
        refine e_ialdN (k := i) d_X10_withOdds_55 H_fars.s rfl (by omega) (by omega) ?_
        rw [va_up_self]
        refine e_iconst (v := -1) d_X10_withOdds_56 (by decide) ?_
        refine e_dia 67 (1 <<< (nI i &&& 31)) (0) (fun kt kf => e_icmp_ne d_X10_withOdds_57 kt kf) (fun c_57 K_57 => ?_) (fun c_57 K_57 => ?_) (fun z_57 hz_57 => ?_)
        · refine e_iconst (v := 1) d_X10_withOdds_64 (by decide) ?_
          refine e_iloadn d_X10_withOdds_65 rfl ?_
          refine e_ishl d_X10_withOdds_66 ?_
          exact K_57
        · refine e_iconst (v := 0) d_X10_withOdds_60 (by decide) ?_
          refine e_gt d_X10_withOdds_61 ?_
          exact K_57
        · refine e_ior d_X10_withOdds_67 ?_
          refine e_istoren d_X10_withOdds_68 (by decide) rfl ?_
          refine e_iincw (w := 1) d_X10_withOdds_69 rfl (by decide) (by decide) rfl ?_
          refine e_gt d_X10_withOdds_72 ?_
          refine ih_4 (i + 1) (by omega) (by omega) _ () () () _ _ ?_ ?_ ?_ ?_ ?_
          · first
            | exact h_F
            | exact (h_F.trans (fr_45.mono (by decide))).up (by decide)
          · first
            | exact h_A
            | exact TaOK.up hTa_45 (by decide)
          · first
            | (exact ⟨fs, H_fars, fun j hj hb2 => by
                by_cases e : j = i
                · subst e; rw [hb] at hb2; exact absurd hb2 (by decide)
                · exact h_g j (by omega) hb2⟩)
            | (refine ⟨_, Hs.s H_fars, fun j hj hb2 => ?_⟩
               by_cases e : j = i
               · subst e; rw [va_up_self]
               · rw [va_up_ne _ _ e]; exact h_g j (by omega) hb2)
          · first
            | (rw [bs, hb]; simpa using h_w)
            | (rw [h_w, bs, hb, ← nI_or]
               congr 1
               rcases hz_57 with ⟨q, rfl⟩ | ⟨q, rfl⟩
               · rw [pw14 i (by omega)]; simp [q]
               · simp [q]; try rfl)
          · exact nI_1 i
  exact hA_4 0 (by omega) _ () () () _ _ (Fr.refl _ _) (hTa) (⟨_, H_fars, fun j hj => absurd hj (by omega)⟩) (rfl) (rfl)

/-- the fewest without whose ANSWERS it doesn't stand, as a set -/
def fewS (st : Nat → Bool) (N : Nat) : Option Nat :=
  if st (2 ^ N - 1) = false then some 0 else
  match (List.range N).find? (fun a => !st (sd (2 ^ N - 1) (2 ^ a))) with
  | some a => some (2 ^ a)
  | none => match (List.range N).find? (fun a => ((List.range N).find? (fun b => decide (a < b) && !st (sd (2 ^ N - 1) (2 ^ a ||| 2 ^ b)))).isSome) with
    | none => none
    | some a => ((List.range N).find? (fun b => decide (a < b) && !st (sd (2 ^ N - 1) (2 ^ a ||| 2 ^ b)))).map (fun b => 2 ^ a ||| 2 ^ b)

theorem few_pair {st : Nat → Bool} {N p q : Nat} (h0 : st (2 ^ N - 1) = true) (h1 : ∀ j, j < N → st (sd (2 ^ N - 1) (2 ^ j)) = true) (h2 : ∀ a, a < p → ∀ b, b < N → a < b → st (sd (2 ^ N - 1) (2 ^ a ||| 2 ^ b)) = true)
    (h3 : ∀ b, b < q → p < b → st (sd (2 ^ N - 1) (2 ^ p ||| 2 ^ b)) = true) (hpq : p < q) (hq : q < N) (h4 : st (sd (2 ^ N - 1) (2 ^ p ||| 2 ^ q)) = false) : nI (2 ^ p ||| 2 ^ q) = oI (fewS st N) := by
  have e2 : (List.range N).find? (fun b => decide (p < b) && !st (sd (2 ^ N - 1) (2 ^ p ||| 2 ^ b))) = some q := rng_some hq (by simp [hpq, h4]) (fun j hj => by
    by_cases hp : p < j
    · simp [h3 j hj hp]
    · simp [hp])
  have e1 : (List.range N).find? (fun a => ((List.range N).find? (fun b => decide (a < b) && !st (sd (2 ^ N - 1) (2 ^ a ||| 2 ^ b)))).isSome) = some p := rng_some (by omega) (by rw [e2]; rfl) (fun a ha => by
    rw [rng_none (fun b hb => by
      by_cases hp : a < b
      · simp [h2 a ha b hb hp]
      · simp [hp])]; rfl)
  rw [fewS, if_neg (by rw [h0]; decide), rng_none (fun j hj => by simp [h1 j hj])]
  simp only [e1, e2]
  rfl
theorem few_none {st : Nat → Bool} {N : Nat} (h0 : st (2 ^ N - 1) = true) (h1 : ∀ j, j < N → st (sd (2 ^ N - 1) (2 ^ j)) = true) (h2 : ∀ a, a < N → ∀ b, b < N → a < b → st (sd (2 ^ N - 1) (2 ^ a ||| 2 ^ b)) = true) : (-1 : Int32) = oI (fewS st N) := by
  have e1 : (List.range N).find? (fun a => ((List.range N).find? (fun b => decide (a < b) && !st (sd (2 ^ N - 1) (2 ^ a ||| 2 ^ b)))).isSome) = none := rng_none (fun a ha => by
    rw [rng_none (fun b hb => by
      by_cases hp : a < b
      · simp [h2 a ha b hb hp]
      · simp [hp])]; rfl)
  rw [fewS, if_neg (by rw [h0]; decide), rng_none (fun j hj => by simp [h1 j hj])]
  simp only [e1]
  rfl

theorem s_X10_fewest {h : AH} {tc tl lf lp cost co : Int32} {less ans : Nat → Int32} {T N S0 n D : Nat} {t : Int32} {dl : Nat → Nat} (H_mc : Hs h 0 (oMC tc tl lf lp cost)) (H_ch : Hs h 1 (oCh (nI N) co (nI S0))) (H_th : Hs h 6 (oTh (nI n))) (H_tl_ : Hs h 9 (aZ 12 less)) (H_an : Hs h 11 (aI 168 ans)) (hTa : TaOK h) (hDe : DeOK h D dl) (hT : T < n) (hN : N ≤ 14) (hn : n ≤ 12) (hS0 : S0 < 16384) (hV : ∀ t, t < 12 → ∀ c, c < 14 → ans (t * 14 + c) = -1 ∨ ∃ v, v ≤ 99 ∧ ans (t * 14 + c) = nI v) : Sp M_X10_fewest (0, 0) h [.ref 0, .int (nI T), .int t] (rI (fun x h' => x = oI (fewS (fun A => stC (farC ans less A dl T S0 D) t D) N) ∧ TaOK h' ∧ Fr [31, 32, 33, 34] h h')) := by
  refine ⟨Nat.le_of_ble_eq_true rfl, ?_⟩
  show E _ _ _ 0 h [some (.ref 0), some (.int (nI T)), some (.int t), none, none, none, none] []
  have G_mc := H_mc
  have G_ch := H_ch
  have G_th := H_th
  have G_tl_ := H_tl_
  have G_an := H_an
  have gDe := hDe
  have hA2 : 2 ^ N - 1 < 2 ^ 31 := by have := Nat.pow_le_pow_right (n := 2) (by decide) hN; omega
  refine e_aloadn d_X10_fewest_0 rfl ?_
  refine e_get d_X10_fewest_1 f_X10_10 H_mc rfl ?_
  refine e_callVI d_X10_fewest_4 l_X10_fewest_134 H_ch rfl rfl (s_X0_all2 H_ch ) rfl rfl (Nat.le_of_ble_eq_true rfl) ?_
  rw [al_14 N hN]
  refine e_istoren d_X10_fewest_7 (by decide) rfl ?_
  refine e_aloadn d_X10_fewest_8 rfl ?_
  refine e_aloadn d_X10_fewest_9 rfl ?_
  refine e_iloadn d_X10_fewest_10 rfl ?_
  refine e_iloadn d_X10_fewest_11 rfl ?_
  refine e_aloadn d_X10_fewest_12 rfl ?_
  refine e_get d_X10_fewest_13 f_X10_10 H_mc rfl ?_
  refine e_get d_X10_fewest_16 f_X10_117 H_ch rfl ?_
  refine e_callRVI d_X10_fewest_19 l_X10_fewest_185 H_mc rfl rfl (s_X10_asFar (T := T) (A := 2 ^ N - 1) H_mc H_th H_tl_ H_an hTa hDe hT hn hS0 (Nat.lt_of_le_of_lt (by first | exact Nat.le_refl _ | exact sd_le _ _) hA2) (hV _ (by omega))) rfl rfl (Nat.le_of_ble_eq_true rfl) (fun x_19 h_19 q_19 s_19 => ?_)
  obtain ⟨rfl, hTa_19, fr_19⟩ := q_19
  have H_mc := fr_19.hs H_mc (by first | decide | (simp; omega))
  have H_ch := fr_19.hs H_ch (by first | decide | (simp; omega))
  have H_th := fr_19.hs H_th (by first | decide | (simp; omega))
  have H_tl_ := fr_19.hs H_tl_ (by first | decide | (simp; omega))
  have H_an := fr_19.hs H_an (by first | decide | (simp; omega))
  have H_DE := DeOK.fr hDe fr_19 (by decide)
  refine e_iloadn d_X10_fewest_22 rfl ?_
  refine e_callVI d_X10_fewest_23 l_X10_fewest_189 H_mc rfl rfl (s_X10_stands H_mc H_DE) rfl rfl (Nat.le_of_ble_eq_true rfl) ?_
  refine e_if_ne d_X10_fewest_26 (fun c_26 => ?_) (fun c_26 => ?_)
  · have hs0 := bI_1.mp (bI_z.resolve_left c_26)
    refine e_iconst (v := 0) d_X10_fewest_31 (by decide) ?_
    refine e_istore d_X10_fewest_32 (by decide) rfl ?_
    have hA_34 : ∀ i, i ≤ N → ∀ (k : AH) (F : Unit) (A : Unit) (u : Unit) (y : Int32), (Fr [31, 32, 33, 34] h k) → (TaOK k) → (∀ j, j < i → (fun A => stC (farC ans less A dl T S0 D) t D) (sd (2 ^ N - 1) (2 ^ j)) = true) → (y = nI i) → E M_X10_fewest (0, 0) (rI (fun x h' => x = oI (fewS (fun A => stC (farC ans less A dl T S0 D) t D) N) ∧ TaOK h' ∧ Fr [31, 32, 33, 34] h h')) 34 (k) [some (.ref 0), some (.int (nI T)), some (.int t), some (.int (nI (2 ^ N - 1))), some (.int y), none, none] [] := by
      refine loop_ind (n := N) ?_
      intro i hi_i ih_34 k F A u y h_F h_A h_u h_y
      subst h_y
      have H_mc := h_F.hs G_mc (by decide)
      have H_ch := h_F.hs G_ch (by decide)
      have H_th := h_F.hs G_th (by decide)
      have H_tl_ := h_F.hs G_tl_ (by decide)
      have H_an := h_F.hs G_an (by decide)
      have hDe := DeOK.fr gDe h_F (by decide)
      have hTa := h_A
      refine e_iload d_X10_fewest_34 rfl ?_
      refine e_aloadn d_X10_fewest_36 rfl ?_
      refine e_get d_X10_fewest_37 f_X10_10 H_mc rfl ?_
      refine e_get d_X10_fewest_40 f_X10_103 H_ch rfl ?_
      refine e_icmp_ge d_X10_fewest_43 (fun c => ?_) (fun c => ?_)
      · have c := i_le (by omega) (by omega) c
        obtain rfl : N = i := by omega
        refine e_iconst (v := 0) d_X10_fewest_85 (by decide) ?_
        refine e_istore d_X10_fewest_86 (by decide) rfl ?_
        have hA_88 : ∀ p, p ≤ N → ∀ (k : AH) (F : Unit) (A : Unit) (v : Unit) (y : Int32), (Fr [31, 32, 33, 34] h k) → (TaOK k) → (∀ a, a < p → ∀ b, b < N → a < b → (fun A => stC (farC ans less A dl T S0 D) t D) (sd (2 ^ N - 1) (2 ^ a ||| 2 ^ b)) = true) → (y = nI p) → E M_X10_fewest (0, 0) (rI (fun x h' => x = oI (fewS (fun A => stC (farC ans less A dl T S0 D) t D) N) ∧ TaOK h' ∧ Fr [31, 32, 33, 34] h h')) 88 (k) [some (.ref 0), some (.int (nI T)), some (.int t), some (.int (nI (2 ^ N - 1))), some (.int y), none, none] [] := by
          refine loop_ind (n := N) ?_
          intro p hi_p ih_88 k F A v y h_F h_A h_v h_y
          subst h_y
          have H_mc := h_F.hs G_mc (by decide)
          have H_ch := h_F.hs G_ch (by decide)
          have H_th := h_F.hs G_th (by decide)
          have H_tl_ := h_F.hs G_tl_ (by decide)
          have H_an := h_F.hs G_an (by decide)
          have hDe := DeOK.fr gDe h_F (by decide)
          have hTa := h_A
          refine e_iload d_X10_fewest_88 rfl ?_
          refine e_aloadn d_X10_fewest_90 rfl ?_
          refine e_get d_X10_fewest_91 f_X10_10 H_mc rfl ?_
          refine e_get d_X10_fewest_94 f_X10_103 H_ch rfl ?_
          refine e_icmp_ge d_X10_fewest_97 (fun cp => ?_) (fun cp => ?_)
          · have cp := i_le (by omega) (by omega) cp
            obtain rfl : N = p := by omega
            refine e_iconst (v := -1) d_X10_fewest_170 (by decide) ?_
            exact e_iret d_X10_fewest_171 rfl (rfl) (⟨_, rfl, few_none hs0 (fun j hj => h_u j hj) (fun a ha b hb hab => h_v a ha b hb hab), h_A, h_F⟩)
          · have cp := i_nle (by omega) (by omega) cp
            refine e_iload d_X10_fewest_100 rfl ?_
            refine e_iconst (v := 1) d_X10_fewest_102 (by decide) ?_
            refine e_iadd d_X10_fewest_103 ?_
            refine e_istore d_X10_fewest_104 (by decide) rfl ?_
            have hA_106 : ∀ q, q ≤ N → ∀ (k : AH) (F : Unit) (A : Unit) (w : Unit) (x : Unit) (z : Int32), (Fr [31, 32, 33, 34] h k) → (TaOK k) → (∀ b, b < q → p < b → (fun A => stC (farC ans less A dl T S0 D) t D) (sd (2 ^ N - 1) (2 ^ p ||| 2 ^ b)) = true) → (p < q) → (z = nI q) → E M_X10_fewest (0, 0) (rI (fun x h' => x = oI (fewS (fun A => stC (farC ans less A dl T S0 D) t D) N) ∧ TaOK h' ∧ Fr [31, 32, 33, 34] h h')) 106 (k) [some (.ref 0), some (.int (nI T)), some (.int t), some (.int (nI (2 ^ N - 1))), some (.int (nI p)), some (.int z), none] [] := by
              refine loop_ind (n := N) ?_
              intro q hi_q ih_106 k F A w x z h_F h_A h_w h_x h_z
              subst h_z
              have H_mc := h_F.hs G_mc (by decide)
              have H_ch := h_F.hs G_ch (by decide)
              have H_th := h_F.hs G_th (by decide)
              have H_tl_ := h_F.hs G_tl_ (by decide)
              have H_an := h_F.hs G_an (by decide)
              have hDe := DeOK.fr gDe h_F (by decide)
              have hTa := h_A
              refine e_iload d_X10_fewest_106 rfl ?_
              refine e_aloadn d_X10_fewest_108 rfl ?_
              refine e_get d_X10_fewest_109 f_X10_10 H_mc rfl ?_
              refine e_get d_X10_fewest_112 f_X10_103 H_ch rfl ?_
              refine e_icmp_ge d_X10_fewest_115 (fun cq => ?_) (fun cq => ?_)
              · have cq := i_le (by omega) (by omega) cq
                obtain rfl : N = q := by omega
                refine e_iincw (w := 1) d_X10_fewest_164 rfl (by decide) (by decide) rfl ?_
                refine e_gt d_X10_fewest_167 ?_
                refine e_drop1 5 ?_
                refine ih_88 (p + 1) (by omega) (by omega) _ () () () _ ?_ ?_ ?_ ?_
                · exact h_F
                · exact h_A
                · intro a ha b hb hab
                  by_cases e : a = p
                  · subst e; exact h_w b (by omega) hab
                  · exact h_v a (by omega) b hb hab
                · exact nI_1 p
              · have cq := i_nle (by omega) (by omega) cq
                refine e_iconst (v := 1) d_X10_fewest_118 (by decide) ?_
                refine e_iload d_X10_fewest_119 rfl ?_
                refine e_ishl d_X10_fewest_121 ?_
                refine e_iconst (v := 1) d_X10_fewest_122 (by decide) ?_
                refine e_iload d_X10_fewest_123 rfl ?_
                refine e_ishl d_X10_fewest_125 ?_
                refine e_ior d_X10_fewest_126 ?_
                rw [pw14 p (by omega), pw14 q (by omega), nI_or]
                refine e_istore d_X10_fewest_127 (by decide) rfl ?_
                refine e_aloadn d_X10_fewest_129 rfl ?_
                refine e_aloadn d_X10_fewest_130 rfl ?_
                refine e_iloadn d_X10_fewest_131 rfl ?_
                refine e_iloadn d_X10_fewest_132 rfl ?_
                refine e_iload d_X10_fewest_133 rfl ?_
                refine e_iconst (v := -1) d_X10_fewest_135 (by decide) ?_
                refine e_ixor d_X10_fewest_136 ?_
                refine e_iand d_X10_fewest_137 ?_
                rw [nI_sdx]
                refine e_aloadn d_X10_fewest_138 rfl ?_
                refine e_get d_X10_fewest_139 f_X10_10 H_mc rfl ?_
                refine e_get d_X10_fewest_142 f_X10_117 H_ch rfl ?_
                refine e_callRVI d_X10_fewest_145 l_X10_fewest_185 H_mc rfl rfl (s_X10_asFar (T := T) (A := sd (2 ^ N - 1) (2 ^ p ||| 2 ^ q)) H_mc H_th H_tl_ H_an hTa hDe hT hn hS0 (Nat.lt_of_le_of_lt (by first | exact Nat.le_refl _ | exact sd_le _ _) hA2) (hV _ (by omega))) rfl rfl (Nat.le_of_ble_eq_true rfl) (fun x_145 h_145 q_145 s_145 => ?_)
                obtain ⟨rfl, hTa_145, fr_145⟩ := q_145
                have H_mc := fr_145.hs H_mc (by first | decide | (simp; omega))
                have H_ch := fr_145.hs H_ch (by first | decide | (simp; omega))
                have H_th := fr_145.hs H_th (by first | decide | (simp; omega))
                have H_tl_ := fr_145.hs H_tl_ (by first | decide | (simp; omega))
                have H_an := fr_145.hs H_an (by first | decide | (simp; omega))
                have H_DE := DeOK.fr hDe fr_145 (by decide)
                refine e_iloadn d_X10_fewest_148 rfl ?_
                refine e_callVI d_X10_fewest_149 l_X10_fewest_189 H_mc rfl rfl (s_X10_stands H_mc H_DE) rfl rfl (Nat.le_of_ble_eq_true rfl) ?_
                refine e_if_ne d_X10_fewest_152 (fun c_152 => ?_) (fun c_152 => ?_)
                · have hs2 := bI_1.mp (bI_z.resolve_left c_152)
                  refine e_iincw (w := 1) d_X10_fewest_158 rfl (by decide) (by decide) rfl ?_
                  refine e_gt d_X10_fewest_161 ?_
                  refine e_drop1 6 ?_
                  refine ih_106 (q + 1) (by omega) (by omega) _ () () () () _ ?_ ?_ ?_ ?_ ?_
                  · exact h_F.trans fr_145
                  · exact hTa_145
                  · intro b hb hpb
                    by_cases e : b = q
                    · subst e; exact hs2
                    · exact h_w b (by omega) hpb
                  · omega
                  · exact nI_1 q
                · have hs2 : (fun A => stC (farC ans less A dl T S0 D) t D) _ = false := Bool.eq_false_iff.mpr (bI_0.mp c_152)
                  refine e_iload d_X10_fewest_155 rfl ?_
                  exact e_iret d_X10_fewest_157 rfl (rfl) (⟨_, rfl, few_pair hs0 (fun j hj => h_u j hj) (fun a ha b hb hab => h_v a ha b hb hab) (fun b hb hpb => h_w b hb hpb) h_x cq hs2, hTa_145, h_F.trans fr_145⟩)
            exact hA_106 (p + 1) (by omega) _ () () () () _ (h_F) (h_A) (fun b h1 h2 => absurd h1 (by omega)) (Nat.lt_succ_self p) (nI_1 p)
        exact hA_88 0 (by omega) _ () () () _ (h_F) (h_A) (fun a ha => absurd ha (by omega)) (rfl)
      · have c := i_nle (by omega) (by omega) c
        refine e_aloadn d_X10_fewest_46 rfl ?_
        refine e_aloadn d_X10_fewest_47 rfl ?_
        refine e_iloadn d_X10_fewest_48 rfl ?_
        refine e_iloadn d_X10_fewest_49 rfl ?_
        refine e_iconst (v := 1) d_X10_fewest_50 (by decide) ?_
        refine e_iload d_X10_fewest_51 rfl ?_
        refine e_ishl d_X10_fewest_53 ?_
        refine e_iconst (v := -1) d_X10_fewest_54 (by decide) ?_
        refine e_ixor d_X10_fewest_55 ?_
        refine e_iand d_X10_fewest_56 ?_
        rw [pw14 i (by omega), nI_sdx]
        refine e_aloadn d_X10_fewest_57 rfl ?_
        refine e_get d_X10_fewest_58 f_X10_10 H_mc rfl ?_
        refine e_get d_X10_fewest_61 f_X10_117 H_ch rfl ?_
        refine e_callRVI d_X10_fewest_64 l_X10_fewest_185 H_mc rfl rfl (s_X10_asFar (T := T) (A := sd (2 ^ N - 1) (2 ^ i)) H_mc H_th H_tl_ H_an hTa hDe hT hn hS0 (Nat.lt_of_le_of_lt (by first | exact Nat.le_refl _ | exact sd_le _ _) hA2) (hV _ (by omega))) rfl rfl (Nat.le_of_ble_eq_true rfl) (fun x_64 h_64 q_64 s_64 => ?_)
        obtain ⟨rfl, hTa_64, fr_64⟩ := q_64
        have H_mc := fr_64.hs H_mc (by first | decide | (simp; omega))
        have H_ch := fr_64.hs H_ch (by first | decide | (simp; omega))
        have H_th := fr_64.hs H_th (by first | decide | (simp; omega))
        have H_tl_ := fr_64.hs H_tl_ (by first | decide | (simp; omega))
        have H_an := fr_64.hs H_an (by first | decide | (simp; omega))
        have H_DE := DeOK.fr hDe fr_64 (by decide)
        refine e_iloadn d_X10_fewest_67 rfl ?_
        refine e_callVI d_X10_fewest_68 l_X10_fewest_189 H_mc rfl rfl (s_X10_stands H_mc H_DE) rfl rfl (Nat.le_of_ble_eq_true rfl) ?_
        refine e_if_ne d_X10_fewest_71 (fun c_71 => ?_) (fun c_71 => ?_)
        · have hs1 := bI_1.mp (bI_z.resolve_left c_71)
          refine e_iincw (w := 1) d_X10_fewest_79 rfl (by decide) (by decide) rfl ?_
          refine e_gt d_X10_fewest_82 ?_
          refine ih_34 (i + 1) (by omega) (by omega) _ () () () _ ?_ ?_ ?_ ?_
          · exact h_F.trans fr_64
          · exact hTa_64
          · intro j hj
            by_cases e : j = i
            · subst e; exact hs1
            · exact h_u j (by omega)
          · exact nI_1 i
        · have hs1 : (fun A => stC (farC ans less A dl T S0 D) t D) _ = false := Bool.eq_false_iff.mpr (bI_0.mp c_71)
          refine e_iconst (v := 1) d_X10_fewest_74 (by decide) ?_
          refine e_iload d_X10_fewest_75 rfl ?_
          refine e_ishl d_X10_fewest_77 ?_
          exact e_iret d_X10_fewest_78 rfl (rfl) (⟨_, rfl, by rw [fewS, if_neg (by rw [hs0]; decide), rng_some c (by simpa using hs1) (fun j hj => by simpa using h_u j hj), pw14 i (by omega)]; rfl, hTa_64, h_F.trans fr_64⟩)
    exact hA_34 0 (by omega) _ () () () _ (fr_19) (hTa_19) (fun j hj => absurd hj (by omega)) (rfl)
  · have hs0 : (fun A => stC (farC ans less A dl T S0 D) t D) _ = false := Bool.eq_false_iff.mpr (bI_0.mp c_26)
    refine e_iconst (v := 0) d_X10_fewest_29 (by decide) ?_
    exact e_iret d_X10_fewest_30 rfl (rfl) (⟨_, rfl, by rw [fewS, if_pos hs0]; rfl, hTa_19, fr_19⟩)
