/-! THE CLASS: sets by sex and kind, AS FAR -/
/-- AS FAR as the class has it: by the ANSWERS of a set A alone, S0 being HAD -/
def farC (ans less : Nat → Int32) (A : Nat) (dl : Nat → Nat) (T S0 D : Nat) : Int32 := if dN (cF ans T A) S0 14 * dM (cF ans T A) S0 14 = 0 ∨ D = 0 then -1 else nI (cnt (asF (cF ans T A) (cV ans less T) (dU (cF ans T A) (cV ans less T) S0 14) (dN (cF ans T A) S0 14 * dM (cF ans T A) S0 14)) dl D)

theorem s_X0_ofSex {h : AH} {co ha : Int32} {sexes : Nat → Int32} {x : Int32} {n : Nat} (H_ch : Hs h 1 (oCh (nI n) co ha)) (H_sx : Hs h 2 (aI 14 sexes)) (hn : n ≤ 14) : Sp M_X0_ofSex (0, 0) h [.ref 1, .int x] (pI (nI (bs (fun c => decide (sexes c = x)) n)) h) := by
  refine ⟨Nat.le_of_ble_eq_true rfl, ?_⟩
  show E _ _ _ 0 h [some (.ref 1), some (.int x), none, none] []
  refine e_iconst (v := 0) d_X0_ofSex_0 (by decide) ?_
  refine e_istoren d_X0_ofSex_1 (by decide) rfl ?_
  refine e_iconst (v := 0) d_X0_ofSex_2 (by decide) ?_
  refine e_istoren d_X0_ofSex_3 (by decide) rfl ?_
  have hA_4 : ∀ i, i ≤ n → ∀ (S : Int32) (y : Int32), (S = nI (bs (fun c => decide (sexes c = x)) i)) → (y = nI i) → E M_X0_ofSex (0, 0) (pI (nI (bs (fun c => decide (sexes c = x)) n)) h) 4 (h) [some (.ref 1), some (.int x), some (.int S), some (.int y)] [] := by
    refine loop_ind (n := n) ?_
    intro i hi_i ih_4 S y h_S h_y
    refine e_iloadn d_X0_ofSex_4 rfl ?_
    refine e_aloadn d_X0_ofSex_5 rfl ?_
    refine e_get d_X0_ofSex_6 f_X0_24 H_ch rfl ?_
    rw [h_y]
    refine e_icmp_ge d_X0_ofSex_9 (fun c => ?_) (fun c => ?_)
    · have c := i_le (by omega) (by omega) c
      obtain rfl : i = n := by omega
      refine e_iloadn d_X0_ofSex_38 rfl ?_
      exact e_iret d_X0_ofSex_39 rfl (rfl) (⟨by rw [h_S], rfl⟩)
    · have c := i_nle (by omega) (by omega) c
      refine e_iloadn d_X0_ofSex_12 rfl ?_
      refine e_aloadn d_X0_ofSex_13 rfl ?_
      refine e_get d_X0_ofSex_14 f_X0_9 H_ch rfl ?_
      refine e_iloadn d_X0_ofSex_17 rfl ?_
      refine e_ialdN (k := i) d_X0_ofSex_18 H_sx rfl (by omega) (by omega) ?_
      refine e_iloadn d_X0_ofSex_19 rfl ?_
      refine e_dia 30 (0) ((1 : Int32) <<< (nI i &&& 31)) (fun kt kf => e_icmp_ne d_X0_ofSex_20 kt kf) (fun c_20 K_20 => ?_) (fun c_20 K_20 => ?_) (fun z_20 hz_20 => ?_)
      · refine e_iconst (v := 0) d_X0_ofSex_29 (by decide) ?_
        exact K_20
      · refine e_iconst (v := 1) d_X0_ofSex_23 (by decide) ?_
        refine e_iloadn d_X0_ofSex_24 rfl ?_
        refine e_ishl d_X0_ofSex_25 ?_
        refine e_gt d_X0_ofSex_26 ?_
        exact K_20
      · refine e_ior d_X0_ofSex_30 ?_
        refine e_istoren d_X0_ofSex_31 (by decide) rfl ?_
        refine e_iincw (w := 1) d_X0_ofSex_32 rfl (by decide) (by decide) rfl ?_
        refine e_gt d_X0_ofSex_35 ?_
        refine ih_4 (i + 1) (by omega) (by omega) _ _ ?_ ?_
        · rw [bs, ← nI_or, h_S]
          congr 1
          rcases hz_20 with ⟨q, rfl⟩ | ⟨q, rfl⟩
          · simp [q]; rfl
          · rw [pw14 i (by omega)]; simp [q]
        · exact nI_1 i
  exact hA_4 0 (by omega) _ _ (rfl) (rfl)

theorem s_X9_ofKind {h : AH} {kinds : Nat → Int32} {x : Int32} {n : Nat} (H_th : Hs h 6 (oTh (nI n))) (H_tk : Hs h 7 (aI 12 kinds)) (hn : n ≤ 12) : Sp M_X9_ofKind (0, 0) h [.ref 6, .int x] (pI (nI (bs (fun c => decide (kinds c = x)) n)) h) := by
  refine ⟨Nat.le_of_ble_eq_true rfl, ?_⟩
  show E _ _ _ 0 h [some (.ref 6), some (.int x), none, none] []
  refine e_iconst (v := 0) d_X9_ofKind_0 (by decide) ?_
  refine e_istoren d_X9_ofKind_1 (by decide) rfl ?_
  refine e_iconst (v := 0) d_X9_ofKind_2 (by decide) ?_
  refine e_istoren d_X9_ofKind_3 (by decide) rfl ?_
  have hA_4 : ∀ i, i ≤ n → ∀ (S : Int32) (y : Int32), (S = nI (bs (fun c => decide (kinds c = x)) i)) → (y = nI i) → E M_X9_ofKind (0, 0) (pI (nI (bs (fun c => decide (kinds c = x)) n)) h) 4 (h) [some (.ref 6), some (.int x), some (.int S), some (.int y)] [] := by
    refine loop_ind (n := n) ?_
    intro i hi_i ih_4 S y h_S h_y
    refine e_iloadn d_X9_ofKind_4 rfl ?_
    refine e_aloadn d_X9_ofKind_5 rfl ?_
    refine e_get d_X9_ofKind_6 f_X9_34 H_th rfl ?_
    rw [h_y]
    refine e_icmp_ge d_X9_ofKind_9 (fun c => ?_) (fun c => ?_)
    · have c := i_le (by omega) (by omega) c
      obtain rfl : i = n := by omega
      refine e_iloadn d_X9_ofKind_38 rfl ?_
      exact e_iret d_X9_ofKind_39 rfl (rfl) (⟨by rw [h_S], rfl⟩)
    · have c := i_nle (by omega) (by omega) c
      refine e_iloadn d_X9_ofKind_12 rfl ?_
      refine e_aloadn d_X9_ofKind_13 rfl ?_
      refine e_get d_X9_ofKind_14 f_X9_9 H_th rfl ?_
      refine e_iloadn d_X9_ofKind_17 rfl ?_
      refine e_ialdN (k := i) d_X9_ofKind_18 H_tk rfl (by omega) (by omega) ?_
      refine e_iloadn d_X9_ofKind_19 rfl ?_
      refine e_dia 30 (0) ((1 : Int32) <<< (nI i &&& 31)) (fun kt kf => e_icmp_ne d_X9_ofKind_20 kt kf) (fun c_20 K_20 => ?_) (fun c_20 K_20 => ?_) (fun z_20 hz_20 => ?_)
      · refine e_iconst (v := 0) d_X9_ofKind_29 (by decide) ?_
        exact K_20
      · refine e_iconst (v := 1) d_X9_ofKind_23 (by decide) ?_
        refine e_iloadn d_X9_ofKind_24 rfl ?_
        refine e_ishl d_X9_ofKind_25 ?_
        refine e_gt d_X9_ofKind_26 ?_
        exact K_20
      · refine e_ior d_X9_ofKind_30 ?_
        refine e_istoren d_X9_ofKind_31 (by decide) rfl ?_
        refine e_iincw (w := 1) d_X9_ofKind_32 rfl (by decide) (by decide) rfl ?_
        refine e_gt d_X9_ofKind_35 ?_
        refine ih_4 (i + 1) (by omega) (by omega) _ _ ?_ ?_
        · rw [bs, ← nI_or, h_S]
          congr 1
          rcases hz_20 with ⟨q, rfl⟩ | ⟨q, rfl⟩
          · simp [q]; rfl
          · rw [pw14 i (by omega)]; simp [q]
        · exact nI_1 i
  exact hA_4 0 (by omega) _ _ (rfl) (rfl)

theorem s_X7_setLeast_a {h : AH} {least : Nat → Int32} {U : Int} {A Z L : Nat} (H_ta : Hs h 31 (oTa 31 (nI (65536 * A + Z)))) (H_am : Hs h 34 (aI 16 least)) (h1 : -4851 ≤ U) (h2 : U ≤ 4851) (hA1 : 1 ≤ A) (hA : A ≤ 14) (hZ : Z ≤ 1386) (hL : L ≤ 49) (hL0 : 0 < L) : Sp M_X7_setLeast (0, 0) h [.ref 31, .int (Int32.ofInt U), .int (nI L)] (rV (fun h' => ∃ g : Nat → Int32, h' = up h 34 (aI 16 g) ∧ ∀ n, n < 16 → g n = ltb U A Z L n)) := by
  refine ⟨Nat.le_of_ble_eq_true rfl, ?_⟩
  show E _ _ _ 0 h [some (.ref 31), some (.int (Int32.ofInt U)), some (.int (nI L)), none, none, none, none, none] []
  refine e_aloadn d_X7_setLeast_0 rfl ?_
  refine e_get d_X7_setLeast_1 f_X7_29 H_ta rfl ?_
  refine e_bipush (v := 16) d_X7_setLeast_4 (by decide) ?_
  refine e_ishr d_X7_setLeast_6 ?_
  rw [hi16 (by omega) (by omega)]
  refine e_istoren d_X7_setLeast_7 (by decide) rfl ?_
  refine e_aloadn d_X7_setLeast_8 rfl ?_
  refine e_get d_X7_setLeast_9 f_X7_29 H_ta rfl ?_
  refine e_ldc d_X7_setLeast_12 v_X7_40 ?_
  refine e_iand d_X7_setLeast_14 ?_
  rw [lo16 (by omega) (by omega)]
  refine e_istore d_X7_setLeast_15 (by decide) rfl ?_
  refine e_aloadn d_X7_setLeast_17 rfl ?_
  refine e_get d_X7_setLeast_18 f_X7_18 H_ta rfl ?_
  refine e_ldc d_X7_setLeast_21 v_X7_39 ?_
  refine e_callSV d_X7_setLeast_23 l_X7_setLeast_59 (s_J7_fill_53178 H_am (by decide)) rfl rfl (Nat.le_of_ble_eq_true rfl) ?_
  refine e_iconst (v := 1) d_X7_setLeast_26 (by decide) ?_
  refine e_istore d_X7_setLeast_27 (by decide) rfl ?_
  have hA_29 : ∀ i, i ≤ A → ∀ (u : Unit) (y : Int32) (g : Nat → Int32), (1 ≤ i) → (y = nI i) → (∀ n, n < 16 → g n = if n < i then ltb U A Z L n else 65536) → E M_X7_setLeast (0, 0) (rV (fun h' => ∃ g : Nat → Int32, h' = up h 34 (aI 16 g) ∧ ∀ n, n < 16 → g n = ltb U A Z L n)) 29 (up h 34 (aI 16 g)) [some (.ref 31), some (.int (Int32.ofInt U)), some (.int (nI L)), some (.int (nI A)), some (.int (nI Z)), some (.int y), none, none] [] := by
    refine loop_ind (n := A) ?_
    intro i hi_i ih_29 u y g h_u h_y h_g
    subst h_y
    refine e_iload d_X7_setLeast_29 rfl ?_
    refine e_iloadn d_X7_setLeast_31 rfl ?_
    refine e_icmp_ge d_X7_setLeast_32 (fun c => ?_) (fun c => ?_)
    · have c := i_le (by omega) (by omega) c
      obtain rfl : i = A := by omega
      exact e_vret d_X7_setLeast_96 rfl (⟨rfl, g, rfl, fun n hn => by
      rw [h_g n hn]
      split
      · rfl
      · rw [ltb, if_neg (by omega)]⟩)
    · have c := i_nle (by omega) (by omega) c
      refine e_iload d_X7_setLeast_35 rfl ?_
      refine e_aloadn d_X7_setLeast_37 rfl ?_
      refine e_get d_X7_setLeast_38 f_X7_18 (H_ta.n (by decide)) rfl ?_
      refine e_alenL (v := 16) d_X7_setLeast_41 H_am.s rfl ?_
      refine e_icmp_ge d_X7_setLeast_42 (fun z => by first | exact absurd (fun z => absurd (i_le (a := 16) (by decide) (by omega) z) (by omega)) z | exact absurd z (fun z => absurd (i_le (a := 16) (by decide) (by omega) z) (by omega))) (fun _ => ?_)
      refine e_iloadn d_X7_setLeast_45 rfl ?_
      refine e_iload d_X7_setLeast_46 rfl ?_
      refine e_imul d_X7_setLeast_48 ?_
      refine e_iloadn d_X7_setLeast_49 rfl ?_
      refine e_iload d_X7_setLeast_50 rfl ?_
      refine e_isub d_X7_setLeast_52 ?_
      refine e_imul d_X7_setLeast_53 ?_
      refine e_iload d_X7_setLeast_54 rfl ?_
      refine e_iload d_X7_setLeast_56 rfl ?_
      refine e_imul d_X7_setLeast_58 ?_
      refine e_iloadn d_X7_setLeast_59 rfl ?_
      refine e_imul d_X7_setLeast_60 ?_
      refine e_iadd d_X7_setLeast_61 ?_
      refine e_istore d_X7_setLeast_62 (by decide) rfl ?_
      refine e_iloadn d_X7_setLeast_64 rfl ?_
      refine e_iloadn d_X7_setLeast_65 rfl ?_
      refine e_imul d_X7_setLeast_66 ?_
      refine e_istore d_X7_setLeast_67 (by decide) rfl ?_
      refine e_iload d_X7_setLeast_69 rfl ?_
      have hAL := Nat.mul_pos hA1 hL0
      have hAL2 := Nat.mul_le_mul hA hL
      refine e_if_le d_X7_setLeast_71 (fun z => by first | exact absurd (by rw [pk_mul]; exact fun z => nI_nle hAL (by omega) z) z | exact absurd z (by rw [pk_mul]; exact fun z => nI_nle hAL (by omega) z)) (fun _ => ?_)
      refine e_aloadn d_X7_setLeast_74 rfl ?_
      refine e_get d_X7_setLeast_75 f_X7_18 (H_ta.n (by decide)) rfl ?_
      refine e_iload d_X7_setLeast_78 rfl ?_
      refine e_iload d_X7_setLeast_80 rfl ?_
      refine e_ineg d_X7_setLeast_82 ?_
      refine e_iload d_X7_setLeast_83 rfl ?_
      refine e_callSI d_X7_setLeast_85 l_X7_setLeast_64 (s_J9_floorDiv_7cf53 (by rw [pk_mul]; exact nI_ne0 hAL (by omega))) rfl rfl (Nat.le_of_ble_eq_true rfl) ?_
      refine e_ineg d_X7_setLeast_88 ?_
      refine e_iastN (k := i) d_X7_setLeast_89 H_am.s rfl (by omega) (by omega) ?_
      refine e_iincw (w := 1) d_X7_setLeast_90 rfl (by decide) (by decide) rfl ?_
      refine e_gt d_X7_setLeast_93 ?_
      refine e_drop1 6 ?_
      refine e_drop1 7 ?_
      rw [up_up]
      refine ih_29 (i + 1) (by omega) (by omega) () _ _ ?_ ?_ ?_
      · omega
      · exact nI_1 i
      · intro n hn
        by_cases e : n = i
        · rw [e, va_up_self, show (if i < i + 1 then ltb U A Z L i else 65536) = ltb U A Z L i from if_pos (by omega)]
          rw [nd_32 (by omega), pk_mul]
          exact ltb_32 h1 h2 hA hZ hL hL0 ⟨h_u, c⟩ rfl rfl
        · rw [va_up_ne _ _ e, h_g n hn]
          by_cases e2 : n < i
          · rw [if_pos e2, if_pos (by omega)]
          · rw [if_neg e2, if_neg (by omega)]
  exact hA_29 1 (by omega) () _ _ (Nat.le_refl 1) (rfl) (fun n hn => by simp only [fillTo, if_pos hn]; split <;> simp [ltb]; omega)

theorem s_X7_asFar_a {h : AH} {least row : Nat → Int32} {drow drn : Nat} {dtext : Int32} {g1 g2 ans less : Nat → Int32} {T A S0 D : Nat} {dl : Nat → Nat} (H_ta : Hs h 31 (oTa 31 (nI (pS (own ans less T A) 14 16383)))) (H_al : Hs h 32 (aI 128 g1)) (H_ah : Hs h 33 (aI 128 g2)) (H_am : Hs h 34 (aI 16 least)) (H_de : Hs h 27 (oDe drow (nI D) dtext)) (H_dr : Hs h drow (aI drn row)) (hT : TB g1 g2 (own ans less T A)) (hS0 : S0 < 16384) (hdr : drow = 30 ∨ 92 < drow) (hD : D ≤ drn) (hD2 : D ≤ 16384) (hrn : drn < 2 ^ 31) (hdl : ∀ i, i < D → row i = nI (dl i) ∧ dl i < 16384) (hV : ∀ c, c < 14 → ans (T * 14 + c) = -1 ∨ ∃ v, v ≤ 99 ∧ ans (T * 14 + c) = nI v) : Sp M_X7_asFar (0, 0) h [.ref 31, .ref 27, .int (nI S0)] (rI (fun x h' => x = (farC ans less A dl T S0 D) ∧ (∃ g : Nat → Int32, Hs h' 34 (aI 16 g)) ∧ Fr [34] h h')) := by
  refine ⟨Nat.le_of_ble_eq_true rfl, ?_⟩
  show E _ _ _ 0 h [some (.ref 31), some (.ref 27), some (.int (nI S0)), none, none, none, none] []
  have hbU := dU_bnd (F := (cF ans T A)) (V := (cV ans less T)) (S := S0) (k := 14) (by decide) (cV_99 hV)
  have hbL := dNM_mul (F := (cF ans T A)) (S := S0) (k := 14) (by decide)
  have hnm := dNM_le (F := (cF ans T A)) (S := S0) (k := 14)
  have eA := dN_all (F := (cF ans T A)) (S := S0)
  have ba := dN_le (F := (cF ans T A)) (S := 16383) (k := 14)
  have bz := dS_le (F := (cF ans T A)) (V := (cV ans less T)) (S := 16383) (k := 14) (cV_99 hV)
  refine e_aloadn d_X7_asFar_0 rfl ?_
  refine e_iloadn d_X7_asFar_1 rfl ?_
  refine e_callVI d_X7_asFar_2 l_X7_asFar_41 H_ta rfl rfl (s_X7_lower_a H_ta H_al H_ah hT hS0 hV) rfl rfl (Nat.le_of_ble_eq_true rfl) ?_
  refine e_istoren d_X7_asFar_5 (by decide) rfl ?_
  refine e_iloadn d_X7_asFar_6 rfl ?_
  refine e_if_eq d_X7_asFar_7 (fun c_7 => ?_) (fun c_7 => ?_)
  · have e0 := (nI_eq (b := 0) (by omega) (by decide)).mp c_7
    refine e_iconst (v := -1) d_X7_asFar_17 (by decide) ?_
    exact e_iret d_X7_asFar_18 rfl (rfl) (⟨_, rfl, by first | rw [farC, if_pos (Or.inl e0)] | rw [farC, if_pos (Or.inr eD)], ⟨_, H_am⟩, Fr.refl _ _⟩)
  · have e0 : ¬ dN (cF ans T A) S0 14 * dM (cF ans T A) S0 14 = 0 := fun z => c_7 (by rw [z]; rfl)
    have hL0 : 0 < dN (cF ans T A) S0 14 * dM (cF ans T A) S0 14 := Nat.pos_of_ne_zero e0
    refine e_aloadn d_X7_asFar_10 rfl ?_
    refine e_get d_X7_asFar_11 f_X7_44 H_de rfl ?_
    refine e_if_ne d_X7_asFar_14 (fun c_14 => ?_) (fun c_14 => ?_)
    · have eD : ¬ D = 0 := fun z => c_14 (by rw [z]; rfl)
      refine e_aloadn d_X7_asFar_19 rfl ?_
      refine e_aloadn d_X7_asFar_20 rfl ?_
      refine e_iloadn d_X7_asFar_21 rfl ?_
      refine e_callVI d_X7_asFar_22 l_X7_asFar_49 H_ta rfl rfl (s_X7_upper_a H_ta H_al H_ah hT hS0 hV) rfl rfl (Nat.le_of_ble_eq_true rfl) ?_
      refine e_iloadn d_X7_asFar_25 rfl ?_
      refine e_callRVV d_X7_asFar_26 l_X7_asFar_52 H_ta rfl rfl (s_X7_setLeast_a (A := dN (cF ans T A) 16383 14) (Z := dS (cF ans T A) (cV ans less T) 16383 14) (by rw [← pS_own]; exact H_ta) H_am hbU.1 hbU.2 (by have := Nat.pos_of_mul_pos_right hL0; omega) ba (by omega) hbL hL0) rfl rfl (Nat.le_of_ble_eq_true rfl) (fun h1 q1 s1 => ?_)
      obtain ⟨g3, rfl, hg3⟩ := q1
      refine e_iconst (v := 0) d_X7_asFar_29 (by decide) ?_
      refine e_istore d_X7_asFar_30 (by decide) rfl ?_
      refine e_iconst (v := 0) d_X7_asFar_32 (by decide) ?_
      refine e_istore d_X7_asFar_33 (by decide) rfl ?_
      have hA_35 : ∀ i, i ≤ D → ∀ (f : Int32) (y : Int32), (f = nI (cnt (asF (cF ans T A) (cV ans less T) (dU (cF ans T A) (cV ans less T) S0 14) ((dN (cF ans T A) S0 14 * dM (cF ans T A) S0 14))) dl i)) → (y = nI i) → E M_X7_asFar (0, 0) (rI (fun x h' => x = (farC ans less A dl T S0 D) ∧ (∃ g : Nat → Int32, Hs h' 34 (aI 16 g)) ∧ Fr [34] h h')) 35 (up h 34 (aI 16 g3)) [some (.ref 31), some (.ref 27), some (.int (nI S0)), some (.int (nI ((dN (cF ans T A) S0 14 * dM (cF ans T A) S0 14)))), some (.int f), some (.int y), none] [] := by
        refine loop_ind (n := D) ?_
        intro i hi_i ih_35 f y h_f h_y
        subst h_y
        refine e_iload d_X7_asFar_35 rfl ?_
        refine e_aloadn d_X7_asFar_37 rfl ?_
        refine e_get d_X7_asFar_38 f_X7_44 (H_de.n (by decide)) rfl ?_
        refine e_icmp_ge d_X7_asFar_41 (fun c => ?_) (fun c => ?_)
        · have c := i_le (by omega) (by omega) c
          obtain rfl : i = D := by omega
          refine e_iload d_X7_asFar_97 rfl ?_
          exact e_iret d_X7_asFar_99 rfl (rfl) (⟨_, rfl, by rw [h_f, farC, if_neg (by omega)], ⟨g3, H_am.s⟩, (Fr.refl _ _).up (by decide)⟩)
        · have c := i_nle (by omega) (by omega) c
          refine e_iload d_X7_asFar_44 rfl ?_
          refine e_aloadn d_X7_asFar_46 rfl ?_
          refine e_get d_X7_asFar_47 f_X7_56 (H_de.n (by decide)) rfl ?_
          refine e_alenI d_X7_asFar_50 (H_dr.n (by omega)) ?_
          refine e_icmp_ge d_X7_asFar_51 (fun z => by first | exact absurd (fun z => absurd (i_le (by omega) (by omega) z) (by omega)) z | exact absurd z (fun z => absurd (i_le (by omega) (by omega) z) (by omega))) (fun _ => ?_)
          refine e_aloadn d_X7_asFar_54 rfl ?_
          refine e_aloadn d_X7_asFar_55 rfl ?_
          refine e_get d_X7_asFar_56 f_X7_56 (H_de.n (by decide)) rfl ?_
          refine e_iload d_X7_asFar_59 rfl ?_
          obtain ⟨hr1, hr2⟩ := hdl i c
          have bn := dN_le (F := (cF ans T A)) (S := dl i) (k := 14)
          have bs := dS_le (F := (cF ans T A)) (V := (cV ans less T)) (S := dl i) (k := 14) (cV_99 hV)
          refine e_ialdN (k := i) d_X7_asFar_61 (H_dr.n (by omega)) rfl (by omega) (by omega) ?_
          rw [hr1]
          refine e_callVI d_X7_asFar_62 l_X7_asFar_25 (H_ta.n (by decide)) rfl rfl (s_X7_part_a (H_ta.n (by decide)) (H_al.n (by decide)) (H_ah.n (by decide)) hT hr2) rfl rfl (Nat.le_of_ble_eq_true rfl) ?_
          rw [pS_own]
          refine e_istore d_X7_asFar_65 (by decide) rfl ?_
          refine e_iload d_X7_asFar_67 rfl ?_
          refine e_ldc d_X7_asFar_69 v_X7_40 ?_
          refine e_iand d_X7_asFar_71 ?_
          refine e_aloadn d_X7_asFar_72 rfl ?_
          refine e_get d_X7_asFar_73 f_X7_18 (H_ta.n (by decide)) rfl ?_
          refine e_iload d_X7_asFar_76 rfl ?_
          refine e_bipush (v := 16) d_X7_asFar_78 (by decide) ?_
          refine e_ishr d_X7_asFar_80 ?_
          refine e_bipush (v := 15) d_X7_asFar_81 (by decide) ?_
          refine e_iand d_X7_asFar_83 ?_
          rw [lo16 (by omega) (by omega), hi16 (by omega) (by omega), pk_andN (k := 4) (by omega) (by decide), Nat.mod_eq_of_lt (by omega)]
          refine e_ialdN (k := (dN (cF ans T A) (dl i) 14)) d_X7_asFar_84 H_am.s rfl (by omega) (by omega) ?_
          rw [hg3 _ (by omega)]
          refine e_icmp_lt d_X7_asFar_85 (fun c_85 => ?_) (fun c_85 => ?_)
          · have hP : asF (cF ans T A) (cV ans less T) (dU (cF ans T A) (cV ans less T) S0 14) ((dN (cF ans T A) S0 14 * dM (cF ans T A) S0 14)) (dl i) = false := by
              cases e : asF (cF ans T A) (cV ans less T) (dU (cF ans T A) (cV ans less T) S0 14) ((dN (cF ans T A) S0 14 * dM (cF ans T A) S0 14)) (dl i)
              · rfl
              · exact absurd c_85 ((asF_tab (cV_99 hV) hbU.1 hbU.2 hbL hL0).mpr e)
            refine e_iincw (w := 1) d_X7_asFar_91 rfl (by decide) (by decide) rfl ?_
            refine e_gt d_X7_asFar_94 ?_
            refine e_drop1 6 ?_
            refine ih_35 (i + 1) (by omega) (by omega) _ _ ?_ ?_
            · rw [h_f, cnt, cnt, sm]
              first | (rw [if_pos hP, nI_1]; done) | (rw [if_neg (by simpa using hP)]; rfl)
            · exact nI_1 i
          · have hP : asF (cF ans T A) (cV ans less T) (dU (cF ans T A) (cV ans less T) S0 14) ((dN (cF ans T A) S0 14 * dM (cF ans T A) S0 14)) (dl i) = true := (asF_tab (cV_99 hV) hbU.1 hbU.2 hbL hL0).mp c_85
            refine e_iincw (w := 1) d_X7_asFar_88 rfl (by decide) (by decide) rfl ?_
            refine e_iincw (w := 1) d_X7_asFar_91 rfl (by decide) (by decide) rfl ?_
            refine e_gt d_X7_asFar_94 ?_
            refine e_drop1 6 ?_
            refine ih_35 (i + 1) (by omega) (by omega) _ _ ?_ ?_
            · rw [h_f, cnt, cnt, sm]
              first | (rw [if_pos hP, nI_1]; done) | (rw [if_neg (by simpa using hP)]; rfl)
            · exact nI_1 i
      exact hA_35 0 (by omega) _ _ (rfl) (rfl)
    · have eD := (nI_eq (b := 0) (by omega) (by decide)).mp c_14
      refine e_iconst (v := -1) d_X7_asFar_17 (by decide) ?_
      exact e_iret d_X7_asFar_18 rfl (rfl) (⟨_, rfl, by first | rw [farC, if_pos (Or.inl e0)] | rw [farC, if_pos (Or.inr eD)], ⟨_, H_am⟩, Fr.refl _ _⟩)

theorem s_X7_setLeast_b {h : AH} {leastb : Nat → Int32} {U : Int} {A Z L : Nat} (H_tb : Hs h 35 (oTa 35 (nI (65536 * A + Z)))) (H_bm : Hs h 38 (aI 16 leastb)) (h1 : -4851 ≤ U) (h2 : U ≤ 4851) (hA1 : 1 ≤ A) (hA : A ≤ 14) (hZ : Z ≤ 1386) (hL : L ≤ 49) (hL0 : 0 < L) : Sp M_X7_setLeast (0, 0) h [.ref 35, .int (Int32.ofInt U), .int (nI L)] (rV (fun h' => ∃ g : Nat → Int32, h' = up h 38 (aI 16 g) ∧ ∀ n, n < 16 → g n = ltb U A Z L n)) := by
  refine ⟨Nat.le_of_ble_eq_true rfl, ?_⟩
  show E _ _ _ 0 h [some (.ref 35), some (.int (Int32.ofInt U)), some (.int (nI L)), none, none, none, none, none] []
  refine e_aloadn d_X7_setLeast_0 rfl ?_
  refine e_get d_X7_setLeast_1 f_X7_29 H_tb rfl ?_
  refine e_bipush (v := 16) d_X7_setLeast_4 (by decide) ?_
  refine e_ishr d_X7_setLeast_6 ?_
  rw [hi16 (by omega) (by omega)]
  refine e_istoren d_X7_setLeast_7 (by decide) rfl ?_
  refine e_aloadn d_X7_setLeast_8 rfl ?_
  refine e_get d_X7_setLeast_9 f_X7_29 H_tb rfl ?_
  refine e_ldc d_X7_setLeast_12 v_X7_40 ?_
  refine e_iand d_X7_setLeast_14 ?_
  rw [lo16 (by omega) (by omega)]
  refine e_istore d_X7_setLeast_15 (by decide) rfl ?_
  refine e_aloadn d_X7_setLeast_17 rfl ?_
  refine e_get d_X7_setLeast_18 f_X7_18 H_tb rfl ?_
  refine e_ldc d_X7_setLeast_21 v_X7_39 ?_
  refine e_callSV d_X7_setLeast_23 l_X7_setLeast_59 (s_J7_fill_53178 H_bm (by decide)) rfl rfl (Nat.le_of_ble_eq_true rfl) ?_
  refine e_iconst (v := 1) d_X7_setLeast_26 (by decide) ?_
  refine e_istore d_X7_setLeast_27 (by decide) rfl ?_
  have hA_29 : ∀ i, i ≤ A → ∀ (u : Unit) (y : Int32) (g : Nat → Int32), (1 ≤ i) → (y = nI i) → (∀ n, n < 16 → g n = if n < i then ltb U A Z L n else 65536) → E M_X7_setLeast (0, 0) (rV (fun h' => ∃ g : Nat → Int32, h' = up h 38 (aI 16 g) ∧ ∀ n, n < 16 → g n = ltb U A Z L n)) 29 (up h 38 (aI 16 g)) [some (.ref 35), some (.int (Int32.ofInt U)), some (.int (nI L)), some (.int (nI A)), some (.int (nI Z)), some (.int y), none, none] [] := by
    refine loop_ind (n := A) ?_
    intro i hi_i ih_29 u y g h_u h_y h_g
    subst h_y
    refine e_iload d_X7_setLeast_29 rfl ?_
    refine e_iloadn d_X7_setLeast_31 rfl ?_
    refine e_icmp_ge d_X7_setLeast_32 (fun c => ?_) (fun c => ?_)
    · have c := i_le (by omega) (by omega) c
      obtain rfl : i = A := by omega
      exact e_vret d_X7_setLeast_96 rfl (⟨rfl, g, rfl, fun n hn => by
      rw [h_g n hn]
      split
      · rfl
      · rw [ltb, if_neg (by omega)]⟩)
    · have c := i_nle (by omega) (by omega) c
      refine e_iload d_X7_setLeast_35 rfl ?_
      refine e_aloadn d_X7_setLeast_37 rfl ?_
      refine e_get d_X7_setLeast_38 f_X7_18 (H_tb.n (by decide)) rfl ?_
      refine e_alenL (v := 16) d_X7_setLeast_41 H_bm.s rfl ?_
      refine e_icmp_ge d_X7_setLeast_42 (fun z => by first | exact absurd (fun z => absurd (i_le (a := 16) (by decide) (by omega) z) (by omega)) z | exact absurd z (fun z => absurd (i_le (a := 16) (by decide) (by omega) z) (by omega))) (fun _ => ?_)
      refine e_iloadn d_X7_setLeast_45 rfl ?_
      refine e_iload d_X7_setLeast_46 rfl ?_
      refine e_imul d_X7_setLeast_48 ?_
      refine e_iloadn d_X7_setLeast_49 rfl ?_
      refine e_iload d_X7_setLeast_50 rfl ?_
      refine e_isub d_X7_setLeast_52 ?_
      refine e_imul d_X7_setLeast_53 ?_
      refine e_iload d_X7_setLeast_54 rfl ?_
      refine e_iload d_X7_setLeast_56 rfl ?_
      refine e_imul d_X7_setLeast_58 ?_
      refine e_iloadn d_X7_setLeast_59 rfl ?_
      refine e_imul d_X7_setLeast_60 ?_
      refine e_iadd d_X7_setLeast_61 ?_
      refine e_istore d_X7_setLeast_62 (by decide) rfl ?_
      refine e_iloadn d_X7_setLeast_64 rfl ?_
      refine e_iloadn d_X7_setLeast_65 rfl ?_
      refine e_imul d_X7_setLeast_66 ?_
      refine e_istore d_X7_setLeast_67 (by decide) rfl ?_
      refine e_iload d_X7_setLeast_69 rfl ?_
      have hAL := Nat.mul_pos hA1 hL0
      have hAL2 := Nat.mul_le_mul hA hL
      refine e_if_le d_X7_setLeast_71 (fun z => by first | exact absurd (by rw [pk_mul]; exact fun z => nI_nle hAL (by omega) z) z | exact absurd z (by rw [pk_mul]; exact fun z => nI_nle hAL (by omega) z)) (fun _ => ?_)
      refine e_aloadn d_X7_setLeast_74 rfl ?_
      refine e_get d_X7_setLeast_75 f_X7_18 (H_tb.n (by decide)) rfl ?_
      refine e_iload d_X7_setLeast_78 rfl ?_
      refine e_iload d_X7_setLeast_80 rfl ?_
      refine e_ineg d_X7_setLeast_82 ?_
      refine e_iload d_X7_setLeast_83 rfl ?_
      refine e_callSI d_X7_setLeast_85 l_X7_setLeast_64 (s_J9_floorDiv_7cf53 (by rw [pk_mul]; exact nI_ne0 hAL (by omega))) rfl rfl (Nat.le_of_ble_eq_true rfl) ?_
      refine e_ineg d_X7_setLeast_88 ?_
      refine e_iastN (k := i) d_X7_setLeast_89 H_bm.s rfl (by omega) (by omega) ?_
      refine e_iincw (w := 1) d_X7_setLeast_90 rfl (by decide) (by decide) rfl ?_
      refine e_gt d_X7_setLeast_93 ?_
      refine e_drop1 6 ?_
      refine e_drop1 7 ?_
      rw [up_up]
      refine ih_29 (i + 1) (by omega) (by omega) () _ _ ?_ ?_ ?_
      · omega
      · exact nI_1 i
      · intro n hn
        by_cases e : n = i
        · rw [e, va_up_self, show (if i < i + 1 then ltb U A Z L i else 65536) = ltb U A Z L i from if_pos (by omega)]
          rw [nd_32 (by omega), pk_mul]
          exact ltb_32 h1 h2 hA hZ hL hL0 ⟨h_u, c⟩ rfl rfl
        · rw [va_up_ne _ _ e, h_g n hn]
          by_cases e2 : n < i
          · rw [if_pos e2, if_pos (by omega)]
          · rw [if_neg e2, if_neg (by omega)]
  exact hA_29 1 (by omega) () _ _ (Nat.le_refl 1) (rfl) (fun n hn => by simp only [fillTo, if_pos hn]; split <;> simp [ltb]; omega)
