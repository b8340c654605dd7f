/-! D, the class: Tally -/
/-- a part of a table: what S counts -/
def pS (o : Nat → Nat) (k S : Nat) : Nat := sm (fun c => if bt S c then o c else 0) k
theorem bt_hi : ∀ i, i < 7 → ∀ j, j < 2 ^ i → bt (2 ^ i + j) i = true := by decide +kernel
theorem bt_lo : ∀ i, i < 7 → ∀ j, j < 2 ^ i → ∀ c, c < i → bt (2 ^ i + j) c = bt j c := by decide +kernel
theorem bt_no : ∀ i, i < 7 → ∀ j, j < 2 ^ i → bt j i = false := by decide +kernel
theorem pS_hi {o : Nat → Nat} {i j : Nat} (hi : i < 7) (hj : j < 2 ^ i) : pS o (i + 1) (2 ^ i + j) = pS o i j + o i := by
  simp only [pS, sm, bt_hi i hi j hj, if_true]
  rw [sm_cong (fun c hc => by rw [bt_lo i hi j hj c hc])]
theorem pS_lo {o : Nat → Nat} {i j : Nat} (hi : i < 7) (hj : j < 2 ^ i) : pS o (i + 1) j = pS o i j := by
  simp only [pS, sm, bt_no i hi j hj]; simp
/-- counted by the class for a set A of CHILDREN; an ANSWER for D -/
def cF (ans : Nat → Int32) (T A c : Nat) : Bool := decide (ans (T * 14 + c) ≠ -1) && bt A c
def cV (ans less : Nat → Int32) (T c : Nat) : Nat := if less T = 0 then (ans (T * 14 + c)).toNatClampNeg else 99 - (ans (T * 14 + c)).toNatClampNeg
def own (ans less : Nat → Int32) (T A c : Nat) : Nat := if cF ans T A c then 65536 + cV ans less T c else 0
theorem or16 {v : Nat} (h : v ≤ 99) : (65536 : Int32) ||| nI v = nI (65536 + v) := by
  have : ∀ v, v ≤ 99 → (65536 : Int32) ||| nI v = nI (65536 + v) := by decide +kernel
  exact this v h
theorem sub99 {v : Nat} (h : v ≤ 99) : (99 : Int32) - nI v = nI (99 - v) := by
  have : ∀ v, v ≤ 99 → (99 : Int32) - nI v = nI (99 - v) := by decide +kernel
  exact this v h
theorem nI_m1 {v : Nat} (h : v ≤ 99) : ¬ nI v = -1 := by
  have : ∀ v, v ≤ 99 → ¬ nI v = -1 := by decide +kernel
  exact this v h
theorem clamp99 {v : Nat} (h : v ≤ 99) : (nI v).toNatClampNeg = v := nI_clamp (by omega)
theorem s_X9_told3 {h : AH} {nt : Int32} {ans : Nat → Int32} {x y : Int32} {T C : Nat} (H_th : Hs h 6 (oTh nt)) (H_an : Hs h 11 (aI 168 ans)) (hx : x = nI T) (hy : y = nI C) (hT : T < 12) (hC : C < 14) : Sp M_X9_told (0, 0) h [.ref 6, .int x, .int y] (pI (ans (T * 14 + C)) h) := by
  have e : x * 14 + y = nI (T * 14 + C) := by rw [hx, hy]; simp only [fa_lit, nI_add, pk_mul]
  have := s_X9_told (x := x) (y := y) H_th H_an
  rw [e, nI_clamp (by omega)] at this
  rwa [if_pos ⟨(nI_leI (a := 0) (by decide) (by omega)).mpr (by omega), (nI_ltI (b := 168) (by omega) (by decide)).mpr (by omega)⟩] at this

theorem s_X9_value {h : AH} {less ans : Nat → Int32} {x y : Int32} {T C n : Nat} (H_th : Hs h 6 (oTh (nI n))) (H_tl_ : Hs h 9 (aZ 12 less)) (H_an : Hs h 11 (aI 168 ans)) (hx : x = nI T) (hy : y = nI C) (hT : T < n) (hn : n ≤ 12) (hC : C < 14) (hV : ans (T * 14 + C) = -1 ∨ ∃ v, v ≤ 99 ∧ ans (T * 14 + C) = nI v) : Sp M_X9_value (0, 0) h [.ref 6, .int x, .int y] (pI (if ans (T * 14 + C) = -1 then -1 else nI (cV ans less T C)) h) := by
  refine ⟨Nat.le_of_ble_eq_true rfl, ?_⟩
  show E _ _ _ 0 h [some (.ref 6), some (.int x), some (.int y), none] []
  refine e_aloadn d_X9_value_0 rfl ?_
  refine e_iloadn d_X9_value_1 rfl ?_
  refine e_iloadn d_X9_value_2 rfl ?_
  refine e_callVI d_X9_value_3 l_X9_value_38 H_th rfl rfl (s_X9_told3 H_th H_an hx hy (by omega) hC) rfl rfl (Nat.le_of_ble_eq_true rfl) ?_
  refine e_istoren d_X9_value_6 (by decide) rfl ?_
  refine e_iloadn d_X9_value_7 rfl ?_
  refine e_iconst (v := -1) d_X9_value_8 (by decide) ?_
  refine e_icmp_eq d_X9_value_9 (fun c_9 => ?_) (fun c_9 => ?_)
  · refine e_iloadn d_X9_value_36 rfl ?_
    exact e_iret d_X9_value_37 rfl (rfl) (⟨by rcases hV with e | ⟨v, hv, e⟩ <;> simp_all [cV, clamp99, nI_m1, sub99], rfl⟩)
  · refine e_aloadn d_X9_value_12 rfl ?_
    refine e_iloadn d_X9_value_13 rfl ?_
    refine e_callVI d_X9_value_14 l_X9_value_42 H_th rfl rfl (s_X9_has H_th ) rfl rfl (Nat.le_of_ble_eq_true rfl) ?_
    refine e_if_eq d_X9_value_17 (fun z => by first | exact absurd (by rw [hx, bI_0]; exact fun z => z ⟨(nI_leI (a := 0) (by decide) (by omega)).mpr (Nat.zero_le _), (nI_ltI (by omega) (by omega)).mpr hT⟩) z | exact absurd z (by rw [hx, bI_0]; exact fun z => z ⟨(nI_leI (a := 0) (by decide) (by omega)).mpr (Nat.zero_le _), (nI_ltI (by omega) (by omega)).mpr hT⟩)) (fun _ => ?_)
    refine e_aloadn d_X9_value_20 rfl ?_
    refine e_get d_X9_value_21 f_X9_18 H_th rfl ?_
    refine e_iloadn d_X9_value_24 rfl ?_
    refine e_zaldN (k := T) d_X9_value_25 H_tl_ hx (by omega) (by omega) ?_
    refine e_if_eq d_X9_value_26 (fun c_26 => ?_) (fun c_26 => ?_)
    · refine e_iloadn d_X9_value_36 rfl ?_
      exact e_iret d_X9_value_37 rfl (rfl) (⟨by rcases hV with e | ⟨v, hv, e⟩ <;> simp_all [cV, clamp99, nI_m1, sub99], rfl⟩)
    · refine e_bipush (v := 99) d_X9_value_29 (by decide) ?_
      refine e_iloadn d_X9_value_31 rfl ?_
      refine e_isub d_X9_value_32 ?_
      refine e_gt d_X9_value_33 ?_
      exact e_iret d_X9_value_37 rfl (rfl) (⟨by rcases hV with e | ⟨v, hv, e⟩ <;> simp_all [cV, clamp99, nI_m1, sub99], rfl⟩)

theorem own_c {ans less : Nat → Int32} {T A c : Nat} {z w : Int32} (hA : A < 2 ^ 31) (hc : c < 14) (hV : ans (T * 14 + c) = -1 ∨ ∃ v, v ≤ 99 ∧ ans (T * 14 + c) = nI v)
    (h1 : (¬ (nI A >>> (nI c &&& 31)) &&& 1 = 1 ∧ z = -1) ∨ ((nI A >>> (nI c &&& 31)) &&& 1 = 1 ∧ z = if ans (T * 14 + c) = -1 then -1 else nI (cV ans less T c)))
    (h2 : (¬ z = -1 ∧ w = 65536 ||| z) ∨ (z = -1 ∧ w = 0)) : w = nI (own ans less T A c) := by
  have h99 : ans (T * 14 + c) ≠ -1 → cV ans less T c ≤ 99 := by
    intro hne
    rcases hV with e | ⟨v, hv, e⟩
    · exact absurd e hne
    · simp only [cV, e, clamp99 hv]; split <;> omega
  rcases h1 with ⟨b, rfl⟩ | ⟨b, rfl⟩
  · have hb := bit0 hA (by omega) b
    rcases h2 with ⟨n, -⟩ | ⟨-, rfl⟩
    · exact absurd rfl n
    · simp [own, cF, hb]; rfl
  · have hb := (bit1 hA (by omega)).mp b
    by_cases e : ans (T * 14 + c) = -1
    · rw [if_pos e] at h2
      rcases h2 with ⟨n, -⟩ | ⟨-, rfl⟩
      · exact absurd rfl n
      · simp [own, cF, e]; rfl
    · rw [if_neg e] at h2
      rcases h2 with ⟨-, rfl⟩ | ⟨n, -⟩
      · rw [or16 (h99 e)]
        simp [own, cF, e, hb]
      · exact absurd n (nI_m1 (h99 e))
theorem pw7 : ∀ i, i < 7 → (1 : Int32) <<< (nI i &&& 31) = nI (2 ^ i) := by decide +kernel
theorem pw_le : ∀ i, i < 7 → 2 ^ i + 2 ^ i ≤ 128 := by decide +kernel

theorem s_X7_fill {h : AH} {less ans : Nat → Int32} {T A f p n : Nat} {pt : Nat → Int32} (H_th : Hs h 6 (oTh (nI n))) (H_tl_ : Hs h 9 (aZ 12 less)) (H_an : Hs h 11 (aI 168 ans)) (H_pt : Hs h p (aI 128 pt)) (h_0 : pt 0 = 0) (hT : T < n) (hn : n ≤ 12) (hf : f + 7 ≤ 14) (hA : A < 2 ^ 31) (hp : 31 < p) (hV : ∀ c, c < 14 → ans (T * 14 + c) = -1 ∨ ∃ v, v ≤ 99 ∧ ans (T * 14 + c) = nI v) : Sp M_X7_fill (0, 0) h [.ref p, .ref 6, .int (nI T), .int (nI A), .int (nI f)] (rV (fun h' => ∃ g, h' = up h p (aI 128 g) ∧ ∀ S, S < 128 → g S = nI (pS (fun k => own ans less T A (f + k)) 7 S))) := by
  refine ⟨Nat.le_of_ble_eq_true rfl, ?_⟩
  show E _ _ _ 0 h [some (.ref p), some (.ref 6), some (.int (nI T)), some (.int (nI A)), some (.int (nI f)), none, none, none, none, none, none] []
  have hO : ∀ i, i ≤ 7 → ∀ (x : Int32) (g : Nat → Int32), x = nI i → (∀ S, S < 2 ^ i → g S = nI (pS (fun k => own ans less T A (f + k)) i S)) → E M_X7_fill (0, 0) (rV (fun h' => ∃ g, h' = up h p (aI 128 g) ∧ ∀ S, S < 128 → g S = nI (pS (fun k => own ans less T A (f + k)) 7 S))) 3 (up h p (aI 128 g)) [some (.ref p), some (.ref 6), some (.int (nI T)), some (.int (nI A)), some (.int (nI f)), some (.int x), none, none, none, none, none] [] := by
    refine loop_ind (n := 7) ?_
    intro i hi ih x g h_x h_g
    refine e_iload d_X7_fill_3 rfl ?_
    refine e_bipush (v := 7) d_X7_fill_5 (by decide) ?_
    subst h_x
    refine e_icmp_ge d_X7_fill_7 (fun c => ?_) (fun c => ?_)
    · have c := i_le (a := 7) (by decide) (by omega) c
      obtain rfl : i = 7 := by omega
      exact e_vret d_X7_fill_109 rfl (⟨rfl, g, rfl, h_g⟩)
    · have c := i_nle (a := 7) (by decide) (by omega) c
      have hpl := pw_le i c
      refine e_iload d_X7_fill_10 rfl ?_
      refine e_iload d_X7_fill_12 rfl ?_
      refine e_iadd d_X7_fill_14 ?_
      refine e_istore d_X7_fill_15 (by decide) rfl ?_
      refine e_iloadn d_X7_fill_17 rfl ?_
      refine e_iload d_X7_fill_18 rfl ?_
      refine e_ishr d_X7_fill_20 ?_
      refine e_iconst (v := 1) d_X7_fill_21 (by decide) ?_
      refine e_iand d_X7_fill_22 ?_
      refine e_iconst (v := 1) d_X7_fill_23 (by decide) ?_
      refine e_dia 38 (-1) (if ans (T * 14 + (f + i)) = -1 then -1 else nI (cV ans less T (f + i))) (fun kt kf => e_icmp_ne d_X7_fill_24 kt kf) (fun c_24 K_24 => ?_) (fun c_24 K_24 => ?_) (fun z_24 hz_24 => ?_)
      · refine e_iconst (v := -1) d_X7_fill_37 (by decide) ?_
        exact K_24
      · refine e_aloadn d_X7_fill_27 rfl ?_
        refine e_iloadn d_X7_fill_28 rfl ?_
        refine e_iload d_X7_fill_29 rfl ?_
        refine e_callVI d_X7_fill_31 l_X7_fill_33 (H_th.n (by omega)) rfl rfl (s_X9_value (T := T) (C := f + i) (H_th.n (by omega)) (H_tl_.n (by omega)) (H_an.n (by omega)) rfl (by simp only [nI_add]) hT hn (by omega) (hV _ (by omega))) rfl rfl (Nat.le_of_ble_eq_true rfl) ?_
        refine e_gt d_X7_fill_34 ?_
        exact K_24
      · refine e_istore d_X7_fill_38 (by decide) rfl ?_
        refine e_iload d_X7_fill_40 rfl ?_
        refine e_iconst (v := -1) d_X7_fill_42 (by decide) ?_
        refine e_dia 55 (65536 ||| z_24) (0) (fun kt kf => e_icmp_ne d_X7_fill_43 kt kf) (fun c_43 K_43 => ?_) (fun c_43 K_43 => ?_) (fun z_43 hz_43 => ?_)
        · refine e_ldc d_X7_fill_50 v_X7_39 ?_
          refine e_iload d_X7_fill_52 rfl ?_
          refine e_ior d_X7_fill_54 ?_
          exact K_43
        · refine e_iconst (v := 0) d_X7_fill_46 (by decide) ?_
          refine e_gt d_X7_fill_47 ?_
          exact K_43
        · obtain rfl := own_c (T := T) (A := A) (c := f + i) (less := less) hA (by omega) (hV _ (by omega)) (by simpa only [nI_add] using hz_24) hz_43
          refine e_istore d_X7_fill_55 (by decide) rfl ?_
          refine e_iconst (v := 1) d_X7_fill_57 (by decide) ?_
          refine e_iload d_X7_fill_58 rfl ?_
          refine e_ishl d_X7_fill_60 ?_
          rw [pw7 i c]
          refine e_istore d_X7_fill_61 (by decide) rfl ?_
          refine e_iconst (v := 0) d_X7_fill_63 (by decide) ?_
          refine e_istore d_X7_fill_64 (by decide) rfl ?_
          have hB : ∀ j, j ≤ 2 ^ i → ∀ (V6 V7 y : Int32) (g2 : Nat → Int32), y = nI j → (∀ S, S < 2 ^ i + j → g2 S = nI (pS (fun k => own ans less T A (f + k)) (i + 1) S)) → E M_X7_fill (0, 0) (rV (fun h' => ∃ g, h' = up h p (aI 128 g) ∧ ∀ S, S < 128 → g S = nI (pS (fun k => own ans less T A (f + k)) 7 S))) 66 (up h p (aI 128 g2)) [some (.ref p), some (.ref 6), some (.int (nI T)), some (.int (nI A)), some (.int (nI f)), some (.int (nI i)), some (.int V6), some (.int V7), some (.int (nI (own ans less T A (f + i)))), some (.int (nI (2 ^ i))), some (.int y)] [] := by
            refine loop_ind (n := 2 ^ i) ?_
            intro j hj jh V6 V7 y g2 h_y h_g2
            refine e_iload d_X7_fill_66 rfl ?_
            refine e_iload d_X7_fill_68 rfl ?_
            subst h_y
            refine e_icmp_ge d_X7_fill_70 (fun c0 => ?_) (fun c0 => ?_)
            · have hc0 := i_le (by omega) (by omega) c0
              obtain rfl : j = 2 ^ i := by omega
              refine e_iincw (w := 1) d_X7_fill_103 rfl (by decide) (by decide) rfl ?_
              refine e_gt d_X7_fill_106 ?_
              refine e_drop1 6 (e_drop1 7 (e_drop1 8 (e_drop1 9 (e_drop1 10 ?_))))
              refine ih (i + 1) (by omega) (by omega) _ _ ?_ ?_
              · exact nI_1 i
              · intro S hS
                rw [Nat.pow_succ] at hS
                exact h_g2 S (by omega)
            · have hc := i_nle (by omega) (by omega) c0
              refine e_iload d_X7_fill_73 rfl ?_
              refine e_iload d_X7_fill_75 rfl ?_
              refine e_iadd d_X7_fill_77 ?_
              refine e_aloadn d_X7_fill_78 rfl ?_
              refine e_alenI d_X7_fill_79 H_pt.s ?_
              refine e_icmp_ge d_X7_fill_80 (fun z => by first | exact absurd (by rw [nI_add]; exact fun z => absurd (i_le (a := 128) (by decide) (by omega) z) (by omega)) z | exact absurd z (by rw [nI_add]; exact fun z => absurd (i_le (a := 128) (by decide) (by omega) z) (by omega))) (fun _ => ?_)
              refine e_aloadn d_X7_fill_83 rfl ?_
              refine e_iload d_X7_fill_84 rfl ?_
              refine e_iload d_X7_fill_86 rfl ?_
              refine e_iadd d_X7_fill_88 ?_
              refine e_aloadn d_X7_fill_89 rfl ?_
              refine e_iload d_X7_fill_90 rfl ?_
              refine e_ialdN (k := j) d_X7_fill_92 H_pt.s rfl (by omega) (by omega) ?_
              refine e_iload d_X7_fill_93 rfl ?_
              refine e_iadd d_X7_fill_95 ?_
              refine e_iastN (k := 2 ^ i + j) d_X7_fill_96 H_pt.s (by simp only [nI_add]) (by omega) (by omega) ?_
              refine e_iincw (w := 1) d_X7_fill_97 rfl (by decide) (by decide) rfl ?_
              refine e_gt d_X7_fill_100 ?_
              rw [up_up]
              refine jh (j + 1) (by omega) (by omega) V6 V7 _ _ ?_ ?_
              · exact nI_1 j
              · intro S hS
                by_cases e : S = 2 ^ i + j
                · subst e
                  rw [va_up_self, h_g2 j (by omega), nI_add, pS_hi c hc, pS_lo c hc]
                · rw [va_up_ne _ _ e]
                  exact h_g2 S (by omega)
          exact hB 0 (Nat.zero_le _) _ _ _ g rfl (fun S hS => by rw [h_g S (by omega), pS_lo c (by omega)])
  refine e_iconst (v := 0) d_X7_fill_0 (by decide) ?_
  refine e_istore d_X7_fill_1 (by decide) rfl ?_
  have e0 : up h p (aI 128 pt) = h := up_same H_pt
  have hC := hO 0 (by omega) 0 pt rfl (fun S hS => by rw [show S = 0 by omega, h_0]; rfl)
  rw [e0] at hC
  exact hC
