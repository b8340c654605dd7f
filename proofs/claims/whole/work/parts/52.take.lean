/-! THE READER: the steps' lists -/
theorem stk_all {r : Nat} : ∀ {a b : List Nat}, (∀ x, x ∈ a → r ≤ rkc x) → stk r (a ++ b) = a ++ stk r b ∧ sdr r (a ++ b) = sdr r b
  | [], b, _ => ⟨rfl, rfl⟩
  | x :: a, b, h => by
    obtain ⟨h1, h2⟩ := stk_all (r := r) (a := a) (b := b) (fun y hy => h y (List.mem_cons_of_mem _ hy))
    have := h x List.mem_cons_self
    simp only [stk, sdr, List.cons_append, List.takeWhile_cons, List.dropWhile_cons] at h1 h2 ⊢
    rw [decide_eq_true this]
    simp only [if_true]
    exact ⟨by rw [h1], h2⟩
theorem stk_mid {r : Nat} : ∀ {w b : List Nat}, (∀ x, b.head? = some x → rkc x < r) → stk r (w ++ b) = stk r w ∧ sdr r (w ++ b) = sdr r w ++ b
  | [], [], _ => ⟨rfl, rfl⟩
  | [], x :: b, h => by
    have := h x rfl
    simp only [stk, sdr, List.nil_append, List.takeWhile_cons, List.dropWhile_cons, List.takeWhile_nil, List.dropWhile_nil]
    rw [decide_eq_false (by omega)]
    exact ⟨rfl, rfl⟩
  | x :: w, b, h => by
    obtain ⟨h1, h2⟩ := stk_mid (r := r) (w := w) (b := b) h
    simp only [stk, sdr, List.cons_append, List.takeWhile_cons, List.dropWhile_cons] at h1 h2 ⊢
    by_cases e : r ≤ rkc x
    · rw [decide_eq_true e]; simp only [if_true]; exact ⟨by rw [h1], h2⟩
    · rw [decide_eq_false e]; exact ⟨rfl, rfl⟩
theorem rep_rk {n r x : Nat} (hr : r ≤ 7) (h : x ∈ List.replicate n 31) : r ≤ rkc x := by
  rw [List.eq_of_mem_replicate h]
  exact Nat.le_trans hr (by decide)
theorem rep_rk11 {n r x : Nat} (hr : r ≤ 3) (h : x ∈ List.replicate n 11) : r ≤ rkc x := by
  rw [List.eq_of_mem_replicate h]
  exact Nat.le_trans hr (by decide)
theorem rkc_S : ∀ x, x < 31 → 27 ≤ x → 5 ≤ rkc x ∧ rkc x ≤ 6 := by decide +kernel
theorem rkc_C : ∀ x, x < 27 → 21 ≤ x → rkc x = 4 := by decide +kernel
theorem cnO_rep : ∀ n, cnO (List.replicate n 31) = n
  | 0 => rfl
  | n + 1 => by simp only [List.replicate_succ, cnO, cnO_rep n]; simp; omega
theorem cnO_rep11 : ∀ n, cnO (List.replicate n 11) = n
  | 0 => rfl
  | n + 1 => by simp only [List.replicate_succ, cnO, cnO_rep11 n]; simp; omega
theorem cnO_no : ∀ {w : List Nat}, (∀ x, x ∈ w → x ≠ 11 ∧ x ≠ 31) → cnO w = 0
  | [], _ => rfl
  | x :: w, h => by
    have := h x List.mem_cons_self
    simp only [cnO]
    rw [if_neg (by omega), cnO_no (fun y hy => h y (List.mem_cons_of_mem _ hy))]
theorem flE {r : LV} (h : shE r) : (∀ x, (flat r).head? = some x → rkc x ≤ 3) ∧ (∀ x, x ∈ flat r → x < 100 ∧ 1 ≤ rkc x) ∧ cnO (flat r) = nO r := by
  obtain ⟨e, e1, e2, e3, e4, e5, -⟩ := unt_ok h
  have hm : ∀ x, x ∈ flat r → x = 11 ∨ x = 12 ∨ x = 13 := fun x hx => by
    rw [e5] at hx
    rcases List.mem_append.mp hx with q | q
    · exact Or.inl (List.eq_of_mem_replicate q)
    · exact Or.inr ((vE_in e2).1 x q)
  refine ⟨fun x hx => ?_, fun x hx => ?_, ?_⟩
  · rcases hm x (List.mem_of_mem_head? hx) with rfl | rfl | rfl <;> decide
  · rcases hm x hx with rfl | rfl | rfl <;> decide
  · rw [e5, cnO_app, cnO_rep11, cnO_no (fun x hx => by have := (vE_in e2).1 x hx; omega), e4]; rfl
theorem flS {k : Nat} {G : LV} (h : shS k G) : (∀ x, x ∈ flat G → x < 100 ∧ 1 ≤ rkc x) ∧ cnO (flat G) = nO G ∧ nP G = 0 := by
  match G, h with
  | (f, w) :: r, h =>
    have hw := (vS_in h.1).1
    have hwr : ∀ x, x ∈ w → x < 100 ∧ 1 ≤ rkc x := fun x hx => by have := hw x hx; have := rkc_S x (by omega) (by omega); omega
    have hwc : cnO w = 0 := cnO_no (fun x hx => by have := hw x hx; omega)
    rcases h.2 with ⟨-, rfl, rfl⟩ | ⟨-, hf, hr⟩
    · refine ⟨fun x hx => hwr x (by simpa [flat, opn] using hx), ?_, rfl⟩
      simp [flat, opn, nO, hwc]
    · obtain ⟨-, h2, h3⟩ := flE hr
      obtain ⟨e, e1, e2, e3, e4, e5, e6, -⟩ := unt_ok hr
      refine ⟨fun x hx => ?_, ?_, ?_⟩
      · simp only [flat] at hx
        rcases List.mem_append.mp hx with q | q
        · exact hwr x q
        · rcases List.mem_append.mp q with q | q
          · rcases hf with rfl | hf
            · simp [opn] at q
            · rw [opn_cmp hf.1] at q
              have := List.mem_singleton.mp q
              subst this
              have := rkc_C x (by omega) hf.1
              omega
          · exact h2 x q
      · simp only [flat, cnO_app, hwc, h3, nO]
        rw [if_neg (by omega)]
        rcases hf with rfl | hf
        · simp [opn, cnO]
        · rw [opn_cmp hf.1]; simp only [cnO]; rw [if_neg (by omega)]; omega
      · simp only [nP]; rw [if_neg (by omega), e6]
theorem flI {k : Nat} : ∀ {G : LV}, shI k G → (∀ x, x ∈ flat G → x < 100) ∧ cnO (flat G) ≤ nO G
  | [], h => h.elim
  | (f, w) :: r, h => by
    rcases h with ⟨rfl, hw, hr⟩ | ⟨rfl, rfl, hr⟩ | hs
    · obtain ⟨h1, h2⟩ := flI hr
      have hwm := (vS_in hw).1
      have hwc : cnO w = 0 := cnO_no (fun x hx => by have := hwm x hx; omega)
      refine ⟨fun x hx => ?_, ?_⟩
      · simp only [flat, opn, if_true] at hx
        rcases List.mem_append.mp hx with q | q
        · have := hwm x q; omega
        · rcases List.mem_cons.mp q with rfl | q
          · decide
          · exact h1 x q
      · simp only [flat, cnO_app, hwc, opn, if_true, nO]; simp [cnO]; omega
    · obtain ⟨h1, h2⟩ := flI hr
      refine ⟨fun x hx => ?_, ?_⟩
      · have hx : x = 31 ∨ x ∈ flat r := by simpa [flat, opn] using hx
        rcases hx with rfl | q
        · decide
        · exact h1 x q
      · simp [flat, opn, nO, cnO]; omega
    · obtain ⟨h1, h2, -⟩ := flS hs
      exact ⟨fun x hx => (h1 x hx).1, by omega⟩
/-- what the class's reader has in an operator's state, for each way the top may be -/
theorem opr_bin {k f t n : Nat} {w : List Nat} {r : LV} (hI : shI k ((f, w) :: r)) (hf : f ≠ 7) (h1 : 27 ≤ t) (h2 : t ≤ 30) : stk (rkc t) (List.replicate n 31 ++ flat ((f, w) :: r)) = List.replicate n 31 ++ stk (rkc t) w ∧ sdr (rkc t) (List.replicate n 31 ++ flat ((f, w) :: r)) = sdr (rkc t) w ++ (opn f ++ flat r) ∧ cnO (stk (rkc t) w) = 0 := by
  have hr := rkc_S t (by omega) h1
  have hvw : vS w := by
    rcases hI with ⟨-, q, -⟩ | ⟨q, -⟩ | q
    · exact q
    · exact absurd q hf
    · exact q.1
  have hhd : ∀ x, (opn f ++ flat r).head? = some x → rkc x < rkc t := fun x hx => by
    rcases hI with ⟨rfl, -, -⟩ | ⟨q, -⟩ | q
    · simp [opn] at hx; subst hx; exact Nat.lt_of_lt_of_le (by decide) hr.1
    · exact absurd q hf
    · rcases q.2 with ⟨-, rfl, rfl⟩ | ⟨-, hf, hE⟩
      · simp [opn, flat] at hx
      · rcases hf with rfl | hf
        · have := (flE hE).1 x (by simpa [opn] using hx); omega
        · rw [opn_cmp hf.1] at hx
          simp at hx; subst hx
          have := rkc_C f (by omega) hf.1
          omega
  obtain ⟨a1, a2⟩ := stk_all (r := rkc t) (a := List.replicate n 31) (b := flat ((f, w) :: r)) (fun x hx => rep_rk (by omega) hx)
  obtain ⟨b1, b2⟩ := stk_mid (r := rkc t) (w := w) (b := opn f ++ flat r) hhd
  refine ⟨?_, ?_, cnO_no (fun x hx => by have := (vS_in hvw).1 x (stk_mem hx); omega)⟩
  · rw [a1]; simp only [flat]; rw [b1]
  · rw [a2]; simp only [flat]; rw [b2]
theorem opr_cls {k n : Nat} {w : List Nat} {r : LV} (hw : vS w) : stk 1 (List.replicate n 31 ++ flat ((6, w) :: r)) = List.replicate n 31 ++ w ∧ sdr 1 (List.replicate n 31 ++ flat ((6, w) :: r)) = 32 :: flat r ∧ cnO w = 0 := by
  have hwm := (vS_in hw).1
  obtain ⟨a1, a2⟩ := stk_all (r := 1) (a := List.replicate n 31) (b := flat ((6, w) :: r)) (fun x hx => rep_rk (by omega) hx)
  obtain ⟨b1, b2⟩ := stk_app (r := 1) (a := w) (b := 32 :: flat r) (fun x hx => by have := hwm x hx; have := rkc_S x (by omega) (by omega); omega) (fun x hx => by simp at hx; subst hx; decide)
  refine ⟨?_, ?_, cnO_no (fun x hx => by have := hwm x hx; omega)⟩
  · rw [a1]; simp only [flat, opn, if_true]; rw [show w ++ ([32] ++ flat r) = w ++ 32 :: flat r from rfl, b1]
  · rw [a2]; simp only [flat, opn, if_true]; rw [show w ++ ([32] ++ flat r) = w ++ 32 :: flat r from rfl, b2]
theorem opr_cmp {t n : Nat} {w : List Nat} {r : LV} (hw : vS w) (hr : shE r) (h1 : 21 ≤ t) (h2 : t ≤ 26) : stk (rkc t) (List.replicate n 31 ++ flat ((4, w) :: r)) = List.replicate n 31 ++ w ∧ sdr (rkc t) (List.replicate n 31 ++ flat ((4, w) :: r)) = flat r ∧ cnO w = 0 := by
  have hwm := (vS_in hw).1
  rw [rkc_C t (by omega) h1]
  obtain ⟨a1, a2⟩ := stk_all (r := 4) (a := List.replicate n 31) (b := flat ((4, w) :: r)) (fun x hx => rep_rk (by omega) hx)
  obtain ⟨b1, b2⟩ := stk_app (r := 4) (a := w) (b := flat r) (fun x hx => by have := hwm x hx; have := rkc_S x (by omega) (by omega); omega) (fun x hx => by have := (flE hr).1 x hx; omega)
  refine ⟨?_, ?_, cnO_no (fun x hx => by have := hwm x hx; omega)⟩
  · rw [a1, show flat ((4, w) :: r) = w ++ flat r from rfl, b1]
  · rw [a2, show flat ((4, w) :: r) = w ++ flat r from rfl, b2]
theorem opr_and {t f n : Nat} {w e : List Nat} {r : LV} (hw : vS w) (hf : 21 ≤ f ∧ f ≤ 26) (hfl : flat r = List.replicate (nts r) 11 ++ e) (ht : t = 12 ∨ t = 13) : stk (rkc t) (List.replicate n 31 ++ flat ((f, w) :: r)) = List.replicate n 31 ++ (w ++ ([f] ++ (List.replicate (nts r) 11 ++ stk (rkc t) e))) ∧ sdr (rkc t) (List.replicate n 31 ++ flat ((f, w) :: r)) = sdr (rkc t) e := by
  have hwm := (vS_in hw).1
  have hr2 : rkc t ≤ 2 := by rcases ht with rfl | rfl <;> decide
  obtain ⟨a1, a2⟩ := stk_all (r := rkc t) (a := List.replicate n 31) (b := flat ((f, w) :: r)) (fun x hx => rep_rk (by omega) hx)
  obtain ⟨b1, b2⟩ := stk_all (r := rkc t) (a := w) (b := [f] ++ flat r) (fun x hx => by have := hwm x hx; have := rkc_S x (by omega) (by omega); omega)
  obtain ⟨c1, c2⟩ := stk_all (r := rkc t) (a := [f]) (b := flat r) (fun x hx => by have := List.mem_singleton.mp hx; subst this; have := rkc_C x (by omega) hf.1; omega)
  obtain ⟨d1, d2⟩ := stk_all (r := rkc t) (a := List.replicate (nts r) 11) (b := e) (fun x hx => rep_rk11 (by omega) hx)
  have hfe : flat ((f, w) :: r) = w ++ ([f] ++ flat r) := by simp only [flat]; rw [opn_cmp hf.1]
  rw [a1, a2, hfe, b1, b2, c1, c2, hfl, d1, d2]
  exact ⟨rfl, rfl⟩
theorem opr_stop {k n : Nat} {G : LV} (h : shS k G) : stk 1 (List.replicate n 31 ++ flat G) = List.replicate n 31 ++ flat G ∧ sdr 1 (List.replicate n 31 ++ flat G) = [] := by
  have hs := (flS h).1
  obtain ⟨a1, a2⟩ := stk_all (r := 1) (a := List.replicate n 31) (b := flat G) (fun x hx => rep_rk (by omega) hx)
  obtain ⟨b1, b2⟩ := stk_app (r := 1) (a := flat G) (b := []) (fun x hx => (hs x hx).2) (fun x hx => by simp at hx)
  rw [List.append_nil] at b1 b2
  rw [a1, a2, b1, b2]
  exact ⟨rfl, rfl⟩
