/-! THE SYSTEM'S CELLS, by their places -/
abbrev oCh (cnt coins had : Int32) : AC := .inr (0, [.ref 2, .ref 3, .ref 4, .ref 5, .int cnt, .int coins, .int had])
abbrev oTh (cnt : Int32) : AC := .inr (9, [.ref 7, .ref 8, .ref 9, .ref 10, .ref 11, .int cnt])
abbrev oLk (now next : Nat) (cnt few ways : Int32) : AC := .inr (5, [.ref 13, .ref 14, .ref now, .ref next, .int cnt, .int few, .int ways])
abbrev oLd (cnt : Int32) : AC := .inr (4, [.ref 18, .ref 19, .int cnt])
abbrev oJu : AC := .inr (3, [.ref 25, .ref 26])
abbrev oDe (row : Nat) (cnt text : Int32) : AC := .inr (1, [.ref 28, .ref 29, .ref row, .int cnt, .int text])
abbrev oTa (t : Nat) (whole : Int32) : AC := .inr (7, [.ref (t + 1), .ref (t + 2), .ref (t + 3), .int whole])
abbrev oIm (ch co ha th te li st cost : Int32) : AC := .inr (2, [.ref 41, .int ch, .int co, .int ha, .int th, .int te, .int li, .int st, .int cost])
/-- Text number t has its cells from place 42 + 4 t on -/
abbrev oTx (t : Nat) (cl many near : Int32) : AC := .inr (8, [.ref (43 + 4 * t), .ref (44 + 4 * t), .ref (45 + 4 * t), .int cl, .int many, .int near])
abbrev oRe (top open_ br : Int32) (tape : Value) (len at_ start token state kind sAsk cmp : Int32) (text : Value) (fault place : Int32) : AC := .inr (6, [.ref 23, .int top, .int open_, .int br, tape, .int len, .int at_, .int start, .int token, .int state, .int kind, .int sAsk, .int cmp, text, .int fault, .int place])
abbrev oMC (tc tl lf lp cost : Int32) : AC := .inr (10, [.ref 1, .ref 6, .ref 12, .ref 17, .ref 20, .int tc, .ref 21, .int tl, .ref 22, .int lf, .int lp, .int cost, .ref 24, .ref 27, .ref 31, .ref 35, .ref 39, .ref 40])

theorem i_nle {a b : Nat} (ha : a < 2 ^ 31) (hb : b < 2 ^ 31) (h : ¬ nI a ≤ nI b) : b < a := Nat.lt_of_not_le (fun z => h ((nI_leI ha hb).mpr z))
theorem i_le {a b : Nat} (ha : a < 2 ^ 31) (hb : b < 2 ^ 31) (h : nI a ≤ nI b) : a ≤ b := (nI_leI ha hb).mp h
theorem i_nlt {a b : Nat} (ha : a < 2 ^ 31) (hb : b < 2 ^ 31) (h : ¬ nI a < nI b) : b ≤ a := Nat.le_of_not_lt (fun z => h ((nI_ltI ha hb).mpr z))
theorem i_lt {a b : Nat} (ha : a < 2 ^ 31) (hb : b < 2 ^ 31) (h : nI a < nI b) : a < b := (nI_ltI ha hb).mp h
theorem i_ne {a b : Nat} (h : ¬ nI a = nI b) : a ≠ b := fun z => h (by rw [z])
theorem i_eq {a b : Nat} (ha : a < 2 ^ 31) (hb : b < 2 ^ 31) (h : nI a = nI b) : a = b := (nI_eq ha hb).mp h

/-- the first i places hold v -/
def fillTo (v : Int32) (f : Nat → Int32) (i : Nat) : Nat → Int32 := fun j => if j < i then v else f j
theorem fillTo_succ {v : Int32} {f : Nat → Int32} {i : Nat} : va_up (fillTo v f i) i v = fillTo v f (i + 1) := by
  funext j
  simp only [va_up, fillTo]
  split <;> split <;> first | rfl | omega | (rw [if_neg (by omega)]) | (rw [if_pos (by omega)])

theorem s_J7_fill_53178 {h : AH} {a n : Nat} {f : Nat → Int32} {v : Int32} (H : Hs h a (aI n f)) (hn : n < 2 ^ 31) : Sp M_J7_fill_53178 (0, 0) h [.ref a, .int v] (pV (up h a (aI n (fillTo v f n)))) := by
  refine ⟨Nat.le_of_ble_eq_true rfl, ?_⟩
  show E _ _ _ 0 h [some (.ref a), some (.int v), none, none] []
  have hA : ∀ i, i ≤ n → ∀ (x : Int32) (g : Nat → Int32), x = nI i → g = fillTo v f i → E M_J7_fill_53178 (0, 0) (pV (up h a (aI n (fillTo v f n)))) 5 (up h a (aI n g)) [some (.ref a), some (.int v), some (.int x), some (.int (nI n))] [] := by
    refine loop_ind (n := n) ?_
    intro i hi ih x g hx hf
    refine e_iloadn d_J7_fill_53178_5 rfl ?_
    refine e_iloadn d_J7_fill_53178_6 rfl ?_
    subst hx
    refine e_icmp_ge d_J7_fill_53178_7 (fun c => ?_) (fun c => ?_)
    · have c := (nI_leI (by omega) (by omega)).mp c
      have e : i = n := by omega
      subst e
      exact e_vret d_J7_fill_53178_20 rfl (⟨rfl, by rw [hf]⟩)
    · have c := i_nle (by omega) (by omega) c
      refine e_aloadn d_J7_fill_53178_10 rfl ?_
      refine e_iloadn d_J7_fill_53178_11 rfl ?_
      refine e_iloadn d_J7_fill_53178_12 rfl ?_
      refine e_iast d_J7_fill_53178_13 H.s (vp_in_nI c hn) ?_
      refine e_iincw (w := 1) d_J7_fill_53178_14 rfl (by decide) (by decide) rfl ?_
      refine e_gt d_J7_fill_53178_17 ?_
      rw [up_up]
      refine ih (i + 1) (by omega) (by omega) _ _ ?_ ?_
      · exact nI_1 i
      · rw [nI_clamp (by omega), hf, fillTo_succ]
  refine e_iconst (v := 0) d_J7_fill_53178_0 (by decide) ?_
  refine e_istoren d_J7_fill_53178_1 (by decide) rfl ?_
  refine e_aloadn d_J7_fill_53178_2 rfl ?_
  refine e_alenI d_J7_fill_53178_3 H ?_
  refine e_istoren d_J7_fill_53178_4 (by decide) rfl ?_
  have := hA 0 (Nat.zero_le _) 0 f rfl (funext fun j => by simp [fillTo])
  rw [up_same H] at this
  exact this

theorem s_X0_has {h : AH} {cnt co ha x : Int32} (H0 : Hs h 1 (oCh cnt co ha)) : Sp M_X0_has (0, 0) h [.ref 1, .int x] (pI (if x < 0 then 0 else if cnt ≤ x then 0 else 1) h) := by
  refine ⟨Nat.le_of_ble_eq_true rfl, ?_⟩
  show E _ _ _ 0 h [some (.ref 1), some (.int x)] []
  refine e_iloadn d_X0_has_0 rfl ?_
  refine e_if_lt d_X0_has_1 (fun c1 => ?_) (fun c1 => ?_)
  · refine e_iconst (v := 0) d_X0_has_16 (by decide) ?_
    exact e_iret d_X0_has_17 rfl (rfl) (⟨by simp [*], rfl⟩)
  · refine e_iloadn d_X0_has_4 rfl ?_
    refine e_aloadn d_X0_has_5 rfl ?_
    refine e_get d_X0_has_6 f_X0_24 H0 rfl ?_
    refine e_icmp_ge d_X0_has_9 (fun c2 => ?_) (fun c2 => ?_)
    · refine e_iconst (v := 0) d_X0_has_16 (by decide) ?_
      exact e_iret d_X0_has_17 rfl (rfl) (⟨by simp [*], rfl⟩)
    · refine e_iconst (v := 1) d_X0_has_12 (by decide) ?_
      refine e_gt d_X0_has_13 ?_
      exact e_iret d_X0_has_17 rfl (rfl) (⟨by simp [*], rfl⟩)

theorem s_X0_all {h : AH} {cnt co ha : Int32} (H0 : Hs h 1 (oCh cnt co ha)) : Sp M_X0_all (0, 0) h [.ref 1] (pI ((1 : Int32) <<< (cnt &&& 31) - 1) h) := by
  refine ⟨Nat.le_of_ble_eq_true rfl, ?_⟩
  show E _ _ _ 0 h [some (.ref 1)] []
  refine e_iconst (v := 1) d_X0_all_0 (by decide) ?_
  refine e_aloadn d_X0_all_1 rfl ?_
  refine e_get d_X0_all_2 f_X0_24 H0 rfl ?_
  refine e_ishl d_X0_all_5 ?_
  refine e_iconst (v := 1) d_X0_all_6 (by decide) ?_
  refine e_isub d_X0_all_7 ?_
  exact e_iret d_X0_all_8 rfl (rfl) (⟨rfl, rfl⟩)
