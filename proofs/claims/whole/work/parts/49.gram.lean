/-! THE GRAMMAR: what a token does to what is open -/
def rkc (t : Nat) : Nat := if t = 13 then 1 else if t = 12 then 2 else if t = 11 then 3 else if 21 ≤ t ∧ t ≤ 26 then 4 else if t = 27 ∨ t = 28 then 5 else if t = 29 ∨ t = 30 then 6 else if t = 31 then 7 else 0
def stk (r : Nat) (w : List Nat) : List Nat := w.takeWhile (fun x => decide (r ≤ rkc x))
def sdr (r : Nat) (w : List Nat) : List Nat := w.dropWhile (fun x => decide (r ≤ rkc x))
theorem stk_sdr (r : Nat) (w : List Nat) : stk r w ++ sdr r w = w := List.takeWhile_append_dropWhile
/-- all of a wait as close as r, and what is behind them does not -/
theorem stk_app {r : Nat} : ∀ {a b : List Nat}, (∀ x, x ∈ a → r ≤ rkc x) → (∀ x, b.head? = some x → rkc x < r) → stk r (a ++ b) = a ∧ sdr r (a ++ b) = b
  | [], [], _, _ => ⟨rfl, rfl⟩
  | [], x :: b, _, hb => by
    have := hb x rfl
    simp only [stk, sdr, List.nil_append, List.takeWhile_cons, List.dropWhile_cons]
    rw [show decide (r ≤ rkc x) = false from decide_eq_false (by omega)]
    exact ⟨rfl, rfl⟩
  | x :: a, b, ha, hb => by
    obtain ⟨h1, h2⟩ := stk_app (a := a) (b := b) (fun y hy => ha y (List.mem_cons_of_mem _ hy)) hb
    have := ha x List.mem_cons_self
    simp only [stk, sdr, List.cons_append, List.takeWhile_cons, List.dropWhile_cons] at h1 h2 ⊢
    rw [show decide (r ≤ rkc x) = true from decide_eq_true this]
    simp only [if_true]
    exact ⟨by rw [h1], h2⟩
abbrev LV := List (Nat × List Nat)
abbrev PS := Nat × LV × Nat × (Nat → Nat) × (Nat → List Nat) × Int32 × Int32
/-- what an open one waits as: 6 a bracket, 7 a minus, 3 a NOT, 21 to 26 the right side of an ASK; 1 a VALUE, 2 ASKS, 4 the left side -/
def opn (f : Nat) : List Nat := if f = 6 then [32] else if f = 7 then [31] else if f = 3 then [11] else if 21 ≤ f then [f] else []
def flat : LV → List Nat
  | [] => []
  | (f, w) :: r => w ++ (opn f ++ flat r)
def nP : LV → Nat
  | [] => 0
  | (f, _) :: r => (if f = 6 then 1 else 0) + nP r
def nO : LV → Nat
  | [] => 0
  | (f, _) :: r => (if f = 6 ∨ f = 7 ∨ f = 3 then 1 else 0) + nO r
def cmB : LV → Bool
  | [] => false
  | (f, _) :: r => decide (21 ≤ f) || cmB r
/-- the minus signs, the NOTs at the top, and what is below them -/
def neg : LV → Nat
  | [] => 0
  | (f, _) :: r => if f = 7 then neg r + 1 else 0
def unn : LV → LV
  | [] => []
  | (f, w) :: r => if f = 7 then unn r else (f, w) :: r
def nts : LV → Nat
  | [] => 0
  | (f, _) :: r => if f = 3 then nts r + 1 else 0
def unt : LV → LV
  | [] => []
  | (f, w) :: r => if f = 3 then unt r else (f, w) :: r
def cdA (cd : Nat → List Nat) (nc : Nat) (l : List Nat) : Nat → List Nat := fun j => if j + 1 = nc then cd j ++ l else cd j
theorem cdA_nil {cd : Nat → List Nat} {nc : Nat} : cdA cd nc [] = cd := funext fun j => by simp only [cdA]; split <;> simp
theorem cdA_app {cd : Nat → List Nat} {nc : Nat} {l m : List Nat} : cdA (cdA cd nc l) nc m = cdA cd nc (l ++ m) := funext fun j => by
  simp only [cdA]; split
  · rw [List.append_assoc]
  · rfl
theorem cdA_at {cd : Nat → List Nat} {nc : Nat} {l : List Nat} (h : 0 < nc) : cdA cd nc l (nc - 1) = cd (nc - 1) ++ l := by simp only [cdA]; rw [if_pos (by omega)]
theorem cdA_ne {cd : Nat → List Nat} {nc j : Nat} {l : List Nat} (h : j + 1 ≠ nc) : cdA cd nc l j = cd j := by simp only [cdA]; rw [if_neg h]
def okN (k t : Nat) : Bool := if k = 19 then decide (t < 4) else if k = 17 ∨ k = 18 then decide (t < 8) else decide (t < 4 ∨ 8 ≤ t)
def limN (k : Nat) : Nat := if k = 14 then 14 else 9999
/-- behind an operand -/
def gOne (t : Nat) (G : LV) (nc : Nat) (kd : Nat → Nat) (cd : Nat → List Nat) (my ne : Int32) : PS := (2, unn G, nc, kd, cdA cd nc (t :: List.replicate (neg G) 31), my, ne)
def gClause (t nc : Nat) (kd : Nat → Nat) (cd : Nat → List Nat) (my ne : Int32) : Nat × PS :=
  if t < 14 ∨ 20 < t then (1, (4, [], nc, kd, cd, my, ne)) else if t ≤ 16 ∧ hasK nc kd t = true then (4, (4, [], nc, kd, cd, my, ne)) else if 10 ≤ nc then (6, (4, [], nc, kd, cd, my, ne))
  else (0, (if t ≤ 15 then 5 else if t = 16 then 1 else 0, if t ≤ 15 then [] else if t = 16 then [(1, [])] else [(2, [])], nc + 1, va_up kd nc t, va_up cd nc [], my, ne))
def gNumber (t nc : Nat) (kd : Nat → Nat) (cd : Nat → List Nat) (my ne : Int32) : Nat × PS :=
  if t < 100 then (1, (5, [], nc, kd, cd, my, ne)) else if limN (kd (nc - 1)) < t - 100 then (2, (5, [], nc, kd, cd, my, ne))
  else (0, (6, [], nc, kd, cd, if kd (nc - 1) = 14 then nI (t - 100) else my, if kd (nc - 1) = 15 then nI (t - 100) else ne))
def gStop (t nc : Nat) (kd : Nat → Nat) (cd : Nat → List Nat) (my ne : Int32) : Nat × PS := (if t = 34 then 0 else 1, (4, [], nc, kd, cd, my, ne))
def lft (ph : Nat) (G : LV) : LV := if ph = 0 then (4, []) :: G else G
def gOperand (t ph : Nat) (G : LV) (nc : Nat) (kd : Nat → Nat) (cd : Nat → List Nat) (my ne : Int32) : Nat × PS :=
  if 100 ≤ t then (if 9999 < t - 100 then 2 else 0, gOne t (lft ph G) nc kd cd my ne)
  else if t < 11 then (if okN (kd (nc - 1)) t = true then 0 else 5, gOne t (lft ph G) nc kd cd my ne)
  else if t = 32 then (if 8 ≤ nO G then 3 else 0, (1, (6, []) :: lft ph G, nc, kd, cd, my, ne))
  else if t = 28 then (if 8 ≤ nO G then 3 else 0, (1, (7, []) :: lft ph G, nc, kd, cd, my, ne))
  else if t = 11 ∧ ph = 0 then (if 8 ≤ nO G then 3 else 0, (0, (3, []) :: G, nc, kd, cd, my, ne))
  else (1, (ph, G, nc, kd, cd, my, ne))
def gAsk (t f : Nat) (w : List Nat) (r : LV) (nc : Nat) (kd : Nat → Nat) (cd : Nat → List Nat) (my ne : Int32) : Nat × PS :=
  match unt r with
  | (_, e) :: _ => if t = 34 then (0, (4, [], nc, kd, cdA cd nc (w ++ ([f] ++ (List.replicate (nts r) 11 ++ e))), my, ne))
    else if t = 12 ∨ t = 13 then (0, (0, [(2, t :: sdr (rkc t) e)], nc, kd, cdA cd nc (w ++ ([f] ++ (List.replicate (nts r) 11 ++ stk (rkc t) e))), my, ne)) else (1, (2, [], nc, kd, cd, my, ne))
  | [] => (1, (2, [], nc, kd, cd, my, ne))
def gOperator (t : Nat) (G : LV) (nc : Nat) (kd : Nat → Nat) (cd : Nat → List Nat) (my ne : Int32) : Nat × PS :=
  match G with
  | [] => (1, (2, [], nc, kd, cd, my, ne))
  | (f, w) :: r =>
    if 27 ≤ t ∧ t ≤ 30 then (0, (1, (f, t :: sdr (rkc t) w) :: r, nc, kd, cdA cd nc (stk (rkc t) w), my, ne))
    else if f = 6 then (if t = 33 then 0 else 1, (2, unn r, nc, kd, cdA cd nc (w ++ List.replicate (neg r) 31), my, ne))
    else if f = 4 then (if 21 ≤ t ∧ t ≤ 26 then 0 else 1, (1, (t, []) :: r, nc, kd, cdA cd nc w, my, ne))
    else if f = 1 then (if t = 34 then 0 else 1, (4, [], nc, kd, cdA cd nc w, my, ne))
    else gAsk t f w r nc kd cd my ne
def gstep (t : Nat) : PS → Nat × PS
  | (ph, G, nc, kd, cd, my, ne) => if ph = 4 then gClause t nc kd cd my ne else if ph = 5 then gNumber t nc kd cd my ne else if ph = 6 then gStop t nc kd cd my ne else if ph = 2 then gOperator t G nc kd cd my ne else gOperand t ph G nc kd cd my ne
/-- a tape from a token's place on: fault, its place, what was read -/
def qrF (b : Nat → Nat) (L : Nat) : Nat → Nat → PS → Nat × Nat × PS
  | 0, s, S => (1, s, S)
  | f + 1, s, S => if (tok b L s).1 = 35 ∧ S.1 = 4 then (0, 0, S) else if (gstep (tok b L s).1 S).1 ≠ 0 then ((gstep (tok b L s).1 S).1, s, S) else qrF b L f (run isB b L (tok b L s).2) (gstep (tok b L s).1 S).2
def qr (b : Nat → Nat) (L s : Nat) (S : PS) : Nat × Nat × PS := qrF b L (L + 1 - s) s S
theorem run_ge {P : Nat → Bool} {b : Nat → Nat} {L a : Nat} (h : a ≤ L) : a ≤ run P b L a ∧ run P b L a ≤ L := by
  have := run_Run (P := P) (b := b) h
  exact ⟨this.1, this.2.1⟩
theorem run_gt {P : Nat → Bool} {b : Nat → Nat} {L a : Nat} (h : a < L) (hP : P (b a) = true) : a < run P b L a := by
  obtain ⟨h1, h2, h3, h4⟩ := run_Run (P := P) (b := b) (Nat.le_of_lt h)
  refine Nat.lt_of_le_of_ne h1 (fun e => ?_)
  rw [← e] at h4
  rw [h4 h] at hP; cases hP
theorem tok_nx {b : Nat → Nat} {L s : Nat} (h : s ≤ L) (ht : (tok b L s).1 ≠ 35) : s < L ∧ s < (tok b L s).2 ∧ (tok b L s).2 ≤ L := by
  unfold tok at ht ⊢
  by_cases h1 : L ≤ s
  · rw [if_pos h1] at ht; exact absurd rfl ht
  · rw [if_neg h1] at ht ⊢
    refine ⟨by omega, ?_⟩
    by_cases h2 : isL (b s) = true
    · rw [if_pos h2]
      exact ⟨run_gt (by omega) h2, (run_ge h).2⟩
    · rw [if_neg h2]
      by_cases h3 : isD (b s) = true
      · rw [if_pos h3]
        exact ⟨run_gt (by omega) h3, (run_ge h).2⟩
      · rw [if_neg h3]
        split
        · rename_i h4
          exact ⟨by simp, by have := h4.2.1; simp; omega⟩
        · exact ⟨by simp, by simp; omega⟩
theorem tok_end2 {b : Nat → Nat} {L s : Nat} (h : (tok b L s).1 = 35) (hb : ∀ k, k < L → b k < 256) : L ≤ s := by
  refine Decidable.byContradiction (fun h1 => ?_)
  unfold tok at h
  rw [if_neg h1] at h
  split at h
  · have : ∀ n, n ≤ 21 → wcU (wdS b s (run isL b L s)) n ≠ 35 := by
      intro n
      induction n with
      | zero => intro _; simp [wcU]
      | succ n ih =>
        intro hn
        by_cases e : wwd n = wdS b s (run isL b L s)
        · rw [wcU_T (by omega) e]; omega
        · rw [wcU_F e]; exact ih (by omega)
    exact this 21 (Nat.le_refl _) h
  · split at h
    · simp only [] at h; omega
    · have h9 : ∀ c, c < 256 → sgn c ≠ 35 ∧ sgn c - 2 ≠ 35 := by decide +kernel
      have := h9 (b s) (hb s (by omega))
      split at h
      · exact this.2 h
      · exact this.1 h
theorem gs_end {S : PS} (h : S.1 ≠ 4) : (gstep 35 S).1 ≠ 0 := by
  obtain ⟨ph, G, nc, kd, cd, my, ne⟩ := S
  simp only [gstep]
  rw [if_neg h]
  by_cases h5 : ph = 5
  · rw [if_pos h5]; simp [gNumber]
  · rw [if_neg h5]
    by_cases h6 : ph = 6
    · rw [if_pos h6]; simp [gStop]
    · rw [if_neg h6]
      by_cases h2 : ph = 2
      · rw [if_pos h2]
        cases G with
        | nil => simp [gOperator]
        | cons p r =>
          obtain ⟨f, w⟩ := p
          simp only [gOperator]
          rw [if_neg (by omega)]
          split
          · simp
          · split
            · simp
            · split
              · simp
              · simp only [gAsk]
                split
                · simp
                · simp
      · rw [if_neg h2]; simp [gOperand]
theorem qrF_eq {b : Nat → Nat} {L : Nat} (hb : ∀ k, k < L → b k < 256) : ∀ f f' s S, s ≤ L → L - s < f → L - s < f' → qrF b L f s S = qrF b L f' s S
  | 0, _, _, _, _, h, _ => by omega
  | _ + 1, 0, _, _, _, _, h => by omega
  | f + 1, f' + 1, s, S, hs, h1, h2 => by
    simp only [qrF]
    by_cases e : (tok b L s).1 = 35 ∧ S.1 = 4
    · rw [if_pos e, if_pos e]
    · rw [if_neg e, if_neg e]
      by_cases e2 : (gstep (tok b L s).1 S).1 ≠ 0
      · rw [if_pos e2, if_pos e2]
      · rw [if_neg e2, if_neg e2]
        have h35 : (tok b L s).1 ≠ 35 := fun z => e2 (by rw [z]; exact gs_end (fun q => e ⟨z, q⟩))
        obtain ⟨g1, g2, g3⟩ := tok_nx hs h35
        have := run_ge (P := isB) (b := b) g3
        exact qrF_eq hb f f' _ _ this.2 (by omega) (by omega)
theorem qr_end {b : Nat → Nat} {L s : Nat} {S : PS} (hs : s ≤ L) (h : (tok b L s).1 = 35) (h4 : S.1 = 4) : qr b L s S = (0, 0, S) := by
  unfold qr
  rw [show L + 1 - s = L - s + 1 by omega]
  simp only [qrF]
  rw [if_pos ⟨h, h4⟩]
theorem qr_bad {b : Nat → Nat} {L s q : Nat} {S S' : PS} (hs : s ≤ L) (h : ¬ ((tok b L s).1 = 35 ∧ S.1 = 4)) (hg : gstep (tok b L s).1 S = (q, S')) (hq : q ≠ 0) : qr b L s S = (q, s, S) := by
  unfold qr
  rw [show L + 1 - s = L - s + 1 by omega]
  simp only [qrF]
  rw [if_neg h, hg, if_pos hq]
theorem qr_ok {b : Nat → Nat} {L s : Nat} {S S' : PS} (hb : ∀ k, k < L → b k < 256) (hs : s ≤ L) (h : ¬ ((tok b L s).1 = 35 ∧ S.1 = 4)) (hg : gstep (tok b L s).1 S = (0, S')) : qr b L s S = qr b L (run isB b L (tok b L s).2) S' ∧ s < L ∧ s < (tok b L s).2 ∧ (tok b L s).2 ≤ L := by
  have h35 : (tok b L s).1 ≠ 35 := fun z => gs_end (S := S) (fun q => h ⟨z, q⟩) (by rw [← z, hg])
  obtain ⟨g1, g2, g3⟩ := tok_nx hs h35
  have hr := run_ge (P := isB) (b := b) g3
  refine ⟨?_, g1, g2, g3⟩
  unfold qr
  rw [show L + 1 - s = L - s + 1 by omega]
  simp only [qrF]
  rw [if_neg h, hg, if_neg (by simp)]
  exact qrF_eq hb _ _ _ _ hr.2 (by omega) (by omega)
