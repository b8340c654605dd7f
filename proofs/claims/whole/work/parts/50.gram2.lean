/-! THE GRAMMAR: what stays so -/
def vS (w : List Nat) : Prop := w = [] ∨ (∃ a, w = [a] ∧ 27 ≤ a ∧ a ≤ 30) ∨ ∃ a b, w = [a, b] ∧ (a = 29 ∨ a = 30) ∧ (b = 27 ∨ b = 28)
def vE (w : List Nat) : Prop := w = [] ∨ w = [12] ∨ w = [13] ∨ w = [12, 13]
def shE : LV → Prop
  | [] => False
  | (f, w) :: r => (f = 2 ∧ r = [] ∧ vE w) ∨ (f = 3 ∧ w = [] ∧ shE r)
def shS (k : Nat) : LV → Prop
  | [] => False
  | (f, w) :: r => vS w ∧ ((k = 16 ∧ f = 1 ∧ r = []) ∨ (k ≠ 16 ∧ (f = 4 ∨ (21 ≤ f ∧ f ≤ 26)) ∧ shE r))
def shI (k : Nat) : LV → Prop
  | [] => False
  | (f, w) :: r => (f = 6 ∧ vS w ∧ shI k r) ∨ (f = 7 ∧ w = [] ∧ shI k r) ∨ shS k ((f, w) :: r)
def sty : LV → List Bool
  | [] => []
  | (f, w) :: r => List.replicate w.length (decide (f = 2)) ++ ((if 21 ≤ f then [false] else []) ++ sty r)
theorem vS_in {w : List Nat} (h : vS w) : (∀ x, x ∈ w → 27 ≤ x ∧ x ≤ 30) ∧ w.length ≤ 2 := by
  rcases h with rfl | ⟨a, rfl, h1, h2⟩ | ⟨a, b, rfl, h1, h2⟩
  · exact ⟨fun x hx => by simp at hx, by simp⟩
  · exact ⟨fun x hx => by simp at hx; omega, by simp⟩
  · exact ⟨fun x hx => by simp at hx; omega, by simp⟩
theorem vE_in {w : List Nat} (h : vE w) : (∀ x, x ∈ w → x = 12 ∨ x = 13) ∧ w.length ≤ 2 := by
  rcases h with rfl | rfl | rfl | rfl
  · exact ⟨fun x hx => by simp at hx, by simp⟩
  · exact ⟨fun x hx => by simp at hx; omega, by simp⟩
  · exact ⟨fun x hx => by simp at hx; omega, by simp⟩
  · exact ⟨fun x hx => by simp at hx; omega, by simp⟩
theorem vS_t1 : ∀ t, t < 4 → ∀ a, a < 4 → (sdr (rkc (27 + t)) [27 + a] = [] ∨ (sdr (rkc (27 + t)) [27 + a] = [27 + a] ∧ 2 ≤ t ∧ a < 2)) := by decide +kernel
theorem vS_t2 : ∀ t, t < 4 → ∀ a, a < 2 → ∀ b, b < 2 → (sdr (rkc (27 + t)) [29 + a, 27 + b] = [] ∨ (sdr (rkc (27 + t)) [29 + a, 27 + b] = [27 + b] ∧ 2 ≤ t)) := by decide +kernel
theorem vS_put {w : List Nat} {t : Nat} (h : vS w) (h1 : 27 ≤ t) (h2 : t ≤ 30) : vS (t :: sdr (rkc t) w) := by
  rcases h with rfl | ⟨a, rfl, g1, g2⟩ | ⟨a, b, rfl, g1, g2⟩
  · exact Or.inr (Or.inl ⟨t, rfl, h1, h2⟩)
  · have := vS_t1 (t - 27) (by omega) (a - 27) (by omega)
    rw [show 27 + (t - 27) = t by omega, show 27 + (a - 27) = a by omega] at this
    rcases this with e | ⟨e, q1, q2⟩
    · rw [e]; exact Or.inr (Or.inl ⟨_, rfl, h1, h2⟩)
    · rw [e]; exact Or.inr (Or.inr ⟨_, _, rfl, by omega, by omega⟩)
  · have := vS_t2 (t - 27) (by omega) (a - 29) (by omega) (b - 27) (by omega)
    rw [show 27 + (t - 27) = t by omega, show 29 + (a - 29) = a by omega, show 27 + (b - 27) = b by omega] at this
    rcases this with e | ⟨e, q1⟩
    · rw [e]; exact Or.inr (Or.inl ⟨_, rfl, h1, h2⟩)
    · rw [e]; exact Or.inr (Or.inr ⟨_, _, rfl, by omega, by omega⟩)
theorem vE_put {w : List Nat} {t : Nat} (h : vE w) (ht : t = 12 ∨ t = 13) : vE (t :: sdr (rkc t) w) := by
  rcases h with rfl | rfl | rfl | rfl <;> rcases ht with rfl | rfl
  · exact Or.inr (Or.inl rfl)
  · exact Or.inr (Or.inr (Or.inl rfl))
  · exact Or.inr (Or.inl (by decide))
  · exact Or.inr (Or.inr (Or.inl (by decide)))
  · exact Or.inr (Or.inr (Or.inr (by decide)))
  · exact Or.inr (Or.inr (Or.inl (by decide)))
  · exact Or.inr (Or.inr (Or.inr (by decide)))
  · exact Or.inr (Or.inr (Or.inl (by decide)))
theorem unn_ok {k : Nat} : ∀ {G : LV}, shI k G → shI k (unn G) ∧ neg (unn G) = 0 ∧ sty (unn G) = sty G ∧ nO (unn G) + neg G = nO G ∧ flat G = List.replicate (neg G) 31 ++ flat (unn G) ∧ nP (unn G) = nP G ∧ cmB (unn G) = cmB G
  | [], h => h.elim
  | (f, w) :: r, h => by
    by_cases e : f = 7
    · have h7 : w = [] ∧ shI k r := by
        rcases h with ⟨q, -⟩ | ⟨-, q⟩ | q
        · omega
        · exact q
        · rcases q.2 with z | z
          · omega
          · omega
      obtain ⟨rfl, hr⟩ := h7
      obtain ⟨g1, g2, g3, g4, g5, g6, g7⟩ := unn_ok hr
      subst e
      simp only [unn, neg, if_true, sty, nO, flat, opn, nP, cmB, List.length_nil, List.replicate_zero, List.nil_append]
      refine ⟨g1, g2, ?_, ?_, ?_, ?_, ?_⟩
      · rw [g3]; rfl
      · simp; omega
      · rw [if_neg (by decide), g5]; rfl
      · rw [g6]; simp
      · rw [g7]; rfl
    · have e1 : unn ((f, w) :: r) = (f, w) :: r := by simp only [unn, if_neg e]
      have e2 : neg ((f, w) :: r) = 0 := by simp only [neg, if_neg e]
      rw [e1, e2]
      exact ⟨h, rfl, rfl, rfl, rfl, rfl, rfl⟩
theorem unt_ok : ∀ {G : LV}, shE G → ∃ e, unt G = [(2, e)] ∧ vE e ∧ sty G = List.replicate e.length true ∧ nO G = nts G ∧ flat G = List.replicate (nts G) 11 ++ e ∧ nP G = 0 ∧ cmB G = false
  | [], h => h.elim
  | (f, w) :: r, h => by
    rcases h with ⟨rfl, rfl, hw⟩ | ⟨rfl, rfl, hr⟩
    · exact ⟨w, rfl, hw, by simp [sty], rfl, by simp [flat, nts, opn], rfl, rfl⟩
    · obtain ⟨e, g1, g2, g3, g4, g5, g6, g7⟩ := unt_ok hr
      refine ⟨e, by simp [unt, g1], g2, by simp [sty, g3], ?_, ?_, ?_, ?_⟩
      · simp [nO, nts]; omega
      · simp only [flat, opn, nts, g5, if_true]; rw [if_neg (by decide), if_neg (by decide)]; rfl
      · simp [nP, g6]
      · simp [cmB, g7]
theorem sty_lenE {G : LV} (h : shE G) : (sty G).length ≤ 2 := by
  obtain ⟨e, -, g2, g3, -⟩ := unt_ok h
  rw [g3, List.length_replicate]; exact (vE_in g2).2
theorem sty_lenS {k : Nat} {G : LV} (h : shS k G) : (sty G).length ≤ 5 := by
  match G, h with
  | (f, w) :: r, h =>
    have hw := (vS_in h.1).2
    rcases h.2 with ⟨-, rfl, rfl⟩ | ⟨-, -, hr⟩
    · simp [sty]; omega
    · have := sty_lenE hr
      simp only [sty, List.length_append, List.length_replicate]
      split
      · simp; omega
      · simp; omega
theorem sty_len {k : Nat} : ∀ {G : LV}, shI k G → (sty G).length ≤ 2 * nO G + 5
  | [], h => h.elim
  | (f, w) :: r, h => by
    rcases h with ⟨rfl, hw, hr⟩ | ⟨rfl, rfl, hr⟩ | hs
    · have h1 := sty_len hr
      have h2 := (vS_in hw).2
      simp [sty, nO]; omega
    · have h1 := sty_len hr
      simp [sty, nO]; omega
    · have := sty_lenS hs; omega
theorem opn_len (f : Nat) : (opn f).length ≤ 1 := by
  unfold opn
  split
  · exact Nat.le_refl _
  · split
    · exact Nat.le_refl _
    · split
      · exact Nat.le_refl _
      · split
        · exact Nat.le_refl _
        · exact Nat.zero_le _
theorem opn_cmp {f : Nat} (h : 21 ≤ f) : opn f = [f] := by unfold opn; rw [if_neg (by omega), if_neg (by omega), if_neg (by omega), if_pos h]
theorem flat_lenE {G : LV} (h : shE G) : (flat G).length ≤ nO G + 2 ∧ G.length = nO G + 1 := by
  match G, h with
  | (f, w) :: r, h =>
    rcases h with ⟨rfl, rfl, hw⟩ | ⟨rfl, rfl, hr⟩
    · have := (vE_in hw).2
      simp [flat, opn, nO]; omega
    · have := flat_lenE hr
      simp [flat, opn, nO]; omega
theorem flat_lenS {k : Nat} {G : LV} (h : shS k G) : (flat G).length ≤ nO G + 5 ∧ G.length ≤ nO G + 2 := by
  match G, h with
  | (f, w) :: r, h =>
    have hw := (vS_in h.1).2
    rcases h.2 with ⟨-, rfl, rfl⟩ | ⟨-, hf, hr⟩
    · simp [flat, opn, nO]; omega
    · have h1 := flat_lenE hr
      have h2 := opn_len f
      have h3 : nO ((f, w) :: r) = nO r := by simp only [nO]; rw [if_neg (by omega)]; omega
      rw [h3]
      simp [flat]; omega
theorem flat_len {k : Nat} : ∀ {G : LV}, shI k G → (flat G).length ≤ 3 * nO G + 5 ∧ G.length ≤ nO G + 2
  | [], h => h.elim
  | (f, w) :: r, h => by
    rcases h with ⟨rfl, hw, hr⟩ | ⟨rfl, rfl, hr⟩ | hs
    · have h1 := flat_len hr
      have h2 := (vS_in hw).2
      simp [flat, opn, nO]; omega
    · have h1 := flat_len hr
      simp [flat, opn, nO]; omega
    · have := flat_lenS hs; omega
theorem tyS_app : ∀ (c d : List Nat) (S : List Bool), tyS (c ++ d) S = (tyS c S).bind (tyS d)
  | [], d, S => rfl
  | t :: c, d, S => by
    simp only [List.cons_append, tyS]
    cases ty1 t S with
    | none => rfl
    | some T => exact tyS_app c d T
theorem ty_op {x : Nat} {R : List Bool} (h1 : 27 ≤ x) (h2 : x ≤ 30) : ty1 x (false :: false :: R) = some (false :: R) := by
  unfold ty1
  rw [if_neg (by omega)]
  try simp only []
  rw [if_neg (by omega), if_neg (by omega)]
  try simp only []
  rw [if_neg (by omega), if_neg (by omega), if_pos (by omega)]
  simp
theorem ty_cmp {x : Nat} {R : List Bool} (h1 : 21 ≤ x) (h2 : x ≤ 26) : ty1 x (false :: false :: R) = some (true :: R) := by
  unfold ty1
  rw [if_neg (by omega)]
  try simp only []
  rw [if_neg (by omega), if_neg (by omega)]
  try simp only []
  rw [if_neg (by omega), if_pos (by omega)]
  simp
theorem ty_ask {x : Nat} {R : List Bool} (h : x = 12 ∨ x = 13) : ty1 x (true :: true :: R) = some (true :: R) := by
  unfold ty1
  rw [if_neg (by omega)]
  try simp only []
  rw [if_neg (by omega), if_neg (by omega)]
  try simp only []
  rw [if_pos (by omega)]
  simp
theorem ty_one {t : Nat} {S : List Bool} (h : (100 ≤ t ∧ t ≤ 10099) ∨ t < 11) (hS : S.length < 24) : ty1 t S = some (false :: S) := by
  unfold ty1
  rw [if_pos h, if_pos hS]
theorem ty_ops : ∀ {u : List Nat} {R : List Bool}, (∀ x, x ∈ u → 27 ≤ x ∧ x ≤ 30) → tyS u (false :: (List.replicate u.length false ++ R)) = some (false :: R)
  | [], R, _ => rfl
  | x :: u, R, h => by
    have hx := h x List.mem_cons_self
    simp only [tyS, List.length_cons, List.replicate_succ, List.cons_append]
    rw [ty_op hx.1 hx.2]
    exact ty_ops (fun y hy => h y (List.mem_cons_of_mem _ hy))
theorem ty_asks : ∀ {u : List Nat} {R : List Bool}, (∀ x, x ∈ u → x = 12 ∨ x = 13) → tyS u (true :: (List.replicate u.length true ++ R)) = some (true :: R)
  | [], R, _ => rfl
  | x :: u, R, h => by
    simp only [tyS, List.length_cons, List.replicate_succ, List.cons_append]
    rw [ty_ask (h x List.mem_cons_self)]
    exact ty_asks (fun y hy => h y (List.mem_cons_of_mem _ hy))
theorem ty_negs {R : List Bool} : ∀ n, tyS (List.replicate n 31) (false :: R) = some (false :: R)
  | 0 => rfl
  | n + 1 => by
    simp only [List.replicate_succ, tyS]
    rw [show ty1 31 (false :: R) = some (false :: R) from by simp [ty1]]
    exact ty_negs n
theorem ty_nots {R : List Bool} : ∀ n, tyS (List.replicate n 11) (true :: R) = some (true :: R)
  | 0 => rfl
  | n + 1 => by
    simp only [List.replicate_succ, tyS]
    rw [show ty1 11 (true :: R) = some (true :: R) from by simp [ty1]]
    exact ty_nots n
/-- the clause that is being read: all so far holds -/
def gC (ph : Nat) (G : LV) (k : Nat) (c : List Nat) : Prop := 16 ≤ k ∧ k ≤ 20 ∧ nO G ≤ 8 ∧ (∀ t, t ∈ c → t < 11 → okN k t = true) ∧ tyS c [] = some (if ph = 2 then false :: sty G else sty G) ∧ ((ph = 0 ∧ k ≠ 16 ∧ shE G) ∨ (ph = 2 ∧ shI k G ∧ neg G = 0) ∨ (ph = 1 ∧ shI k G))
theorem okC_of {k : Nat} {c : List Nat} (hk : 16 ≤ k) (hn : ∀ t, t ∈ c → t < 11 → okN k t = true) (hty : tyS c [] = some [decide (k ≠ 16)]) : okC k c := by
  refine ⟨fun h t ht h2 => ?_, fun h t ht h2 => ?_, fun h t ht h2 => ?_, fun _ => hty⟩
  · have := hn t ht h2
    unfold okN at this
    rw [if_neg (by omega), if_pos h, decide_eq_true_eq] at this; exact this
  · have := hn t ht h2
    unfold okN at this
    rw [if_pos h, decide_eq_true_eq] at this; exact this
  · have := hn t ht h2
    unfold okN at this
    rw [if_neg (by omega), if_neg (by omega), decide_eq_true_eq] at this; exact this
theorem mem_app11 {k : Nat} {c l : List Nat} (hn : ∀ t, t ∈ c → t < 11 → okN k t = true) (hl : ∀ t, t ∈ l → 11 ≤ t) : ∀ t, t ∈ c ++ l → t < 11 → okN k t = true := fun t ht h => by
  rcases List.mem_append.mp ht with q | q
  · exact hn t q h
  · have := hl t q; omega
theorem lft_ok {ph k : Nat} {G : LV} {c : List Nat} (hph : ph = 0 ∨ ph = 1) (h : gC ph G k c) : shI k (lft ph G) ∧ sty (lft ph G) = sty G ∧ nO (lft ph G) = nO G ∧ flat (lft ph G) = flat G ∧ nP (lft ph G) = nP G := by
  obtain ⟨h1, h2, h3, h4, h5, h6⟩ := h
  rcases hph with rfl | rfl
  · obtain ⟨-, hk, hE⟩ := h6.resolve_right (by omega)
    exact ⟨Or.inr (Or.inr ⟨Or.inl rfl, Or.inr ⟨hk, Or.inl rfl, hE⟩⟩), rfl, by simp [lft, nO], rfl, by simp [lft, nP]⟩
  · have h9 : shI k G := by
      rcases h6 with q | q | q
      · omega
      · omega
      · exact q.2
    exact ⟨h9, rfl, rfl, rfl, rfl⟩
theorem gOne_ok {t ph k : Nat} {G : LV} {c : List Nat} (hph : ph = 0 ∨ ph = 1) (h : gC ph G k c) (ht : (100 ≤ t ∧ t ≤ 10099) ∨ (t < 11 ∧ okN k t = true)) : gC 2 (unn (lft ph G)) k (c ++ t :: List.replicate (neg (lft ph G)) 31) ∧ (neg (lft ph G) + 1) + (flat (unn (lft ph G))).length = (flat G).length + 1 := by
  obtain ⟨g1, g2, g3, g4, -⟩ := lft_ok hph h
  obtain ⟨h1, h2, h3, h4, h5, h6⟩ := h
  obtain ⟨u1, u2, u3, u4, u5, -⟩ := unn_ok g1
  have hl := sty_len g1
  rw [if_neg (by omega)] at h5
  refine ⟨⟨h1, h2, by omega, ?_, ?_, Or.inr (Or.inl ⟨rfl, u1, u2⟩)⟩, ?_⟩
  · intro x hx h11
    rcases List.mem_append.mp hx with q | q
    · exact h4 x q h11
    · rcases List.mem_cons.mp q with rfl | q
      · rcases ht with z | z
        · omega
        · exact z.2
      · have := List.eq_of_mem_replicate q; omega
  · rw [tyS_app, h5, if_pos rfl, u3, g2]
    simp only [Option.bind_some, tyS]
    rw [ty_one (by omega) (by rw [← g2]; omega)]
    exact ty_negs _
  · rw [← g4, u5]; simp; omega
theorem gOperand_ok {t ph nc : Nat} {G : LV} {kd : Nat → Nat} {cd : Nat → List Nat} {my ne : Int32} {S' : PS} (hph : ph = 0 ∨ ph = 1) (h : gC ph G (kd (nc - 1)) (cd (nc - 1))) (hg : gOperand t ph G nc kd cd my ne = (0, S')) : ∃ ph' G' l, S' = (ph', G', nc, kd, cdA cd nc l, my, ne) ∧ ph' ≤ 2 ∧ gC ph' G' (kd (nc - 1)) (cd (nc - 1) ++ l) ∧ l.length + (flat G').length ≤ (flat G).length + 1 := by
  unfold gOperand at hg
  split at hg
  · rename_i h1
    split at hg
    · simp at hg
    · obtain ⟨q1, q2⟩ := gOne_ok (t := t) hph h (Or.inl (by omega))
      refine ⟨_, _, _, (Prod.mk.inj hg).2.symm, by omega, q1, ?_⟩
      simp only [List.length_cons, List.length_replicate]; omega
  · split at hg
    · rename_i h1 h2
      split at hg
      · rename_i h3
        obtain ⟨q1, q2⟩ := gOne_ok (t := t) hph h (Or.inr ⟨h2, h3⟩)
        refine ⟨_, _, _, (Prod.mk.inj hg).2.symm, by omega, q1, ?_⟩
        simp only [List.length_cons, List.length_replicate]; omega
      · simp at hg
    · obtain ⟨g1, g2, g3, g4, -⟩ := lft_ok hph h
      have hh := h
      obtain ⟨h1, h2, h3, h4, h5, h6⟩ := h
      rw [if_neg (by omega)] at h5
      split at hg
      · split at hg
        · simp at hg
        · refine ⟨1, (6, []) :: lft ph G, [], ?_, by omega, ⟨h1, h2, ?_, by simpa using h4, ?_, Or.inr (Or.inr ⟨rfl, Or.inl ⟨rfl, Or.inl rfl, g1⟩⟩)⟩, ?_⟩
          · rw [cdA_nil]; exact (Prod.mk.inj hg).2.symm
          · simp only [nO]; rw [g3]; simp; omega
          · rw [List.append_nil, h5, if_neg (by decide)]; simp [sty, g2]
          · simp [flat, opn, g4] <;> omega
      · split at hg
        · split at hg
          · simp at hg
          · refine ⟨1, (7, []) :: lft ph G, [], ?_, by omega, ⟨h1, h2, ?_, by simpa using h4, ?_, Or.inr (Or.inr ⟨rfl, Or.inr (Or.inl ⟨rfl, rfl, g1⟩)⟩)⟩, ?_⟩
            · rw [cdA_nil]; exact (Prod.mk.inj hg).2.symm
            · simp only [nO]; rw [g3]; simp; omega
            · rw [List.append_nil, h5, if_neg (by decide)]; simp [sty, g2]
            · simp [flat, opn, g4] <;> omega
        · split at hg
          · rename_i h9
            split at hg
            · simp at hg
            · obtain ⟨-, hk, hE⟩ := h6.resolve_right (by omega)
              refine ⟨0, (3, []) :: G, [], ?_, by omega, ⟨h1, h2, ?_, by simpa using h4, ?_, Or.inl ⟨rfl, hk, Or.inr ⟨rfl, rfl, hE⟩⟩⟩, ?_⟩
              · rw [cdA_nil]; exact (Prod.mk.inj hg).2.symm
              · simp only [nO]; simp; omega
              · rw [List.append_nil, h5, if_neg (by decide)]; simp [sty]
              · simp [flat, opn] <;> omega
          · simp at hg
theorem rep_split {n m : Nat} {b : Bool} : List.replicate (n + m) b = List.replicate n b ++ List.replicate m b := (List.replicate_append_replicate).symm
theorem stk_mem {r x : Nat} {w : List Nat} (h : x ∈ stk r w) : x ∈ w := by
  have := stk_sdr r w
  rw [← this]; exact List.mem_append_left _ h
theorem stk_len (r : Nat) (w : List Nat) : (stk r w).length + (sdr r w).length = w.length := by
  have := congrArg List.length (stk_sdr r w)
  rwa [List.length_append] at this
theorem gOperator_ok {t nc : Nat} {G : LV} {kd : Nat → Nat} {cd : Nat → List Nat} {my ne : Int32} {S' : PS} (h : gC 2 G (kd (nc - 1)) (cd (nc - 1))) (hg : gOperator t G nc kd cd my ne = (0, S')) : ∃ ph' G' l, S' = (ph', G', nc, kd, cdA cd nc l, my, ne) ∧ ((ph' ≤ 2 ∧ gC ph' G' (kd (nc - 1)) (cd (nc - 1) ++ l)) ∨ (ph' = 4 ∧ G' = [] ∧ okC (kd (nc - 1)) (cd (nc - 1) ++ l))) ∧ l.length + (flat G').length ≤ (flat G).length + 1 := by
  obtain ⟨h1, h2, h3, h4, h5, h6⟩ := h
  rw [if_pos rfl] at h5
  obtain ⟨hI, hn⟩ : shI (kd (nc - 1)) G ∧ neg G = 0 := by
    rcases h6 with q | q | q
    · omega
    · exact q.2
    · omega
  match G, hI with
  | (f, w) :: r, hI =>
    have hf7 : f ≠ 7 := fun e => by subst e; simp [neg] at hn
    have hvw : vS w := by
      rcases hI with ⟨-, q, -⟩ | ⟨q, -⟩ | q
      · exact q
      · exact absurd q hf7
      · exact q.1
    have hf2 : f ≠ 2 := by
      rcases hI with ⟨q, -⟩ | ⟨q, -⟩ | q
      · omega
      · omega
      · rcases q.2 with z | z <;> omega
    have hwm := (vS_in hvw).1
    have hsty : sty ((f, w) :: r) = List.replicate w.length false ++ ((if 21 ≤ f then [false] else []) ++ sty r) := by
      simp only [sty]; rw [decide_eq_false hf2]
    -- all of the level
    have hall : tyS (cd (nc - 1) ++ w) [] = some (false :: ((if 21 ≤ f then [false] else []) ++ sty r)) := by
      rw [tyS_app, h5, hsty]; exact ty_ops hwm
    have hm1 := mem_app11 h4 (l := w) (fun x hx => by have := hwm x hx; omega)
    simp only [gOperator] at hg
    split at hg
    · rename_i ht
      have hst : ∀ x, x ∈ stk (rkc t) w → 27 ≤ x ∧ x ≤ 30 := fun x hx => hwm x (stk_mem hx)
      have hsl := stk_len (rkc t) w
      refine ⟨1, (f, t :: sdr (rkc t) w) :: r, stk (rkc t) w, (Prod.mk.inj hg).2.symm, Or.inl ⟨by omega, h1, h2, ?_, mem_app11 h4 (fun x hx => by have := hst x hx; omega), ?_, Or.inr (Or.inr ⟨rfl, ?_⟩)⟩, ?_⟩
      · simpa only [nO] using h3
      · rw [if_neg (by decide), tyS_app, h5, hsty, ← hsl, rep_split, List.append_assoc]
        rw [show (some (false :: (List.replicate (stk (rkc t) w).length false ++ (List.replicate (sdr (rkc t) w).length false ++ ((if 21 ≤ f then [false] else []) ++ sty r))))).bind (tyS (stk (rkc t) w)) = tyS (stk (rkc t) w) (false :: (List.replicate (stk (rkc t) w).length false ++ (List.replicate (sdr (rkc t) w).length false ++ ((if 21 ≤ f then [false] else []) ++ sty r)))) from rfl, ty_ops hst]
        simp only [sty, List.length_cons, List.replicate_succ, List.cons_append]
        rw [decide_eq_false hf2]
      · have hv := vS_put hvw ht.1 ht.2
        rcases hI with ⟨q1, -, q3⟩ | ⟨q, -⟩ | q
        · exact Or.inl ⟨q1, hv, q3⟩
        · exact absurd q hf7
        · exact Or.inr (Or.inr ⟨hv, q.2⟩)
      · simp [flat]; omega
    · split at hg
      · rename_i hf6
        subst hf6
        split at hg
        · have hr : shI (kd (nc - 1)) r := by
            rcases hI with ⟨-, -, q⟩ | ⟨q, -⟩ | q
            · exact q
            · omega
            · rcases q.2 with z | z <;> omega
          obtain ⟨u1, u2, u3, u4, u5, -⟩ := unn_ok hr
          refine ⟨2, unn r, w ++ List.replicate (neg r) 31, (Prod.mk.inj hg).2.symm, Or.inl ⟨by omega, h1, h2, ?_, ?_, ?_, Or.inr (Or.inl ⟨rfl, u1, u2⟩)⟩, ?_⟩
          · simp [nO] at h3; omega
          · rw [← List.append_assoc]
            exact mem_app11 hm1 (fun x hx => by have := List.eq_of_mem_replicate hx; omega)
          · rw [if_pos rfl, ← List.append_assoc, tyS_app, hall, u3]
            exact ty_negs _
          · simp only [flat, List.length_append, List.length_replicate]; rw [u5]; simp [opn]; omega
        · simp at hg
      · split at hg
        · rename_i hf4
          subst hf4
          split at hg
          · rename_i ht
            have hr : shE r ∧ kd (nc - 1) ≠ 16 := by
              rcases hI with ⟨q, -⟩ | ⟨q, -⟩ | q
              · omega
              · omega
              · rcases q.2 with z | z
                · omega
                · exact ⟨z.2.2, z.1⟩
            refine ⟨1, (t, []) :: r, w, (Prod.mk.inj hg).2.symm, Or.inl ⟨by omega, h1, h2, ?_, hm1, ?_, Or.inr (Or.inr ⟨rfl, Or.inr (Or.inr ⟨Or.inl rfl, Or.inr ⟨hr.2, Or.inr ht, hr.1⟩⟩)⟩)⟩, ?_⟩
            · simp only [nO] at h3 ⊢; rw [if_neg (by omega)]; simpa using h3
            · rw [if_neg (by decide), hall]; simp [sty, if_pos ht.1]
            · simp only [flat, opn, List.length_append, List.length_nil]
              rw [if_neg (by omega), if_neg (by omega), if_neg (by omega), if_pos ht.1]; simp; omega
          · simp at hg
        · split at hg
          · rename_i hf1
            subst hf1
            split at hg
            · have hr : kd (nc - 1) = 16 ∧ r = [] := by
                rcases hI with ⟨q, -⟩ | ⟨q, -⟩ | q
                · omega
                · omega
                · rcases q.2 with z | z
                  · exact ⟨z.1, z.2.2⟩
                  · omega
              refine ⟨4, [], w, (Prod.mk.inj hg).2.symm, Or.inr ⟨rfl, rfl, okC_of h1 hm1 ?_⟩, ?_⟩
              · rw [hall, hr.2, hr.1]; simp [sty]
              · simp [flat]; omega
            · simp at hg
          · have hr : shE r ∧ kd (nc - 1) ≠ 16 ∧ 21 ≤ f ∧ f ≤ 26 := by
              rcases hI with ⟨q, -⟩ | ⟨q, -⟩ | q
              · omega
              · omega
              · rcases q.2 with z | z
                · omega
                · exact ⟨z.2.2, z.1, by omega, by omega⟩
            obtain ⟨e, e1, e2, e3, e4, e5, -⟩ := unt_ok hr.1
            have hem := (vE_in e2).1
            have hfl : (flat ((f, w) :: r)).length = w.length + (1 + (nts r + e.length)) := by
              simp only [flat]; rw [opn_cmp hr.2.2.1, e5]; simp; omega
            simp only [gAsk, e1] at hg
            have hcmp : tyS (cd (nc - 1) ++ (w ++ ([f] ++ List.replicate (nts r) 11))) [] = some (true :: List.replicate e.length true) := by
              rw [← List.append_assoc, ← List.append_assoc, tyS_app, tyS_app, hall, if_pos hr.2.2.1, e3]
              simp only [Option.bind_some, tyS, List.cons_append, List.nil_append]
              rw [ty_cmp hr.2.2.1 hr.2.2.2]
              exact ty_nots _
            have hm2 : ∀ x, x ∈ cd (nc - 1) ++ (w ++ ([f] ++ List.replicate (nts r) 11)) → x < 11 → okN (kd (nc - 1)) x = true := by
              rw [← List.append_assoc]
              refine mem_app11 hm1 (fun x hx => ?_)
              rcases List.mem_append.mp hx with q | q
              · have := List.mem_singleton.mp q; omega
              · have := List.eq_of_mem_replicate q; omega
            split at hg
            · refine ⟨4, [], _, (Prod.mk.inj hg).2.symm, Or.inr ⟨rfl, rfl, okC_of h1 ?_ ?_⟩, ?_⟩
              · have := mem_app11 hm2 (l := e) (fun x hx => by have := hem x hx; omega)
                simpa only [List.append_assoc] using this
              · have : tyS ((cd (nc - 1) ++ (w ++ ([f] ++ List.replicate (nts r) 11))) ++ e) [] = some [true] := by
                  rw [tyS_app, hcmp]
                  have := ty_asks (u := e) (R := []) hem
                  rwa [List.append_nil] at this
                simp only [List.append_assoc] at this
                rw [this, decide_eq_true hr.2.1]
              · rw [hfl]; simp [flat]; omega
            · split at hg
              · rename_i ht
                have hst : ∀ x, x ∈ stk (rkc t) e → x = 12 ∨ x = 13 := fun x hx => hem x (stk_mem hx)
                have hsl := stk_len (rkc t) e
                refine ⟨0, [(2, t :: sdr (rkc t) e)], _, (Prod.mk.inj hg).2.symm, Or.inl ⟨by omega, h1, h2, by simp [nO], ?_, ?_, Or.inl ⟨rfl, hr.2.1, Or.inl ⟨rfl, rfl, vE_put e2 ht⟩⟩⟩, ?_⟩
                · have := mem_app11 hm2 (l := stk (rkc t) e) (fun x hx => by have := hst x hx; omega)
                  simpa only [List.append_assoc] using this
                · have : tyS ((cd (nc - 1) ++ (w ++ ([f] ++ List.replicate (nts r) 11))) ++ stk (rkc t) e) [] = some (true :: List.replicate (sdr (rkc t) e).length true) := by
                    rw [tyS_app, hcmp, ← hsl, rep_split]
                    exact ty_asks hst
                  simp only [List.append_assoc] at this
                  rw [this, if_neg (by decide)]
                  simp [sty, List.replicate_succ]
                · rw [hfl]; simp [flat, opn]; omega
              · simp at hg
