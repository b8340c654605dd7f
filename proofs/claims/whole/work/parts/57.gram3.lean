/-! THE GRAMMAR: all that is read holds -/
def gI (S : PS) (a : Nat) : Prop := S.2.2.1 ≤ 10 ∧ (∀ i, i < S.2.2.1 → 14 ≤ S.2.2.2.1 i ∧ S.2.2.2.1 i ≤ 20) ∧ tot S.2.2.2.2.1 S.2.2.1 + (flat S.2.1).length ≤ a ∧
  (∀ i, i < S.2.2.1 → ∀ j, j < S.2.2.1 → S.2.2.2.1 i = S.2.2.2.1 j → S.2.2.2.1 i ≤ 16 → i = j) ∧ (hasK S.2.2.1 S.2.2.2.1 14 = false → S.2.2.2.2.2.1 = -1) ∧ (hasK S.2.2.1 S.2.2.2.1 15 = false → S.2.2.2.2.2.2 = -1) ∧
  (∀ i, i < S.2.2.1 → S.2.2.2.1 i < 16 → S.2.2.2.2.1 i = []) ∧ (∀ i, i < S.2.2.1 → (i + 1 = S.2.2.1 ∧ S.1 ≤ 2) ∨ okC (S.2.2.2.1 i) (S.2.2.2.2.1 i)) ∧
  (S.1 ≤ 2 → 0 < S.2.2.1 ∧ gC S.1 S.2.1 (S.2.2.2.1 (S.2.2.1 - 1)) (S.2.2.2.2.1 (S.2.2.1 - 1))) ∧ (3 ≤ S.1 → S.2.1 = []) ∧ (S.1 = 5 → 0 < S.2.2.1 ∧ S.2.2.2.1 (S.2.2.1 - 1) ≤ 15) ∧ S.1 ≤ 6 ∧ S.1 ≠ 3
theorem gI_0 {kd : Nat → Nat} {cd : Nat → List Nat} : gI (4, [], 0, kd, cd, -1, -1) 0 := by
  refine ⟨Nat.zero_le _, fun i hi => absurd hi (Nat.not_lt_zero _), Nat.le_refl _, fun i hi => absurd hi (Nat.not_lt_zero _), fun _ => rfl, fun _ => rfl, fun i hi => absurd hi (Nat.not_lt_zero _), fun i hi => absurd hi (Nat.not_lt_zero _), fun h => absurd h (by simp), fun _ => rfl, fun h => absurd h (by simp), by simp, by simp⟩
theorem okC_nil {k : Nat} (h : k < 16) : okC k [] := ⟨fun z => by omega, fun z => by omega, fun z => by omega, fun z => by omega⟩
theorem hasK_f {nc k : Nat} {kd : Nat → Nat} (h : hasK nc kd k = false) : ∀ i, i < nc → kd i ≠ k := fun i hi e => by
  have := anyN_t (P := fun i => decide (kd i = k)) hi (by simp [e])
  rw [hasK] at h
  rw [h] at this; cases this
theorem hasK_t {nc k i : Nat} {kd : Nat → Nat} (hi : i < nc) (h : kd i = k) : hasK nc kd k = true := by
  rw [hasK]; exact anyN_t hi (by simp [h])
theorem hasK_up {nc t k : Nat} {kd : Nat → Nat} (h : hasK (nc + 1) (va_up kd nc t) k = false) : hasK nc kd k = false := by
  cases e : hasK nc kd k
  · rfl
  · exfalso
    have h1 : ¬ ∀ i, i < nc → kd i ≠ k := fun z => by
      have : hasK nc kd k = false := by
        rw [hasK]
        exact anyN_f (fun i hi => by simpa using z i hi)
      rw [this] at e; cases e
    refine h1 (fun i hi q => ?_)
    have := hasK_f h i (by omega)
    rw [va_up_ne _ _ (by omega)] at this
    exact this q
theorem gI_clause {t nc a : Nat} {kd : Nat → Nat} {cd : Nat → List Nat} {my ne : Int32} {S' : PS} (h : gI (4, [], nc, kd, cd, my, ne) a) (hg : gClause t nc kd cd my ne = (0, S')) : gI S' (a + 1) := by
  obtain ⟨h1, h2, h3, h4, h5, h6, h7, h8, h9, h10, h11, h12, h13⟩ := h
  dsimp only at h1 h2 h3 h4 h5 h6 h7 h8
  unfold gClause at hg
  split at hg
  · simp at hg
  · rename_i c1
    split at hg
    · simp at hg
    · rename_i c2
      split at hg
      · simp at hg
      · rename_i c3
        have hS := (Prod.mk.inj hg).2
        subst hS
        have hno : t ≤ 16 → ∀ i, i < nc → kd i ≠ t := fun ht => hasK_f (by
          cases e : hasK nc kd t
          · rfl
          · exact absurd ⟨ht, e⟩ c2)
        have hkt : ∀ i, i < nc + 1 → (i = nc ∧ va_up kd nc t i = t) ∨ (i < nc ∧ va_up kd nc t i = kd i) := fun i hi => by
          by_cases e : i = nc
          · subst e; exact Or.inl ⟨rfl, va_up_self _ _ _⟩
          · exact Or.inr ⟨by omega, va_up_ne _ _ e⟩
        have hct : ∀ i, i < nc → va_up cd nc [] i = cd i := fun i hi => va_up_ne _ _ (by omega)
        have hcn : va_up cd nc [] nc = [] := va_up_self _ _ _
        have hkn : va_up kd nc t nc = t := va_up_self _ _ _
        have htot : tot (va_up cd nc []) (nc + 1) = tot cd nc := by
          rw [tot_S, hcn, tot_cong (d := cd) (fun j hj => hct j hj)]; rfl
        refine ⟨by show nc + 1 ≤ 10; omega, ?_, ?_, ?_, ?_, ?_, ?_, ?_, ?_, ?_, ?_, ?_, ?_⟩
        · intro i hi
          rcases hkt i hi with ⟨-, e⟩ | ⟨q, e⟩
          · show 14 ≤ va_up kd nc t i ∧ va_up kd nc t i ≤ 20
            rw [e]; omega
          · show 14 ≤ va_up kd nc t i ∧ va_up kd nc t i ≤ 20
            rw [e]; exact h2 i q
        · show tot (va_up cd nc []) (nc + 1) + (flat (if t ≤ 15 then [] else if t = 16 then [(1, [])] else [(2, [])])).length ≤ a + 1
          rw [htot]
          have : (flat (if t ≤ 15 then [] else if t = 16 then [(1, [])] else [(2, [])])).length ≤ 1 := by
            split
            · exact Nat.zero_le _
            · split <;> simp [flat, opn]
          have h3' : tot cd nc + 0 ≤ a := h3
          omega
        · intro i hi j hj e he
          have e : va_up kd nc t i = va_up kd nc t j := e
          have he : va_up kd nc t i ≤ 16 := he
          rcases hkt i hi with ⟨q1, e1⟩ | ⟨q1, e1⟩ <;> rcases hkt j hj with ⟨q2, e2⟩ | ⟨q2, e2⟩
          · omega
          · rw [e1, e2] at e; rw [e1] at he; exact absurd e.symm (hno he j q2)
          · rw [e1, e2] at e; rw [e1] at he; exact absurd e (hno (by omega) i q1)
          · rw [e1, e2] at e; rw [e1] at he; exact h4 i q1 j q2 e he
        · intro z; exact h5 (hasK_up z)
        · intro z; exact h6 (hasK_up z)
        · intro i hi hk
          have hk : va_up kd nc t i < 16 := hk
          show va_up cd nc [] i = []
          rcases hkt i hi with ⟨q1, e1⟩ | ⟨q1, e1⟩
          · rw [q1, hcn]
          · rw [hct i q1]; rw [e1] at hk; exact h7 i q1 hk
        · intro i hi
          show (i + 1 = nc + 1 ∧ _) ∨ okC (va_up kd nc t i) (va_up cd nc [] i)
          rcases hkt i hi with ⟨q1, e1⟩ | ⟨q1, e1⟩
          · by_cases ht : t ≤ 15
            · refine Or.inr ?_
              rw [e1, q1, hcn]; exact okC_nil (by omega)
            · refine Or.inl ⟨by omega, ?_⟩
              show (if t ≤ 15 then 5 else if t = 16 then 1 else 0) ≤ 2
              rw [if_neg ht]; split <;> omega
          · rw [e1, hct i q1]
            exact Or.inr ((h8 i q1).resolve_left (fun z => by have := z.2; omega))
        · intro hp
          have hp : (if t ≤ 15 then 5 else if t = 16 then 1 else 0) ≤ 2 := hp
          have ht : ¬ t ≤ 15 := fun z => by rw [if_pos z] at hp; omega
          refine ⟨Nat.succ_pos _, ?_⟩
          show gC (if t ≤ 15 then 5 else if t = 16 then 1 else 0) (if t ≤ 15 then [] else if t = 16 then [(1, [])] else [(2, [])]) (va_up kd nc t (nc + 1 - 1)) (va_up cd nc [] (nc + 1 - 1))
          rw [show nc + 1 - 1 = nc from rfl, hkn, hcn, if_neg ht, if_neg ht]
          by_cases h16 : t = 16
          · rw [if_pos h16, if_pos h16]
            exact ⟨by omega, by omega, by simp [nO], fun x hx => by simp at hx, rfl, Or.inr (Or.inr ⟨rfl, Or.inr (Or.inr ⟨Or.inl rfl, Or.inl ⟨h16, rfl, rfl⟩⟩)⟩)⟩
          · rw [if_neg h16, if_neg h16]
            exact ⟨by omega, by omega, by simp [nO], fun x hx => by simp at hx, rfl, Or.inl ⟨rfl, h16, Or.inl ⟨rfl, rfl, Or.inl rfl⟩⟩⟩
        · intro hp
          have hp : 3 ≤ (if t ≤ 15 then 5 else if t = 16 then 1 else 0) := hp
          show (if t ≤ 15 then [] else if t = 16 then [(1, [])] else [(2, [])]) = ([] : LV)
          by_cases ht : t ≤ 15
          · rw [if_pos ht]
          · rw [if_neg ht] at hp; split at hp <;> omega
        · intro hp
          have hp : (if t ≤ 15 then 5 else if t = 16 then 1 else 0) = 5 := hp
          refine ⟨Nat.succ_pos _, ?_⟩
          show va_up kd nc t (nc + 1 - 1) ≤ 15
          rw [show nc + 1 - 1 = nc from rfl, hkn]
          by_cases ht : t ≤ 15
          · exact ht
          · rw [if_neg ht] at hp; split at hp <;> omega
        · show (if t ≤ 15 then 5 else if t = 16 then 1 else 0) ≤ 6
          split
          · omega
          · split <;> omega
        · show (if t ≤ 15 then 5 else if t = 16 then 1 else 0) ≠ 3
          split
          · omega
          · split <;> omega
theorem gI_number {t nc a : Nat} {kd : Nat → Nat} {cd : Nat → List Nat} {my ne : Int32} {S' : PS} (h : gI (5, [], nc, kd, cd, my, ne) a) (hg : gNumber t nc kd cd my ne = (0, S')) : gI S' (a + 1) := by
  obtain ⟨h1, h2, h3, h4, h5, h6, h7, h8, h9, h10, h11, h12, h13⟩ := h
  obtain ⟨k1, k2⟩ := h11 rfl
  have k1 : 0 < nc := k1
  unfold gNumber at hg
  split at hg
  · simp at hg
  · split at hg
    · simp at hg
    · have hS := (Prod.mk.inj hg).2
      subst hS
      refine ⟨h1, h2, Nat.le_succ_of_le h3, h4, fun z => ?_, fun z => ?_, h7, fun i hi => Or.inr ((h8 i hi).resolve_left (fun q => by have q2 : 5 ≤ 2 := q.2; omega)), fun z => absurd z (by simp), fun _ => rfl, fun z => absurd z (by simp), by simp, by simp⟩
      · show (if kd (nc - 1) = 14 then nI (t - 100) else my) = -1
        have := hasK_f z (nc - 1) (by show nc - 1 < nc; omega)
        rw [if_neg this]; exact h5 z
      · show (if kd (nc - 1) = 15 then nI (t - 100) else ne) = -1
        have := hasK_f z (nc - 1) (by show nc - 1 < nc; omega)
        rw [if_neg this]; exact h6 z
theorem gI_stop {t nc a : Nat} {kd : Nat → Nat} {cd : Nat → List Nat} {my ne : Int32} {S' : PS} (h : gI (6, [], nc, kd, cd, my, ne) a) (hg : gStop t nc kd cd my ne = (0, S')) : gI S' (a + 1) := by
  obtain ⟨h1, h2, h3, h4, h5, h6, h7, h8, h9, h10, h11, h12, h13⟩ := h
  have hS := (Prod.mk.inj hg).2
  subst hS
  exact ⟨h1, h2, Nat.le_succ_of_le h3, h4, h5, h6, h7, fun i hi => Or.inr ((h8 i hi).resolve_left (fun q => by have q2 : 6 ≤ 2 := q.2; omega)), fun z => absurd z (by simp), fun _ => rfl, fun z => absurd z (by simp), by simp, by simp⟩
theorem gI_cur {ph nc a : Nat} {G : LV} {kd : Nat → Nat} {cd : Nat → List Nat} {my ne : Int32} {S' : PS} (h : gI (ph, G, nc, kd, cd, my, ne) a) (hph : ph ≤ 2) {ph' : Nat} {G' : LV} {l : List Nat} (hS : S' = (ph', G', nc, kd, cdA cd nc l, my, ne)) (hor : (ph' ≤ 2 ∧ gC ph' G' (kd (nc - 1)) (cd (nc - 1) ++ l)) ∨ (ph' = 4 ∧ G' = [] ∧ okC (kd (nc - 1)) (cd (nc - 1) ++ l))) (hl : l.length + (flat G').length ≤ (flat G).length + 1) : gI S' (a + 1) := by
  obtain ⟨h1, h2, h3, h4, h5, h6, h7, h8, h9, h10, h11, h12, h13⟩ := h
  obtain ⟨h0, hC⟩ := h9 hph
  have h0 : 0 < nc := h0
  have hk16 : 16 ≤ kd (nc - 1) := hC.1
  subst hS
  have hca : cdA cd nc l (nc - 1) = cd (nc - 1) ++ l := cdA_at h0
  refine ⟨h1, h2, ?_, h4, h5, h6, ?_, ?_, ?_, ?_, ?_, ?_, ?_⟩
  · show tot (cdA cd nc l) nc + (flat G').length ≤ a + 1
    rw [tot_N h0]
    have h3 : tot cd nc + (flat G).length ≤ a := h3
    omega
  · intro i hi hk
    have hk : kd i < 16 := hk
    show cdA cd nc l i = []
    rw [cdA_ne (fun z => by rw [show i = nc - 1 by omega] at hk; omega)]
    exact h7 i hi hk
  · intro i hi
    show (i + 1 = nc ∧ ph' ≤ 2) ∨ okC (kd i) (cdA cd nc l i)
    by_cases e : i + 1 = nc
    · rcases hor with q | q
      · exact Or.inl ⟨e, q.1⟩
      · rw [show i = nc - 1 by omega, hca]; exact Or.inr q.2.2
    · rw [cdA_ne e]
      exact Or.inr ((h8 i hi).resolve_left (fun z => e z.1))
  · intro hp
    refine ⟨h0, ?_⟩
    show gC ph' G' (kd (nc - 1)) (cdA cd nc l (nc - 1))
    rw [hca]
    rcases hor with q | q
    · exact q.2
    · have hp : ph' ≤ 2 := hp; omega
  · intro hp
    have hp : 3 ≤ ph' := hp
    rcases hor with q | q
    · omega
    · exact q.2.1
  · intro hp
    have hp : ph' = 5 := hp
    rcases hor with q | q <;> omega
  · show ph' ≤ 6
    rcases hor with q | q <;> omega
  · show ph' ≠ 3
    rcases hor with q | q <;> omega
theorem gI_step {t a : Nat} {S S' : PS} (h : gI S a) (hg : gstep t S = (0, S')) : gI S' (a + 1) := by
  obtain ⟨ph, G, nc, kd, cd, my, ne⟩ := S
  have h10 : 3 ≤ ph → G = [] := h.2.2.2.2.2.2.2.2.2.1
  have h9 := h.2.2.2.2.2.2.2.2.1
  have h12 : ph ≤ 6 ∧ ph ≠ 3 := h.2.2.2.2.2.2.2.2.2.2.2
  simp only [gstep] at hg
  by_cases e4 : ph = 4
  · rw [if_pos e4] at hg
    subst e4
    obtain rfl := h10 (by omega)
    exact gI_clause h hg
  · rw [if_neg e4] at hg
    by_cases e5 : ph = 5
    · rw [if_pos e5] at hg
      subst e5
      obtain rfl := h10 (by omega)
      exact gI_number h hg
    · rw [if_neg e5] at hg
      by_cases e6 : ph = 6
      · rw [if_pos e6] at hg
        subst e6
        obtain rfl := h10 (by omega)
        exact gI_stop h hg
      · rw [if_neg e6] at hg
        have hph : ph ≤ 2 := by omega
        obtain ⟨h0, hC⟩ := h9 hph
        by_cases e2 : ph = 2
        · rw [if_pos e2] at hg
          subst e2
          obtain ⟨ph', G', l, hS, hor, hl⟩ := gOperator_ok hC hg
          exact gI_cur h hph hS hor hl
        · rw [if_neg e2] at hg
          obtain ⟨ph', G', l, hS, hp, hc, hl⟩ := gOperand_ok (by omega) hC hg
          exact gI_cur h hph hS (Or.inl ⟨hp, hc⟩) hl
theorem tok_le {b : Nat → Nat} {L s : Nat} (hL : L ≤ 300) (hb : ∀ k, k < L → b k < 256) : (tok b L s).1 ≤ 10100 := by
  unfold tok
  split
  · simp
  · split
    · have := wcU_lt (l := wdS b s (run isL b L s)) 21 (Nat.le_refl _)
      show wc _ ≤ 10100
      unfold wc; omega
    · split
      · have := numC_le (b := b) (s := s) (run isD b L s - s)
        show 100 + _ ≤ 10100
        omega
      · have := (sgn_lt (b s) (hb s (by omega))).1
        split
        · show sgn (b s) - 2 ≤ 10100; omega
        · show sgn (b s) ≤ 10100; omega
