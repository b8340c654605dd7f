/-! THE MODEL: paid, course -/
theorem farC_nat {ans less : Nat → Int32} {A T S0 D : Nat} {dl : Nat → Nat} (h : ¬ farC ans less A dl T S0 D = -1) : ∃ c, c ≤ D ∧ farC ans less A dl T S0 D = nI c := by
  by_cases e : dN (cF ans T A) S0 14 * dM (cF ans T A) S0 14 = 0 ∨ D = 0
  · exact absurd (by rw [farC, if_pos e]) h
  · exact ⟨_, cnt_le, by rw [farC, if_neg e]⟩
theorem lOf_has {keys : Nat → Int32} {S : Nat} : ∀ {k j : Nat}, j < k → bt S j = true → ∃ r, lOf keys S k = some r
  | 0, j, hj, _ => by omega
  | k + 1, j, hj, hb => by
    simp only [lOf]
    by_cases e : bt S k = true
    · rw [if_pos e]
      cases lOf keys S k with
      | none => exact ⟨_, rfl⟩
      | some r =>
        simp only []
        split
        · exact ⟨_, rfl⟩
        · exact ⟨_, rfl⟩
    · rw [if_neg e]
      exact lOf_has (by
        have : j ≠ k := fun z => e (z ▸ hb)
        omega) hb
theorem lOf_no {keys : Nat → Int32} {S k : Nat} (h : lOf keys S k = none) : ∀ j, j < k → bt S j = false := fun j hj => by
  cases e : bt S j
  · rfl
  · obtain ⟨r, hr⟩ := lOf_has (keys := keys) hj e
    rw [h] at hr; cases hr
theorem lOf_end {keys : Nat → Int32} {S n : Nat} (h : ∀ j, n ≤ j → bt S j = false) : ∀ m, lOf keys S (n + m) = lOf keys S n
  | 0 => rfl
  | m + 1 => by
    rw [← Nat.add_assoc, lOf, if_neg (by rw [h _ (by omega)]; decide)]
    exact lOf_end h m
theorem lOf_12 {keys : Nat → Int32} {S n : Nat} (h : ∀ j, n ≤ j → bt S j = false) (hn : n ≤ 12) : lOf keys S 12 = lOf keys S n := by
  have := lOf_end (keys := keys) h (12 - n)
  rwa [show n + (12 - n) = 12 by omega] at this
theorem pc_del {L r : Nat} (hr : bt L r = true) : ∀ k, (r < k → pc (sd L (2 ^ r)) k + 1 = pc L k) ∧ (k ≤ r → pc (sd L (2 ^ r)) k = pc L k)
  | 0 => ⟨fun h => by omega, fun _ => rfl⟩
  | k + 1 => by
    obtain ⟨h1, h2⟩ := pc_del hr k
    refine ⟨fun h => ?_, fun h => ?_⟩
    · simp only [pc, bt_sd, bt_pow]
      by_cases e : k = r
      · subst e
        rw [h2 (Nat.le_refl _), hr]
        simp
      · have := h1 (by omega)
        rw [decide_eq_false e, Bool.not_false, Bool.and_true]
        omega
    · simp only [pc, bt_sd, bt_pow]
      rw [h2 (by omega), decide_eq_false (by omega), Bool.not_false, Bool.and_true]
theorem pcb_N {P : Nat → Bool} {i : Nat} (hi : i < 14) : pc (bs P (i + 1)) 14 = pc (bs P i) 14 + (if P i = true then 1 else 0) := by
  rw [pc_N (bs_lt P (i + 1)) (by omega), pc_N (bs_lt P i) (by omega)]
  simp only [pc]
  rw [pc_cong (T := bs P i) (fun c hc => by rw [bt_bs, bt_bs, decide_eq_true (show c < i + 1 by omega), decide_eq_true hc]), bt_bs, decide_eq_true (Nat.lt_succ_self i), Bool.true_and]
theorem pcb_t {P : Nat → Bool} {i : Nat} (hi : i < 14) (h : P i = true) : pc (bs P (i + 1)) 14 = pc (bs P i) 14 + 1 := by rw [pcb_N hi, if_pos h]
theorem pcb_f {P : Nat → Bool} {i : Nat} (hi : i < 14) (h : P i = false) : pc (bs P (i + 1)) 14 = pc (bs P i) 14 := by rw [pcb_N hi, if_neg (by rw [h]; decide)]; rfl
theorem pc_none {S : Nat} : ∀ {k : Nat}, (∀ j, j < k → bt S j = false) → pc S k = 0
  | 0, _ => rfl
  | k + 1, h => by simp only [pc]; rw [pc_none (fun j hj => h j (by omega)), h k (by omega)]; rfl
/-- of like ages the lower number comes before -/
def lxB (K : Nat → Int32) (t u : Nat) : Bool := decide (K t < K u ∨ (K t = K u ∧ t < u))
theorem lxB_i {K : Nat → Int32} {t u : Nat} : lxB K t u = true ↔ ((K t).toInt < (K u).toInt ∨ ((K t).toInt = (K u).toInt ∧ t < u)) := by
  rw [lxB, decide_eq_true_eq, Int32.lt_iff_toInt_lt, Int32.toInt_inj]
theorem lOf_min {K : Nat → Int32} {S : Nat} : ∀ {k r : Nat}, lOf K S k = some r → ∀ j, j < k → bt S j = true → j ≠ r → lxB K r j = true
  | 0, r, h, j, hj, _, _ => by omega
  | k + 1, r, h, j, hj, hb, hne => by
    simp only [lOf] at h
    by_cases e : bt S k = true
    · rw [if_pos e] at h
      cases e2 : lOf K S k with
      | none =>
        rw [e2] at h
        simp only [Option.some.injEq] at h
        have := lOf_no e2 j (by omega)
        rw [this] at hb; cases hb
      | some r0 =>
        rw [e2] at h
        simp only [] at h
        have h0 := lOf_lt k r0 e2
        by_cases e3 : K k < K r0
        · rw [if_pos e3] at h
          obtain rfl : k = r := Option.some.inj h
          rw [Int32.lt_iff_toInt_lt] at e3
          by_cases e4 : j = r0
          · subst e4; exact lxB_i.mpr (Or.inl e3)
          · have := lxB_i.mp (lOf_min e2 j (by omega) hb e4)
            exact lxB_i.mpr (by omega)
        · rw [if_neg e3] at h
          obtain rfl : r0 = r := Option.some.inj h
          rw [Int32.lt_iff_toInt_lt] at e3
          by_cases e4 : j = k
          · subst e4; exact lxB_i.mpr (by omega)
          · exact lOf_min e2 j (by omega) hb hne
    · rw [if_neg e] at h
      exact lOf_min h j (by
        have : j ≠ k := fun z => e (z ▸ hb)
        omega) hb hne
theorem lf_bits {K : Nat → Int32} {W : Nat} (hW : W < 4096) : ∀ (i : Nat) {r : Nat}, lOf K (lfA K W i) 12 = some r → ∀ j, bt (lfA K W (i + 1)) j = (bt W j && lxB K r j)
  | 0, r, h, j => by
    simp only [lfA] at h ⊢
    rw [h]
    simp only [bt_sd, bt_pow]
    by_cases hb : bt W j = true
    · have hj : j < 12 := Nat.lt_of_not_le (fun z => by rw [bt_ge (k := 12) hW z] at hb; cases hb)
      by_cases e : j = r
      · subst e
        have : lxB K j j = false := by rw [Bool.eq_false_iff]; intro z; have := lxB_i.mp z; omega
        rw [this]; simp
      · rw [lOf_min h j hj hb e]; simp [e]
    · rw [Bool.eq_false_iff.mpr hb]; rfl
  | i + 1, r, h, j => by
    cases e1 : lOf K (lfA K W i) 12 with
    | none =>
      have e2 : lfA K W (i + 1) = lfA K W i := by simp only [lfA]; rw [e1]
      rw [e2, e1] at h; cases h
    | some r1 =>
      have ih := lf_bits hW i e1
      have e2 : lfA K W (i + 1 + 1) = sd (lfA K W (i + 1)) (2 ^ r) := by rw [lfA, h]
      rw [e2, bt_sd, bt_pow]
      have hr := lOf_bt 12 r h
      rw [ih, Bool.and_eq_true] at hr
      have hr1 := lxB_i.mp hr.2
      by_cases hb : bt (lfA K W (i + 1)) j = true
      · have hb' := hb
        rw [ih, Bool.and_eq_true] at hb'
        have hj : j < 12 := Nat.lt_of_not_le (fun z => by rw [bt_ge (k := 12) hW z] at hb'; cases hb'.1)
        rw [hb, hb'.1]
        by_cases e : j = r
        · subst e
          have : lxB K j j = false := by rw [Bool.eq_false_iff]; intro z; have := lxB_i.mp z; omega
          rw [this]; simp
        · rw [lOf_min h j hj hb e]; simp [e]
      · rw [Bool.eq_false_iff.mpr hb]
        cases e5 : (bt W j && lxB K r j)
        · rfl
        · rw [Bool.and_eq_true] at e5
          have h5 := lxB_i.mp e5.2
          exact absurd (by rw [ih, e5.1]; exact lxB_i.mpr (by omega)) hb
theorem lfA_pc {K : Nat → Int32} {W : Nat} (hW : W < 4096) : ∀ i, i ≤ pc W 14 → pc (lfA K W i) 14 = pc W 14 - i
  | 0, _ => rfl
  | i + 1, h => by
    have ih := lfA_pc (K := K) hW i (by omega)
    have hlt : lfA K W i < 4096 := Nat.lt_of_le_of_lt (lfA_le i) hW
    cases e1 : lOf K (lfA K W i) 12 with
    | none =>
      have := pc_none (S := lfA K W i) (k := 14) (fun j hj => by
        by_cases h12 : j < 12
        · exact lOf_no e1 j h12
        · exact bt_ge (k := 12) hlt (by omega))
      omega
    | some r =>
      have e2 : lfA K W (i + 1) = sd (lfA K W i) (2 ^ r) := by rw [lfA, e1]
      have := (pc_del (lOf_bt 12 r e1) 14).1 (by have := lOf_lt 12 r e1; omega)
      rw [e2]; omega
theorem lfA_end {K : Nat → Int32} {W i : Nat} (hW : W < 4096) (hi : i ≤ pc W 14) (h : lOf K (lfA K W i) 12 = none) : i = pc W 14 := by
  have hlt : lfA K W i < 4096 := Nat.lt_of_le_of_lt (lfA_le i) hW
  have h1 := pc_none (S := lfA K W i) (k := 14) (fun j hj => by
        by_cases h12 : j < 12
        · exact lOf_no h j h12
        · exact bt_ge (k := 12) hlt (by omega))
  have := lfA_pc (K := K) hW i hi
  omega
theorem lfA_some {K : Nat → Int32} {W i r : Nat} (hW : W < 4096) (hi : i ≤ pc W 14) (h : lOf K (lfA K W i) 12 = some r) : i < pc W 14 := by
  have := lfA_pc (K := K) hW i hi
  have := (pc_del (lOf_bt 12 r h) 14).1 (by have := lOf_lt 12 r h; omega)
  omega
def goN (P : Nat → Bool) (i : Nat) : Option Nat := fBeh (fun j => !P j) (lowO (bs P i)) i
def agN (P : Nat → Bool) (i : Nat) : Option Nat := fBeh P (goN P i) i
theorem fBeh_S {P : Nat → Bool} {p n : Nat} : fBeh P (some p) (n + 1) = (fBeh P (some p) n).or (if p < n ∧ P n = true then some n else none) := by
  simp only [fBeh]
  rw [List.range_succ, List.find?_append]
  congr 1
  simp only [List.find?_cons, List.find?_nil]
  by_cases h : p < n ∧ P n = true
  · rw [if_pos h]; simp [h.1, h.2]
  · rw [if_neg h]
    split
    · rename_i e
      simp only [Bool.and_eq_true, decide_eq_true_eq] at e
      exact absurd e h
    · rfl
theorem fBeh_cong {P Q : Nat → Bool} {p : Option Nat} {n : Nat} (h : ∀ j, j < n → P j = Q j) : fBeh P p n = fBeh Q p n := by
  cases p with
  | none => rfl
  | some p =>
    simp only [fBeh]
    induction n with
    | zero => rfl
    | succ n ih =>
      rw [List.range_succ, List.find?_append, List.find?_append, ih (fun j hj => h j (by omega))]
      congr 1
      simp only [List.find?_cons, List.find?_nil, h n (by omega)]
theorem bs_s0 {P : Nat → Bool} {i : Nat} (h : P i = false) : bs P (i + 1) = bs P i := by rw [bs, if_neg (by rw [h]; decide), Nat.or_zero]
theorem lowO_or {P : Nat → Bool} {i : Nat} (hi : i < 14) (h : P i = true) : lowO (bs P (i + 1)) = if bs P i = 0 then some i else lowO (bs P i) := by
  have hb : bt (bs P (i + 1)) i = true := by rw [bt_bs, h]; simp
  have hne : bs P (i + 1) ≠ 0 := fun z => by rw [z, bt_zero] at hb; cases hb
  obtain ⟨l1, l2, l3⟩ := lowN_spec 14 (bs P (i + 1)) hne (bs_14 P (by omega))
  rw [lowO, if_neg hne]
  by_cases e : bs P i = 0
  · rw [if_pos e]
    have : lowN 14 (bs P (i + 1)) = i := by
      have h1 : ¬ lowN 14 (bs P (i + 1)) < i := fun z => by
        have : bt (bs P i) (lowN 14 (bs P (i + 1))) = true := by
          rw [bt_bs] at l2 ⊢
          rw [Bool.and_eq_true] at l2
          rw [l2.2]; simp [z]
        rw [e, bt_zero] at this; cases this
      have h2 : ¬ i < lowN 14 (bs P (i + 1)) := fun z => by rw [l3 i z] at hb; cases hb
      omega
    rw [this]
  · rw [if_neg e, lowO, if_neg e]
    obtain ⟨m1, m2, m3⟩ := lowN_spec 14 (bs P i) e (bs_14 P (by omega))
    have m4 : lowN 14 (bs P i) < i := by
      rw [bt_bs, Bool.and_eq_true, decide_eq_true_eq] at m2; exact m2.1
    have h1 : ¬ lowN 14 (bs P (i + 1)) < lowN 14 (bs P i) := fun z => by
      have := m3 _ z
      rw [bt_bs] at this l2
      rw [Bool.and_eq_true] at l2
      rw [l2.2] at this
      simp at this
      omega
    have h2 : ¬ lowN 14 (bs P i) < lowN 14 (bs P (i + 1)) := fun z => by
      have := l3 _ z
      rw [bt_bs] at this m2
      rw [Bool.and_eq_true] at m2
      rw [m2.2] at this
      simp at this
      omega
    congr 1; omega
theorem lowO_0 : lowO 0 = none := rfl
theorem lowO_b {P : Nat → Bool} {i : Nat} (hi : i ≤ 14) (h : bs P i ≠ 0) : ∃ p, lowO (bs P i) = some p ∧ p < i := by
  obtain ⟨m1, m2, -⟩ := lowN_spec 14 (bs P i) h (bs_14 P hi)
  rw [bt_bs, Bool.and_eq_true, decide_eq_true_eq] at m2
  exact ⟨_, by rw [lowO, if_neg h], m2.1⟩
theorem go_lt {P : Nat → Bool} {i g : Nat} (h : goN P i = some g) : g < i := fBeh_lt h
theorem ag_lt {P : Nat → Bool} {i g : Nat} (h : agN P i = some g) : g < i := fBeh_lt h
theorem go_t {P : Nat → Bool} {i : Nat} (hi : i < 14) (h : P i = true) : goN P (i + 1) = goN P i := by
  unfold goN
  rw [lowO_or hi h]
  by_cases e : bs P i = 0
  · rw [if_pos e, e, lowO_0, fBeh_S, h]
    rw [if_neg (by simp)]
    simp only [Option.or_none]
    exact Option.eq_none_iff_forall_not_mem.mpr (fun x hx => by
      have hx : fBeh (fun j => !P j) (some i) i = some x := hx
      have h1 := fBeh_lt hx
      simp only [fBeh] at hx
      have := List.find?_some hx
      simp only [Bool.and_eq_true, decide_eq_true_eq] at this
      omega)
  · rw [if_neg e]
    obtain ⟨p, hp, hpi⟩ := lowO_b (Nat.le_of_lt hi) e
    rw [hp, fBeh_S, h]
    simp
theorem go_f0 {P : Nat → Bool} {i : Nat} (h : P i = false) (h0 : bs P i = 0) : goN P (i + 1) = goN P i := by
  unfold goN
  rw [bs_s0 h, h0, lowO_0]; rfl
theorem go_f1 {P : Nat → Bool} {i : Nat} (hi : i < 14) (h : P i = false) (h0 : bs P i ≠ 0) (hg : goN P i = none) : goN P (i + 1) = some i := by
  unfold goN at hg ⊢
  obtain ⟨p, hp, hpi⟩ := lowO_b (Nat.le_of_lt hi) h0
  rw [hp] at hg
  rw [bs_s0 h, hp, fBeh_S, hg, h]
  simp [hpi]
theorem go_f2 {P : Nat → Bool} {i g : Nat} (h : P i = false) (hg : goN P i = some g) : goN P (i + 1) = some g := by
  unfold goN at hg ⊢
  rw [bs_s0 h]
  cases e : lowO (bs P i) with
  | none => rw [e] at hg; cases hg
  | some p =>
    rw [e] at hg
    rw [fBeh_S, hg]; rfl
theorem ag_t1 {P : Nat → Bool} {i : Nat} (hi : i < 14) (h : P i = true) (hg : goN P i ≠ none) (ha : agN P i = none) : agN P (i + 1) = some i := by
  unfold agN at ha ⊢
  rw [go_t hi h]
  cases e : goN P i with
  | none => exact absurd e hg
  | some g =>
    rw [e] at ha
    rw [fBeh_S, ha, h]
    simp [go_lt e]
theorem ag_t2 {P : Nat → Bool} {i q : Nat} (hi : i < 14) (h : P i = true) (ha : agN P i = some q) : agN P (i + 1) = some q := by
  unfold agN at ha ⊢
  rw [go_t hi h]
  cases e : goN P i with
  | none => rw [e] at ha; cases ha
  | some g =>
    rw [e] at ha
    rw [fBeh_S, ha]; rfl
theorem ag_t0 {P : Nat → Bool} {i : Nat} (hi : i < 14) (h : P i = true) (hg : goN P i = none) : agN P (i + 1) = agN P i := by
  unfold agN
  rw [go_t hi h, hg]; rfl
theorem fBeh_ge {P : Nat → Bool} {i n : Nat} (h : n ≤ i + 1) : fBeh P (some i) n = none := by
  simp only [fBeh]
  exact rng_none (fun j hj => by rw [decide_eq_false (by omega)]; rfl)
theorem ag_f {P : Nat → Bool} {i : Nat} (hi : i < 14) (h : P i = false) : agN P (i + 1) = agN P i := by
  unfold agN
  cases e : goN P i with
  | some g =>
    rw [go_f2 h e, fBeh_S, h]
    simp
  | none =>
    by_cases h0 : bs P i = 0
    · rw [go_f0 h h0, e]; rfl
    · rw [go_f1 hi h h0 e, fBeh_ge (Nat.le_refl _)]; rfl
theorem coA_n {P : Nat → Bool} {m : Nat} {w : Int32} (hm : m ≤ 14) : coA (bs P m) m w = if w = 0 then nI (bs P m) else if w = 1 then oI (goN P m) else oI (agN P m) := by
  have hb : ∀ j, j < m → bt (bs P m) j = P j := fun j hj => by rw [bt_bs, decide_eq_true hj, Bool.true_and]
  have h1 : fBeh (fun i => !bt (bs P m) i) (lowO (bs P m)) m = goN P m := fBeh_cong (fun j hj => by rw [hb j hj])
  have h2 : fBeh (fun i => bt (bs P m) i) (goN P m) m = agN P m := fBeh_cong (fun j hj => hb j hj)
  rw [coA, h1, h2]

theorem s_X11_paid {h : AH} {N n S0 : Nat} {ca : Nat → Nat → Nat} {a : Nat → Int32} {ans less : Nat → Int32} {mtp mfl mfa mln mat mtk mso mto mwr mwp mop mfs mws mst mnc mnk mnr mdn : Int32} {mup mlo mgu mgl : Int64} {tp nc tcn : Nat} {kd : Nat → Nat} {cd : Nat → List Nat} {many near : Int32} {dl0 : Nat → Int32} {S : Nat} {t : Int32} {fars0 : Nat → Int32} (H_md : Hs h 66 (oMd mtp mfl mfa mup mlo mln mat mtk mso mto mwr mwp mop mfs mws mst mnc mnk mnr mdn mgu mgl)) (H_a : Hs h 67 (aI 380 a)) (ha0 : a 0 = nI N) (hN : N ≤ 14) (hca : ∀ c k, c < N → k < 4 → ca c k ≤ 99) (hca4 : ∀ c k, c < N → k < 4 → a (10 + 5 * c + k) = nI (ca c k)) (ha1 : a 1 = nI n) (hn : n ≤ 12) (hbits : bitsOf (fun c => a (80 + c)) N = nI S0) (hS0 : S0 < 2 ^ N) (hV : ∀ t, t < 12 → ∀ c, c < 14 → ans (t * 14 + c) = -1 ∨ ∃ v, v ≤ 99 ∧ ans (t * 14 + c) = nI v) (hVm : ∀ t, t < n → ∀ c, c < N → a (150 + 14 * t + c) = -1 ∨ ∃ v, v ≤ 99 ∧ a (150 + 14 * t + c) = nI v) (R : ∀ t, t < n → mAn a ans less N t (2 ^ N - 1) 2) (ha2 : a 2 = nI tcn) (htp : tp < tcn) (htc : tcn ≤ 6) (hT0 : TxM h tp nc kd cd many near) (hok : okT nc kd cd) (hR0 : MdR h) (H_mdl : Hs h 87 (aI 16384 dl0)) (H_mfa : Hs h 90 (aI 12 fars0)) (hS : S < 2 ^ n) (ht1 : 1 ≤ t ∧ t ≤ 1000) : Sp M_X11_paid (0, 0) h [.ref 66, .int (nI tp), .int (nI S), .int t] (rI (fun x h' => x = nI (paidA (fun j => farC ans less (2 ^ N - 1) (dlF (DLs ca N nc kd cd many near)) j S0 (DLs ca N nc kd cd many near).length) t (DLs ca N nc kd cd many near).length (pc (bs (fun t => bt S t && decide (farC ans less (2 ^ N - 1) (dlF (DLs ca N nc kd cd many near)) t S0 (DLs ca N nc kd cd many near).length ≠ -1)) n) 14) (bs (fun t => bt S t && decide (farC ans less (2 ^ N - 1) (dlF (DLs ca N nc kd cd many near)) t S0 (DLs ca N nc kd cd many near).length ≠ -1)) n) 0) ∧ MdO h' mtp mfl mfa ∧ (∃ dl : Nat → Int32, Hs h' 87 (aI 16384 dl)) ∧ MdR h' ∧ (∃ fs : Nat → Int32, Hs h' 90 (aI 12 fs)) ∧ Fr (90 :: FSm) h h')) := by
  refine ⟨Nat.le_of_ble_eq_true rfl, ?_⟩
  show E _ _ _ 0 h [some (.ref 66), some (.int (nI tp)), some (.int (nI S)), some (.int t), none, none, none, none, none] []
  have hS1 : S0 < 16384 := Nat.lt_of_lt_of_le hS0 (pw_31 N hN)
  obtain ⟨⟨⟨nms0, H_mnm⟩, pi0, H_mpi⟩, ⟨wi0, H_mwi⟩, wo0, H_mwo⟩ := id hR0
  have hS12 := p12 hS hn
  have hp12 := pw_31 n (by omega)
  refine e_aloadn d_X11_paid_0 rfl ?_
  refine e_iloadn d_X11_paid_1 rfl ?_
  refine e_callVI d_X11_paid_2 l_X11_paid_356 H_md rfl rfl (s_X11_isText H_md H_a) rfl rfl (Nat.le_of_ble_eq_true rfl) ?_
  refine e_if_eq d_X11_paid_5 (fun z => by first | exact absurd (fun z => bI_0.mp z ⟨(nI_leI (a := 0) (by decide) (by omega)).mpr (by omega), by rw [ha2, nI_le1 (by omega)]; exact (nI_leI (by omega) (by omega)).mpr (by omega)⟩) z | exact absurd z (fun z => bI_0.mp z ⟨(nI_leI (a := 0) (by decide) (by omega)).mpr (by omega), by rw [ha2, nI_le1 (by omega)]; exact (nI_leI (by omega) (by omega)).mpr (by omega)⟩)) (fun _ => ?_)
  refine e_iloadn d_X11_paid_8 rfl ?_
  refine e_if_lt d_X11_paid_9 (fun z => by first | exact absurd (fun z => absurd z (Int32.not_lt.mpr ((nI_leI (a := 0) (by decide) (by omega)).mpr (Nat.zero_le _)))) z | exact absurd z (fun z => absurd z (Int32.not_lt.mpr ((nI_leI (a := 0) (by decide) (by omega)).mpr (Nat.zero_le _))))) (fun _ => ?_)
  refine e_iloadn d_X11_paid_12 rfl ?_
  refine e_iconst (v := 1) d_X11_paid_13 (by decide) ?_
  refine e_aloadn d_X11_paid_14 rfl ?_
  refine e_get d_X11_paid_15 f_X11_7 H_md rfl ?_
  refine e_iconst (v := 1) d_X11_paid_18 (by decide) ?_
  refine e_ialdN (k := 1) d_X11_paid_19 H_a rfl (by decide) (by decide) ?_
  rw [ha1]
  refine e_ishl d_X11_paid_20 ?_
  rw [pw14 n (by omega)]
  refine e_icmp_ge d_X11_paid_21 (fun z => by first | exact absurd (fun z => absurd (i_le (by omega) (by omega) z) (by omega)) z | exact absurd z (fun z => absurd (i_le (by omega) (by omega) z) (by omega))) (fun _ => ?_)
  refine e_iloadn d_X11_paid_24 rfl ?_
  refine e_iconst (v := 1) d_X11_paid_25 (by decide) ?_
  refine e_sipush (v := 1000) d_X11_paid_26 (by decide) ?_
  refine e_callSI d_X11_paid_29 l_X11_paid_101 (s_X11_in) rfl rfl (Nat.le_of_ble_eq_true rfl) ?_
  refine e_if_ne d_X11_paid_32 (fun _ => ?_) (fun z => by first | exact absurd (fun z => bI_0.mp z ht1) z | exact absurd z (fun z => bI_0.mp z ht1))
  refine e_aloadn d_X11_paid_37 rfl ?_
  refine e_iloadn d_X11_paid_38 rfl ?_
  have hLq := DL_len (fit := fitB ca N nc kd cd many near) (over := ovN ca N nc kd cd) (2 ^ N)
  have hLp := pw_31 N hN
  have hL8 : (DLs ca N nc kd cd many near).length ≤ 16384 := Nat.le_trans hLq hLp
  have hL9 : ∀ x, x ∈ (DLs ca N nc kd cd many near) → x < 16384 := fun x hx => Nat.lt_of_lt_of_le (DL_lt x hx) hLp
  refine e_callRVV d_X11_paid_39 l_X11_paid_359 H_md rfl rfl (s_X11_laysDeals H_md H_a ha0 hN hca hca4 hT0 hok H_mnm H_mpi H_mwi H_mwo H_mdl) rfl rfl (Nat.le_of_ble_eq_true rfl) (fun h_39 q_39 s_39 => ?_)
  obtain ⟨H_md, ⟨dl, H_mdl, hRw⟩, hR9, fq⟩ := q_39
  have H_a := fq.hs H_a (by first | decide | (simp; omega))
  have H_mfa := fq.hs H_mfa (by first | decide | (simp; omega))
  have G_a := H_a
  have G_mdl := H_mdl
  refine e_iconst (v := 0) d_X11_paid_42 (by decide) ?_
  refine e_istore d_X11_paid_43 (by decide) rfl ?_
  refine e_iconst (v := 0) d_X11_paid_45 (by decide) ?_
  refine e_istore d_X11_paid_46 (by decide) rfl ?_
  have hA_48 : ∀ i, i ≤ n → ∀ (k : AH) (F : Unit) (M : Unit) (G : Unit) (c : Int32) (y : Int32), (Fr [66, 90] h_39 k) → (∃ up9 lo9 : Int64, Hs k 66 (oMd mtp mfl mfa up9 lo9 mln mat mtk mso mto mwr mwp mop mfs mws mst mnc mnk mnr (nI (DLs ca N nc kd cd many near).length) mgu mgl)) → (∃ fs : Nat → Int32, Hs k 90 (aI 12 fs) ∧ ∀ j, j < i → fs j = (if bt S j = true then (fun j => farC ans less (2 ^ N - 1) (dlF (DLs ca N nc kd cd many near)) j S0 (DLs ca N nc kd cd many near).length) j else -1)) → (c = nI (pc (bs (fun t => bt S t && decide (farC ans less (2 ^ N - 1) (dlF (DLs ca N nc kd cd many near)) t S0 (DLs ca N nc kd cd many near).length ≠ -1)) i) 14)) → (y = nI i) → E M_X11_paid (0, 0) (rI (fun x h' => x = nI (paidA (fun j => farC ans less (2 ^ N - 1) (dlF (DLs ca N nc kd cd many near)) j S0 (DLs ca N nc kd cd many near).length) t (DLs ca N nc kd cd many near).length (pc (bs (fun t => bt S t && decide (farC ans less (2 ^ N - 1) (dlF (DLs ca N nc kd cd many near)) t S0 (DLs ca N nc kd cd many near).length ≠ -1)) n) 14) (bs (fun t => bt S t && decide (farC ans less (2 ^ N - 1) (dlF (DLs ca N nc kd cd many near)) t S0 (DLs ca N nc kd cd many near).length ≠ -1)) n) 0) ∧ MdO h' mtp mfl mfa ∧ (∃ dl : Nat → Int32, Hs h' 87 (aI 16384 dl)) ∧ MdR h' ∧ (∃ fs : Nat → Int32, Hs h' 90 (aI 12 fs)) ∧ Fr (90 :: FSm) h h')) 48 (k) [some (.ref 66), some (.int (nI tp)), some (.int (nI S)), some (.int t), some (.int c), some (.int y), none, none, none] [] := by
    refine loop_ind (n := n) ?_
    intro i hi_i ih_48 k F M G c y h_F h_M h_G h_c h_y
    subst h_y
    obtain ⟨up9, lo9, H_md⟩ := id h_M
    have H_a := h_F.hs G_a (by decide)
    have H_mdl := h_F.hs G_mdl (by decide)
    obtain ⟨fs, H_mfa, hfs⟩ := id h_G
    refine e_iload d_X11_paid_48 rfl ?_
    refine e_aloadn d_X11_paid_50 rfl ?_
    refine e_get d_X11_paid_51 f_X11_7 H_md rfl ?_
    refine e_iconst (v := 1) d_X11_paid_54 (by decide) ?_
    refine e_ialdN (k := 1) d_X11_paid_55 H_a rfl (by decide) (by decide) ?_
    rw [ha1]
    refine e_icmp_ge d_X11_paid_56 (fun c => ?_) (fun c => ?_)
    · have c := i_le (by omega) (by omega) c
      obtain rfl : n = i := by omega
      generalize hW : (bs (fun t => bt S t && decide (farC ans less (2 ^ N - 1) (dlF (DLs ca N nc kd cd many near)) t S0 (DLs ca N nc kd cd many near).length ≠ -1)) n) = W
      have hWb : ∀ j, bt W j = (decide (j < n) && (bt S j && decide ((fun j => farC ans less (2 ^ N - 1) (dlF (DLs ca N nc kd cd many near)) j S0 (DLs ca N nc kd cd many near).length) j ≠ -1))) := fun j => by rw [← hW, bt_bs]
      have hWe : ∀ j, n ≤ j → bt W j = false := fun j hj => by rw [hWb, decide_eq_false (by omega)]; rfl
      have hpcW := pc_le W 14
      have hWs : ∀ j, bt W j = true → j < n ∧ fs j = (fun j => farC ans less (2 ^ N - 1) (dlF (DLs ca N nc kd cd many near)) j S0 (DLs ca N nc kd cd many near).length) j ∧ fs j ≠ -1 := fun j hj => by
        rw [hWb, Bool.and_eq_true, Bool.and_eq_true, decide_eq_true_eq, decide_eq_true_eq] at hj
        have := hfs j hj.1
        rw [if_pos hj.2.1] at this
        exact ⟨hj.1, this, by rw [this]; exact hj.2.2⟩
      have hWc : ∀ j, j < n → fs j ≠ -1 → bt W j = true := fun j hj h9 => by
        rw [hWb, Bool.and_eq_true, Bool.and_eq_true, decide_eq_true_eq, decide_eq_true_eq]
        have := hfs j hj
        by_cases hb9 : bt S j = true
        · rw [if_pos hb9] at this
          exact ⟨hj, hb9, by rw [← this]; exact h9⟩
        · rw [if_neg hb9] at this
          exact absurd this h9
      rw [h_c, hW]
      refine e_iconst (v := 0) d_X11_paid_117 (by decide) ?_
      refine e_istore d_X11_paid_118 (by decide) rfl ?_
      refine e_iconst (v := 0) d_X11_paid_120 (by decide) ?_
      refine e_istore d_X11_paid_121 (by decide) rfl ?_
      have hA_123 : ∀ m, m ≤ (pc W 14) → ∀ (L : Nat) (q : Nat) (e : Unit) (u : Unit) (p : Unit) (x : Unit) (z : Int32), (paidA (fun j => farC ans less (2 ^ N - 1) (dlF (DLs ca N nc kd cd many near)) j S0 (DLs ca N nc kd cd many near).length) t (DLs ca N nc kd cd many near).length (pc W 14 - m) L q = paidA (fun j => farC ans less (2 ^ N - 1) (dlF (DLs ca N nc kd cd many near)) j S0 (DLs ca N nc kd cd many near).length) t (DLs ca N nc kd cd many near).length (pc W 14) W 0) → (∀ j, bt L j = (bt W j && !bt q j)) → (pc L 14 = pc W 14 - m) → (q < 16384) → (z = nI m) → E M_X11_paid (0, 0) (rI (fun x h' => x = nI (paidA (fun j => farC ans less (2 ^ N - 1) (dlF (DLs ca N nc kd cd many near)) j S0 (DLs ca N nc kd cd many near).length) t (DLs ca N nc kd cd many near).length (pc W 14) W 0) ∧ MdO h' mtp mfl mfa ∧ (∃ dl : Nat → Int32, Hs h' 87 (aI 16384 dl)) ∧ MdR h' ∧ (∃ fs : Nat → Int32, Hs h' 90 (aI 12 fs)) ∧ Fr (90 :: FSm) h h')) 123 (k) [some (.ref 66), some (.int (nI tp)), some (.int (nI S)), some (.int t), some (.int (nI (pc W 14))), some (.int (nI q)), some (.int z), none, none] [] := by
        refine loop_ind (n := (pc W 14)) ?_
        intro m hi_m ih_123 L q e u p x z h_e h_u h_p h_x h_z
        subst h_z
        have hLn : ∀ j, n ≤ j → bt L j = false := fun j hj => by rw [h_u, hWe j hj]; rfl
        refine e_iload d_X11_paid_123 rfl ?_
        refine e_iload d_X11_paid_125 rfl ?_
        refine e_icmp_ge d_X11_paid_127 (fun cm => ?_) (fun cm => ?_)
        · have cm := i_le (by omega) (by omega) cm
          have hfin : q = paidA (fun j => farC ans less (2 ^ N - 1) (dlF (DLs ca N nc kd cd many near)) j S0 (DLs ca N nc kd cd many near).length) t (DLs ca N nc kd cd many near).length (pc W 14) W 0 := by rw [← h_e, show pc W 14 - m = 0 by omega]; rfl
          refine e_iload d_X11_paid_245 rfl ?_
          exact e_iret d_X11_paid_247 rfl (rfl) (⟨_, rfl, by rw [hfin], ⟨_, _, _, _, _, _, _, _, _, _, _, _, _, _, _, _, _, _, _, H_md⟩, ⟨dl, H_mdl⟩, MdR.fr hR9 h_F (by decide), ⟨fs, H_mfa⟩, ((fq.mono (by decide)).trans (h_F.mono (by decide)))⟩)
        · have cm := i_nle (by omega) (by omega) cm
          refine e_iconst (v := -1) d_X11_paid_130 (by decide) ?_
          refine e_istore d_X11_paid_131 (by decide) rfl ?_
          refine e_iconst (v := 0) d_X11_paid_133 (by decide) ?_
          refine e_istore d_X11_paid_134 (by decide) rfl ?_
          have hA_136 : ∀ j, j ≤ n → ∀ (b : Int32) (y2 : Int32), (b = oI (lOf fs L j)) → (y2 = nI j) → E M_X11_paid (0, 0) (rI (fun x h' => x = nI (paidA (fun j => farC ans less (2 ^ N - 1) (dlF (DLs ca N nc kd cd many near)) j S0 (DLs ca N nc kd cd many near).length) t (DLs ca N nc kd cd many near).length (pc W 14) W 0) ∧ MdO h' mtp mfl mfa ∧ (∃ dl : Nat → Int32, Hs h' 87 (aI 16384 dl)) ∧ MdR h' ∧ (∃ fs : Nat → Int32, Hs h' 90 (aI 12 fs)) ∧ Fr (90 :: FSm) h h')) 136 (k) [some (.ref 66), some (.int (nI tp)), some (.int (nI S)), some (.int t), some (.int (nI (pc W 14))), some (.int (nI q)), some (.int (nI m)), some (.int b), some (.int y2)] [] := by
            refine loop_ind (n := n) ?_
            intro j hi_j ih_136 b y2 h_b h_y2
            subst h_y2
            subst h_b
            refine e_iload d_X11_paid_136 rfl ?_
            refine e_aloadn d_X11_paid_138 rfl ?_
            refine e_get d_X11_paid_139 f_X11_7 H_md rfl ?_
            refine e_iconst (v := 1) d_X11_paid_142 (by decide) ?_
            refine e_ialdN (k := 1) d_X11_paid_143 H_a rfl (by decide) (by decide) ?_
            rw [ha1]
            refine e_icmp_ge d_X11_paid_144 (fun cj => ?_) (fun cj => ?_)
            · have cj := i_le (by omega) (by omega) cj
              obtain rfl : n = j := by omega
              obtain ⟨r, hlo⟩ : ∃ r, lOf fs L n = some r := by
                cases e9 : lOf fs L n with
                | some r => exact ⟨r, rfl⟩
                | none =>
                  have := pc_none (S := L) (k := 14) (fun j hj => by
                    by_cases h12 : j < n
                    · exact lOf_no e9 j h12
                    · exact hLn j (by omega))
                  omega
              have hrn := lOf_lt n r hlo
              have hrb := lOf_bt n r hlo
              have hrW : bt W r = true := by
                have := hrb
                rw [h_u, Bool.and_eq_true] at this
                exact this.1
              have hlG : lOf (fun j => farC ans less (2 ^ N - 1) (dlF (DLs ca N nc kd cd many near)) j S0 (DLs ca N nc kd cd many near).length) L 12 = some r := by
                rw [lOf_12 hLn hn, ← hlo]
                exact lOf_cong (fun j hj hb => by
                  rw [h_u, Bool.and_eq_true] at hb
                  exact (hWs j hb.1).2.1.symm)
              obtain ⟨hrf1, hrf2⟩ := (hWs r hrW).2
              obtain ⟨gc, hgc, hge⟩ := farC_nat (ans := ans) (less := less) (A := 2 ^ N - 1) (T := r) (S0 := S0) (dl := dlF (DLs ca N nc kd cd many near)) (D := (DLs ca N nc kd cd many near).length) (fun z => hrf2 (by rw [hrf1]; exact z))
              rw [hlo, show oI (some r) = nI r from rfl]
              refine e_aloadn d_X11_paid_201 rfl ?_
              refine e_get d_X11_paid_202 f_X11_88 H_md rfl ?_
              refine e_iload d_X11_paid_205 rfl ?_
              refine e_ialdN (k := r) d_X11_paid_207 H_mfa rfl (by omega) (by omega) ?_
              rw [hrf1]
              refine e_iload d_X11_paid_208 rfl ?_
              refine e_iload d_X11_paid_210 rfl ?_
              refine e_isub d_X11_paid_212 ?_
              rw [nI_subN (by omega)]
              refine e_imul d_X11_paid_213 ?_
              refine e_sipush (v := 1000) d_X11_paid_214 (by decide) ?_
              refine e_imul d_X11_paid_217 ?_
              refine e_iloadn d_X11_paid_218 rfl ?_
              refine e_aloadn d_X11_paid_219 rfl ?_
              refine e_get d_X11_paid_220 f_X11_343 H_md rfl ?_
              refine e_imul d_X11_paid_223 ?_
              refine e_icmp_le d_X11_paid_224 (fun c224 => ?_) (fun c224 => ?_)
              · have hst : stC ((fun j => farC ans less (2 ^ N - 1) (dlF (DLs ca N nc kd cd many near)) j S0 (DLs ca N nc kd cd many near).length) r * nI (pc W 14 - m)) t (DLs ca N nc kd cd many near).length = true := by
                  rw [stC, decide_eq_true_eq]
                  refine ⟨?_, c224⟩
                  simp only []
                  rw [hge, pk_mul]
                  have := Nat.mul_le_mul (Nat.le_trans hgc hL8) (show pc W 14 - m ≤ 14 by omega)
                  exact nI_neg1 (by omega)
                refine e_iload d_X11_paid_230 rfl ?_
                refine e_iconst (v := 1) d_X11_paid_232 (by decide) ?_
                refine e_iload d_X11_paid_233 rfl ?_
                refine e_ishl d_X11_paid_235 ?_
                rw [pw14 r (by omega)]
                refine e_ior d_X11_paid_236 ?_
                rw [nI_or]
                refine e_istore d_X11_paid_237 (by decide) rfl ?_
                refine e_iincw (w := 1) d_X11_paid_239 rfl (by decide) (by decide) rfl ?_
                refine e_gt d_X11_paid_242 ?_
                refine e_drop1 7 ?_
                refine e_drop1 8 ?_
                refine ih_123 (m + 1) (by omega) (by omega) (sd L (2 ^ r)) (q ||| 2 ^ r) () () () () _ ?_ ?_ ?_ ?_ ?_
                · rw [← h_e, show pc W 14 - m = pc W 14 - (m + 1) + 1 by omega, paidA, hlG]
                  simp only []
                  rw [show pc W 14 - (m + 1) + 1 = pc W 14 - m by omega, if_pos hst]
                · intro j
                  rw [bt_sd, bt_or, h_u]
                  cases bt W j <;> cases bt q j <;> rfl
                · have := (pc_del hrb 14).1 (by omega)
                  omega
                · exact Nat.or_lt_two_pow (n := 14) h_x (Nat.pow_lt_pow_right (by decide) (by omega))
                · exact nI_1 m
              · have hst : ¬ stC ((fun j => farC ans less (2 ^ N - 1) (dlF (DLs ca N nc kd cd many near)) j S0 (DLs ca N nc kd cd many near).length) r * nI (pc W 14 - m)) t (DLs ca N nc kd cd many near).length = true := by
                  rw [stC, decide_eq_true_eq]
                  exact fun z => c224 z.2
                have hfin : q = paidA (fun j => farC ans less (2 ^ N - 1) (dlF (DLs ca N nc kd cd many near)) j S0 (DLs ca N nc kd cd many near).length) t (DLs ca N nc kd cd many near).length (pc W 14) W 0 := by
                  rw [← h_e, show pc W 14 - m = pc W 14 - (m + 1) + 1 by omega, paidA, hlG]
                  simp only []
                  rw [show pc W 14 - (m + 1) + 1 = pc W 14 - m by omega, if_neg hst]
                refine e_iload d_X11_paid_227 rfl ?_
                exact e_iret d_X11_paid_229 rfl (rfl) (⟨_, rfl, by rw [hfin], ⟨_, _, _, _, _, _, _, _, _, _, _, _, _, _, _, _, _, _, _, H_md⟩, ⟨dl, H_mdl⟩, MdR.fr hR9 h_F (by decide), ⟨fs, H_mfa⟩, ((fq.mono (by decide)).trans (h_F.mono (by decide)))⟩)
            · have cj := i_nle (by omega) (by omega) cj
              refine e_aloadn d_X11_paid_147 rfl ?_
              refine e_get d_X11_paid_148 f_X11_88 H_md rfl ?_
              refine e_iload d_X11_paid_151 rfl ?_
              refine e_ialdN (k := j) d_X11_paid_153 H_mfa rfl (by omega) (by omega) ?_
              refine e_iconst (v := -1) d_X11_paid_154 (by decide) ?_
              refine e_icmp_eq d_X11_paid_155 (fun c155 => ?_) (fun c155 => ?_)
              · have hLj : bt L j = false := Bool.eq_false_iff.mpr (fun z => by
                  rw [h_u, Bool.and_eq_true] at z
                  exact (hWs j z.1).2.2 c155)
                have hB : oI (lOf fs L j) = oI (lOf fs L (j + 1)) := by rw [lOf, if_neg (by rw [hLj]; decide)]
                refine e_iincw (w := 1) d_X11_paid_195 rfl (by decide) (by decide) rfl ?_
                refine e_gt d_X11_paid_198 ?_
                refine ih_136 (j + 1) (by omega) (by omega) _ _ ?_ ?_
                · exact hB
                · exact nI_1 j
              · refine e_iload d_X11_paid_158 rfl ?_
                refine e_iload d_X11_paid_160 rfl ?_
                refine e_ishr d_X11_paid_162 ?_
                refine e_iconst (v := 1) d_X11_paid_163 (by decide) ?_
                refine e_iand d_X11_paid_164 ?_
                rw [bitAt (by omega) (by omega)]
                refine e_if_ne d_X11_paid_165 (fun c165 => ?_) (fun c165 => ?_)
                · have hqj : bt q j = true := by
                    have := Nat.mod_two_eq_zero_or_one (q / 2 ^ j)
                    rcases this with e9 | e9
                    · exact absurd (by rw [e9]; rfl) c165
                    · rw [bt, e9]; rfl
                  have hLj : bt L j = false := by rw [h_u, hqj]; simp
                  have hB : oI (lOf fs L j) = oI (lOf fs L (j + 1)) := by rw [lOf, if_neg (by rw [hLj]; decide)]
                  refine e_iincw (w := 1) d_X11_paid_195 rfl (by decide) (by decide) rfl ?_
                  refine e_gt d_X11_paid_198 ?_
                  refine ih_136 (j + 1) (by omega) (by omega) _ _ ?_ ?_
                  · exact hB
                  · exact nI_1 j
                · have hqj : bt q j = false := by
                    have := (nI_eq (b := 0) (by omega) (by decide)).mp c165
                    rw [bt, this]; rfl
                  have hLj : bt L j = true := by rw [h_u, hqj, hWc j cj c155]; rfl
                  refine e_iload d_X11_paid_168 rfl ?_
                  refine e_iconst (v := -1) d_X11_paid_170 (by decide) ?_
                  refine e_icmp_eq d_X11_paid_171 (fun c171 => ?_) (fun c171 => ?_)
                  · have hno := oI_none c171 (lOf_lt j) (by omega)
                    have hB : nI j = oI (lOf fs L (j + 1)) := by rw [lOf, if_pos hLj, hno]; rfl
                    refine e_iload d_X11_paid_191 rfl ?_
                    refine e_istore d_X11_paid_193 (by decide) rfl ?_
                    refine e_iincw (w := 1) d_X11_paid_195 rfl (by decide) (by decide) rfl ?_
                    refine e_gt d_X11_paid_198 ?_
                    refine ih_136 (j + 1) (by omega) (by omega) _ _ ?_ ?_
                    · exact hB
                    · exact nI_1 j
                  · obtain ⟨r, hlo⟩ := oI_some c171
                    have hrj := lOf_lt j r hlo
                    rw [hlo, show oI (some r) = nI r from rfl]
                    refine e_aloadn d_X11_paid_174 rfl ?_
                    refine e_get d_X11_paid_175 f_X11_88 H_md rfl ?_
                    refine e_iload d_X11_paid_178 rfl ?_
                    refine e_ialdN (k := j) d_X11_paid_180 H_mfa rfl (by omega) (by omega) ?_
                    refine e_aloadn d_X11_paid_181 rfl ?_
                    refine e_get d_X11_paid_182 f_X11_88 H_md rfl ?_
                    refine e_iload d_X11_paid_185 rfl ?_
                    refine e_ialdN (k := r) d_X11_paid_187 H_mfa rfl (by omega) (by omega) ?_
                    refine e_icmp_ge d_X11_paid_188 (fun c188 => ?_) (fun c188 => ?_)
                    · have hB : nI r = oI (lOf fs L (j + 1)) := by
                        rw [lOf, if_pos hLj, hlo]
                        simp only []
                        rw [if_neg (Int32.not_lt.mpr c188)]; rfl
                      refine e_iincw (w := 1) d_X11_paid_195 rfl (by decide) (by decide) rfl ?_
                      refine e_gt d_X11_paid_198 ?_
                      refine ih_136 (j + 1) (by omega) (by omega) _ _ ?_ ?_
                      · exact hB
                      · exact nI_1 j
                    · have hB : nI j = oI (lOf fs L (j + 1)) := by
                        rw [lOf, if_pos hLj, hlo]
                        simp only []
                        rw [if_pos (Int32.not_le.mp c188)]; rfl
                      refine e_iload d_X11_paid_191 rfl ?_
                      refine e_istore d_X11_paid_193 (by decide) rfl ?_
                      refine e_iincw (w := 1) d_X11_paid_195 rfl (by decide) (by decide) rfl ?_
                      refine e_gt d_X11_paid_198 ?_
                      refine ih_136 (j + 1) (by omega) (by omega) _ _ ?_ ?_
                      · exact hB
                      · exact nI_1 j
          exact hA_136 0 (by omega) _ _ (rfl) (rfl)
      exact hA_123 0 (by omega) W 0 () () () () _ (rfl) (fun j => by rw [bt_zero]; simp) (by rw [Nat.sub_zero]) (by decide) (rfl)
    · have c := i_nle (by omega) (by omega) c
      refine e_aloadn d_X11_paid_59 rfl ?_
      refine e_get d_X11_paid_60 f_X11_88 H_md rfl ?_
      refine e_iload d_X11_paid_63 rfl ?_
      refine e_iloadn d_X11_paid_65 rfl ?_
      refine e_iload d_X11_paid_66 rfl ?_
      refine e_ishr d_X11_paid_68 ?_
      refine e_iconst (v := 1) d_X11_paid_69 (by decide) ?_
      refine e_iand d_X11_paid_70 ?_
      refine e_iconst (v := 1) d_X11_paid_71 (by decide) ?_
      refine e_icmp_ne d_X11_paid_72 (fun c72 => ?_) (fun c72 => ?_)
      · have hb : bt S i = false := Bool.eq_false_iff.mpr (fun z => c72 ((bit1 (by omega) (by omega)).mpr z))
        have hP : (fun t => bt S t && decide (farC ans less (2 ^ N - 1) (dlF (DLs ca N nc kd cd many near)) t S0 (DLs ca N nc kd cd many near).length ≠ -1)) i = false := by simp only [hb, Bool.false_and]
        refine e_iconst (v := -1) d_X11_paid_88 (by decide) ?_
        refine e_iastN (k := i) d_X11_paid_89 H_mfa rfl (by omega) (by omega) ?_
        refine e_iload d_X11_paid_90 rfl ?_
        refine e_aloadn d_X11_paid_92 rfl ?_
        refine e_get d_X11_paid_93 f_X11_88 (H_md.n (by decide)) rfl ?_
        refine e_iload d_X11_paid_96 rfl ?_
        refine e_ialdN (k := i) d_X11_paid_98 H_mfa.s rfl (by omega) (by omega) ?_
        rw [va_up_self]
        refine e_iconst (v := -1) d_X11_paid_99 (by decide) ?_
        refine e_icmp_eq d_X11_paid_100 (fun _ => ?_) (fun z => by first | exact absurd (rfl) z | exact absurd z (rfl))
        refine e_iconst (v := 0) d_X11_paid_107 (by decide) ?_
        refine e_iadd d_X11_paid_108 ?_
        refine e_istore d_X11_paid_109 (by decide) rfl ?_
        refine e_iincw (w := 1) d_X11_paid_111 rfl (by decide) (by decide) rfl ?_
        refine e_gt d_X11_paid_114 ?_
        refine ih_48 (i + 1) (by omega) (by omega) _ () () () _ _ ?_ ?_ ?_ ?_ ?_
        · first
          | exact (h_F.trans (fr_82.mono (by decide))).up (by decide)
          | exact h_F.up (by decide)
        · exact ⟨_, _, H_md.n (by decide)⟩
        · refine ⟨_, Hs.s H_mfa, fun j hj => ?_⟩
          by_cases e : j = i
          · rw [e, va_up_self]
            first
            | (rw [if_neg (by rw [hb]; decide)]; done)
            | (rw [if_pos hb]; done)
          · rw [va_up_ne _ _ e]; exact hfs j (by omega)
        · rw [h_c]
          first
          | (rw [pcb_t (by omega) hP]; exact nI_1 _)
          | (rw [pcb_f (by omega) hP]; exact Int32.add_zero _)
        · exact nI_1 i
      · have hb : bt S i = true := (bit1 (by omega) (by omega)).mp c72
        refine e_aloadn d_X11_paid_75 rfl ?_
        refine e_iload d_X11_paid_76 rfl ?_
        refine e_aloadn d_X11_paid_78 rfl ?_
        refine e_callVI d_X11_paid_79 l_X11_paid_131 H_md rfl rfl (s_X11_hadBits H_md H_a ha0 hN) rfl rfl (Nat.le_of_ble_eq_true rfl) ?_
        rw [hbits]
        refine e_callRVI d_X11_paid_82 l_X11_paid_362 H_md rfl rfl (s_X11_asFar (T := i) (S0 := S0) (A := (2 ^ N - 1)) H_md H_a ha0 hN H_mdl (by omega) hS1 (hVm i (by omega)) hV (R i (by omega)) hRw hL8 hL9) rfl rfl (Nat.le_of_ble_eq_true rfl) (fun x_82 h_82 q_82 s_82 => ?_)
        obtain ⟨rfl, ⟨up_82, lo_82, H_md⟩, fr_82⟩ := q_82
        have H_a := fr_82.hs H_a (by first | decide | (simp; omega))
        have H_mdl := fr_82.hs H_mdl (by first | decide | (simp; omega))
        have H_mfa := fr_82.hs H_mfa (by first | decide | (simp; omega))
        refine e_gt d_X11_paid_85 ?_
        refine e_iastN (k := i) d_X11_paid_89 H_mfa rfl (by omega) (by omega) ?_
        refine e_iload d_X11_paid_90 rfl ?_
        refine e_aloadn d_X11_paid_92 rfl ?_
        refine e_get d_X11_paid_93 f_X11_88 (H_md.n (by decide)) rfl ?_
        refine e_iload d_X11_paid_96 rfl ?_
        refine e_ialdN (k := i) d_X11_paid_98 H_mfa.s rfl (by omega) (by omega) ?_
        rw [va_up_self]
        refine e_iconst (v := -1) d_X11_paid_99 (by decide) ?_
        refine e_icmp_eq d_X11_paid_100 (fun c100 => ?_) (fun c100 => ?_)
        · have hP : (fun t => bt S t && decide (farC ans less (2 ^ N - 1) (dlF (DLs ca N nc kd cd many near)) t S0 (DLs ca N nc kd cd many near).length ≠ -1)) i = false := by
            simp only [hb, Bool.true_and]
            exact decide_eq_false (fun z => z c100)
          refine e_iconst (v := 0) d_X11_paid_107 (by decide) ?_
          refine e_iadd d_X11_paid_108 ?_
          refine e_istore d_X11_paid_109 (by decide) rfl ?_
          refine e_iincw (w := 1) d_X11_paid_111 rfl (by decide) (by decide) rfl ?_
          refine e_gt d_X11_paid_114 ?_
          refine ih_48 (i + 1) (by omega) (by omega) _ () () () _ _ ?_ ?_ ?_ ?_ ?_
          · first
            | exact (h_F.trans (fr_82.mono (by decide))).up (by decide)
            | exact h_F.up (by decide)
          · exact ⟨_, _, H_md.n (by decide)⟩
          · refine ⟨_, Hs.s H_mfa, fun j hj => ?_⟩
            by_cases e : j = i
            · rw [e, va_up_self]
              first
              | (rw [if_neg (by rw [hb]; decide)]; done)
              | (rw [if_pos hb]; done)
            · rw [va_up_ne _ _ e]; exact hfs j (by omega)
          · rw [h_c]
            first
            | (rw [pcb_t (by omega) hP]; exact nI_1 _)
            | (rw [pcb_f (by omega) hP]; exact Int32.add_zero _)
          · exact nI_1 i
        · have hP : (fun t => bt S t && decide (farC ans less (2 ^ N - 1) (dlF (DLs ca N nc kd cd many near)) t S0 (DLs ca N nc kd cd many near).length ≠ -1)) i = true := by
            simp only [hb, Bool.true_and]
            exact decide_eq_true c100
          refine e_iconst (v := 1) d_X11_paid_103 (by decide) ?_
          refine e_gt d_X11_paid_104 ?_
          refine e_iadd d_X11_paid_108 ?_
          refine e_istore d_X11_paid_109 (by decide) rfl ?_
          refine e_iincw (w := 1) d_X11_paid_111 rfl (by decide) (by decide) rfl ?_
          refine e_gt d_X11_paid_114 ?_
          refine ih_48 (i + 1) (by omega) (by omega) _ () () () _ _ ?_ ?_ ?_ ?_ ?_
          · first
            | exact (h_F.trans (fr_82.mono (by decide))).up (by decide)
            | exact h_F.up (by decide)
          · exact ⟨_, _, H_md.n (by decide)⟩
          · refine ⟨_, Hs.s H_mfa, fun j hj => ?_⟩
            by_cases e : j = i
            · rw [e, va_up_self]
              first
              | (rw [if_neg (by rw [hb]; decide)]; done)
              | (rw [if_pos hb]; done)
            · rw [va_up_ne _ _ e]; exact hfs j (by omega)
          · rw [h_c]
            first
            | (rw [pcb_t (by omega) hP]; exact nI_1 _)
            | (rw [pcb_f (by omega) hP]; exact Int32.add_zero _)
          · exact nI_1 i
  exact hA_48 0 (by omega) _ () () () _ _ (Fr.refl _ _) (⟨_, _, H_md⟩) (⟨_, H_mfa, fun j hj => absurd hj (by omega)⟩) (by show (0 : Int32) = nI (pc 0 14); decide) (rfl)

theorem s_X11_isBefore {h : AH} {t u n : Nat} {a ages : Nat → Int32} {mtp mfl mfa mln mat mtk mso mto mwr mwp mop mfs mws mst mnc mnk mnr mdn : Int32} {mup mlo mgu mgl : Int64} (H_md : Hs h 66 (oMd mtp mfl mfa mup mlo mln mat mtk mso mto mwr mwp mop mfs mws mst mnc mnk mnr mdn mgu mgl)) (H_a : Hs h 67 (aI 380 a)) (hn : n ≤ 12) (hag : ∀ j, j < n → a (100 + 4 * j + 1) = ages j) (ht : t < n) (hu : u < n) : Sp M_X11_isBefore (0, 0) h [.ref 66, .int (nI t), .int (nI u)] (pI (bI (lxB ages t u = true)) h) := by
  refine ⟨Nat.le_of_ble_eq_true rfl, ?_⟩
  show E _ _ _ 0 h [some (.ref 66), some (.int (nI t)), some (.int (nI u))] []
  refine e_aloadn d_X11_isBefore_0 rfl ?_
  refine e_iloadn d_X11_isBefore_1 rfl ?_
  refine e_iconst (v := 1) d_X11_isBefore_2 (by decide) ?_
  refine e_callVI d_X11_isBefore_3 l_X11_isBefore_123 H_md rfl rfl (s_X11_of (c := t) (d := 1) H_md H_a rfl rfl (by omega)) rfl rfl (Nat.le_of_ble_eq_true rfl) ?_
  rw [hag t ht]
  refine e_aloadn d_X11_isBefore_6 rfl ?_
  refine e_iloadn d_X11_isBefore_7 rfl ?_
  refine e_iconst (v := 1) d_X11_isBefore_8 (by decide) ?_
  refine e_callVI d_X11_isBefore_9 l_X11_isBefore_123 H_md rfl rfl (s_X11_of (c := u) (d := 1) H_md H_a rfl rfl (by omega)) rfl rfl (Nat.le_of_ble_eq_true rfl) ?_
  rw [hag u hu]
  refine e_icmp_lt d_X11_isBefore_12 (fun c_12 => ?_) (fun c_12 => ?_)
  · have hP : lxB ages t u = true := decide_eq_true (Or.inl c_12)
    refine e_iconst (v := 1) d_X11_isBefore_35 (by decide) ?_
    refine e_gt d_X11_isBefore_36 ?_
    exact e_iret d_X11_isBefore_40 rfl (rfl) (⟨by first | rw [bI_t hP] | rw [bI_f hP], rfl⟩)
  · refine e_aloadn d_X11_isBefore_15 rfl ?_
    refine e_iloadn d_X11_isBefore_16 rfl ?_
    refine e_iconst (v := 1) d_X11_isBefore_17 (by decide) ?_
    refine e_callVI d_X11_isBefore_18 l_X11_isBefore_123 H_md rfl rfl (s_X11_of (c := t) (d := 1) H_md H_a rfl rfl (by omega)) rfl rfl (Nat.le_of_ble_eq_true rfl) ?_
    rw [hag t ht]
    refine e_aloadn d_X11_isBefore_21 rfl ?_
    refine e_iloadn d_X11_isBefore_22 rfl ?_
    refine e_iconst (v := 1) d_X11_isBefore_23 (by decide) ?_
    refine e_callVI d_X11_isBefore_24 l_X11_isBefore_123 H_md rfl rfl (s_X11_of (c := u) (d := 1) H_md H_a rfl rfl (by omega)) rfl rfl (Nat.le_of_ble_eq_true rfl) ?_
    rw [hag u hu]
    refine e_icmp_ne d_X11_isBefore_27 (fun c_27 => ?_) (fun c_27 => ?_)
    · have hP : ¬ lxB ages t u = true := fun z => (of_decide_eq_true z).elim c_12 (fun q => c_27 q.1)
      refine e_iconst (v := 0) d_X11_isBefore_39 (by decide) ?_
      exact e_iret d_X11_isBefore_40 rfl (rfl) (⟨by first | rw [bI_t hP] | rw [bI_f hP], rfl⟩)
    · refine e_iloadn d_X11_isBefore_30 rfl ?_
      refine e_iloadn d_X11_isBefore_31 rfl ?_
      refine e_icmp_ge d_X11_isBefore_32 (fun c_32 => ?_) (fun c_32 => ?_)
      · have hP : ¬ lxB ages t u = true := fun z => (of_decide_eq_true z).elim c_12 (fun q => absurd (i_le (by omega) (by omega) c_32) (by omega))
        refine e_iconst (v := 0) d_X11_isBefore_39 (by decide) ?_
        exact e_iret d_X11_isBefore_40 rfl (rfl) (⟨by first | rw [bI_t hP] | rw [bI_f hP], rfl⟩)
      · have hP : lxB ages t u = true := decide_eq_true (Or.inr ⟨c_27, i_nle (by omega) (by omega) c_32⟩)
        refine e_iconst (v := 1) d_X11_isBefore_35 (by decide) ?_
        refine e_gt d_X11_isBefore_36 ?_
        exact e_iret d_X11_isBefore_40 rfl (rfl) (⟨by first | rw [bI_t hP] | rw [bI_f hP], rfl⟩)

theorem s_X11_nextOf_0 {h : AH} {n X : Nat} {kk : Int32} {a ages kinds : Nat → Int32} {mtp mfl mfa mln mat mtk mso mto mwr mwp mop mfs mws mst mnc mnk mnr mdn : Int32} {mup mlo mgu mgl : Int64} (H_md : Hs h 66 (oMd mtp mfl mfa mup mlo mln mat mtk mso mto mwr mwp mop mfs mws mst mnc mnk mnr mdn mgu mgl)) (H_a : Hs h 67 (aI 380 a)) (ha1 : a 1 = nI n) (hn : n ≤ 12) (hag : ∀ j, j < n → a (100 + 4 * j + 1) = ages j) (hkk : ∀ j, j < n → a (100 + 4 * j + 0) = kinds j) (hXb : ∀ j, j < n → bt X j = (decide (kinds j = kk))) (hXe : ∀ j, n ≤ j → bt X j = false) : Sp M_X11_nextOf (0, 0) h [.ref 66, .int kk, .int (-1)] (pI (oI (lOf ages X 12)) h) := by
  refine ⟨Nat.le_of_ble_eq_true rfl, ?_⟩
  show E _ _ _ 0 h [some (.ref 66), some (.int kk), some (.int (-1)), none, none, none] []
  refine e_iconst (v := -1) d_X11_nextOf_0 (by decide) ?_
  refine e_istoren d_X11_nextOf_1 (by decide) rfl ?_
  refine e_iconst (v := 0) d_X11_nextOf_2 (by decide) ?_
  refine e_istore d_X11_nextOf_3 (by decide) rfl ?_
  have hA_5 : ∀ i, i ≤ n → ∀ (b9 : Int32) (y : Int32), (b9 = oI (lOf ages X i)) → (y = nI i) → E M_X11_nextOf (0, 0) (pI (oI (lOf ages X 12)) h) 5 (h) [some (.ref 66), some (.int kk), some (.int (-1)), some (.int b9), some (.int y), none] [] := by
    refine loop_ind (n := n) ?_
    intro i hi_i ih_5 b9 y h_b9 h_y
    subst h_y
    subst h_b9
    refine e_iload d_X11_nextOf_5 rfl ?_
    refine e_aloadn d_X11_nextOf_7 rfl ?_
    refine e_get d_X11_nextOf_8 f_X11_7 H_md rfl ?_
    refine e_iconst (v := 1) d_X11_nextOf_11 (by decide) ?_
    refine e_ialdN (k := 1) d_X11_nextOf_12 H_a rfl (by decide) (by decide) ?_
    rw [ha1]
    refine e_icmp_ge d_X11_nextOf_13 (fun c => ?_) (fun c => ?_)
    · have c := i_le (by omega) (by omega) c
      obtain rfl : n = i := by omega
      refine e_iloadn d_X11_nextOf_82 rfl ?_
      exact e_iret d_X11_nextOf_83 rfl (rfl) (⟨by rw [lOf_12 hXe hn], rfl⟩)
    · have c := i_nle (by omega) (by omega) c
      refine e_aloadn d_X11_nextOf_16 rfl ?_
      refine e_iload d_X11_nextOf_17 rfl ?_
      refine e_iconst (v := 0) d_X11_nextOf_19 (by decide) ?_
      refine e_callVI d_X11_nextOf_20 l_X11_nextOf_123 H_md rfl rfl (s_X11_of (c := i) (d := 0) H_md H_a rfl rfl (by omega)) rfl rfl (Nat.le_of_ble_eq_true rfl) ?_
      rw [hkk i c]
      refine e_iloadn d_X11_nextOf_23 rfl ?_
      refine e_icmp_ne d_X11_nextOf_24 (fun c24 => ?_) (fun c24 => ?_)
      · have hX : bt X i = false := by rw [hXb i c]; rw [decide_eq_false c24]
        have hB0 : oI (lOf ages X i) = oI (lOf ages X (i + 1)) := by rw [lOf, if_neg (by rw [hX]; decide)]
        refine e_iconst (v := 0) d_X11_nextOf_46 (by decide) ?_
        refine e_istore d_X11_nextOf_47 (by decide) rfl ?_
        refine e_iload d_X11_nextOf_49 rfl ?_
        refine e_if_eq d_X11_nextOf_51 (fun _ => ?_) (fun z => by first | exact absurd (rfl) z | exact absurd z (rfl))
        refine e_iloadn d_X11_nextOf_74 rfl ?_
        refine e_istoren d_X11_nextOf_75 (by decide) rfl ?_
        refine e_iincw (w := 1) d_X11_nextOf_76 rfl (by decide) (by decide) rfl ?_
        refine e_gt d_X11_nextOf_79 ?_
        refine e_drop1 5 ?_
        refine ih_5 (i + 1) (by omega) (by omega) _ _ ?_ ?_
        · first
          | exact hB0
          | exact hB
        · exact nI_1 i
      · refine e_iloadn d_X11_nextOf_27 rfl ?_
        refine e_iconst (v := -1) d_X11_nextOf_28 (by decide) ?_
        refine e_icmp_eq d_X11_nextOf_29 (fun _ => ?_) (fun z => by first | exact absurd (rfl) z | exact absurd z (rfl))
        refine e_iconst (v := 1) d_X11_nextOf_42 (by decide) ?_
        refine e_gt d_X11_nextOf_43 ?_
        refine e_istore d_X11_nextOf_47 (by decide) rfl ?_
        refine e_iload d_X11_nextOf_49 rfl ?_
        refine e_if_eq d_X11_nextOf_51 (fun z => by first | exact absurd (by decide) z | exact absurd z (by decide)) (fun _ => ?_)
        have hX : bt X i = true := by rw [hXb i c, decide_eq_true (by first | exact c24 | exact Decidable.of_not_not c24)]
        refine e_iloadn d_X11_nextOf_54 rfl ?_
        refine e_iconst (v := -1) d_X11_nextOf_55 (by decide) ?_
        refine e_icmp_eq d_X11_nextOf_56 (fun c56 => ?_) (fun c56 => ?_)
        · have hno := oI_none c56 (lOf_lt i) (by omega)
          have hB : nI i = oI (lOf ages X (i + 1)) := by rw [lOf, if_pos hX, hno]; rfl
          refine e_iload d_X11_nextOf_69 rfl ?_
          refine e_gt d_X11_nextOf_71 ?_
          refine e_istoren d_X11_nextOf_75 (by decide) rfl ?_
          refine e_iincw (w := 1) d_X11_nextOf_76 rfl (by decide) (by decide) rfl ?_
          refine e_gt d_X11_nextOf_79 ?_
          refine e_drop1 5 ?_
          refine ih_5 (i + 1) (by omega) (by omega) _ _ ?_ ?_
          · first
            | exact hB0
            | exact hB
          · exact nI_1 i
        · obtain ⟨r, hlo⟩ := oI_some c56
          have hri := lOf_lt i r hlo
          rw [hlo, show oI (some r) = nI r from rfl]
          refine e_aloadn d_X11_nextOf_59 rfl ?_
          refine e_iload d_X11_nextOf_60 rfl ?_
          refine e_iloadn d_X11_nextOf_62 rfl ?_
          refine e_callVI d_X11_nextOf_63 l_X11_nextOf_380 H_md rfl rfl (s_X11_isBefore (t := i) (u := r) (ages := ages) H_md H_a hn hag (by omega) (by omega)) rfl rfl (Nat.le_of_ble_eq_true rfl) ?_
          refine e_if_eq d_X11_nextOf_66 (fun c66 => ?_) (fun c66 => ?_)
          · have hB : nI r = oI (lOf ages X (i + 1)) := by
              rw [lOf, if_pos hX, hlo]
              simp only []
              rw [if_neg (fun z => bI_0.mp c66 (decide_eq_true (Or.inl z)))]; rfl
            refine e_iloadn d_X11_nextOf_74 rfl ?_
            refine e_istoren d_X11_nextOf_75 (by decide) rfl ?_
            refine e_iincw (w := 1) d_X11_nextOf_76 rfl (by decide) (by decide) rfl ?_
            refine e_gt d_X11_nextOf_79 ?_
            refine e_drop1 5 ?_
            refine ih_5 (i + 1) (by omega) (by omega) _ _ ?_ ?_
            · first
              | exact hB0
              | exact hB
            · exact nI_1 i
          · have hB : nI i = oI (lOf ages X (i + 1)) := by
              rw [lOf, if_pos hX, hlo]
              simp only []
              rw [if_pos ((of_decide_eq_true (bI_1.mp (bI_z.resolve_left c66))).elim (fun q => q) (fun q => absurd q.2 (by omega)))]; rfl
            refine e_iload d_X11_nextOf_69 rfl ?_
            refine e_gt d_X11_nextOf_71 ?_
            refine e_istoren d_X11_nextOf_75 (by decide) rfl ?_
            refine e_iincw (w := 1) d_X11_nextOf_76 rfl (by decide) (by decide) rfl ?_
            refine e_gt d_X11_nextOf_79 ?_
            refine e_drop1 5 ?_
            refine ih_5 (i + 1) (by omega) (by omega) _ _ ?_ ?_
            · first
              | exact hB0
              | exact hB
            · exact nI_1 i
  exact hA_5 0 (by omega) _ _ (rfl) (rfl)

theorem s_X11_nextOf_1 {h : AH} {n X b : Nat} {kk : Int32} {a ages kinds : Nat → Int32} {mtp mfl mfa mln mat mtk mso mto mwr mwp mop mfs mws mst mnc mnk mnr mdn : Int32} {mup mlo mgu mgl : Int64} (H_md : Hs h 66 (oMd mtp mfl mfa mup mlo mln mat mtk mso mto mwr mwp mop mfs mws mst mnc mnk mnr mdn mgu mgl)) (H_a : Hs h 67 (aI 380 a)) (ha1 : a 1 = nI n) (hn : n ≤ 12) (hag : ∀ j, j < n → a (100 + 4 * j + 1) = ages j) (hkk : ∀ j, j < n → a (100 + 4 * j + 0) = kinds j) (hb : b < n) (hXb : ∀ j, j < n → bt X j = (decide (kinds j = kk) && lxB ages b j)) (hXe : ∀ j, n ≤ j → bt X j = false) : Sp M_X11_nextOf (0, 0) h [.ref 66, .int kk, .int (nI b)] (pI (oI (lOf ages X 12)) h) := by
  refine ⟨Nat.le_of_ble_eq_true rfl, ?_⟩
  show E _ _ _ 0 h [some (.ref 66), some (.int kk), some (.int (nI b)), none, none, none] []
  refine e_iconst (v := -1) d_X11_nextOf_0 (by decide) ?_
  refine e_istoren d_X11_nextOf_1 (by decide) rfl ?_
  refine e_iconst (v := 0) d_X11_nextOf_2 (by decide) ?_
  refine e_istore d_X11_nextOf_3 (by decide) rfl ?_
  have hA_5 : ∀ i, i ≤ n → ∀ (b9 : Int32) (y : Int32), (b9 = oI (lOf ages X i)) → (y = nI i) → E M_X11_nextOf (0, 0) (pI (oI (lOf ages X 12)) h) 5 (h) [some (.ref 66), some (.int kk), some (.int (nI b)), some (.int b9), some (.int y), none] [] := by
    refine loop_ind (n := n) ?_
    intro i hi_i ih_5 b9 y h_b9 h_y
    subst h_y
    subst h_b9
    refine e_iload d_X11_nextOf_5 rfl ?_
    refine e_aloadn d_X11_nextOf_7 rfl ?_
    refine e_get d_X11_nextOf_8 f_X11_7 H_md rfl ?_
    refine e_iconst (v := 1) d_X11_nextOf_11 (by decide) ?_
    refine e_ialdN (k := 1) d_X11_nextOf_12 H_a rfl (by decide) (by decide) ?_
    rw [ha1]
    refine e_icmp_ge d_X11_nextOf_13 (fun c => ?_) (fun c => ?_)
    · have c := i_le (by omega) (by omega) c
      obtain rfl : n = i := by omega
      refine e_iloadn d_X11_nextOf_82 rfl ?_
      exact e_iret d_X11_nextOf_83 rfl (rfl) (⟨by rw [lOf_12 hXe hn], rfl⟩)
    · have c := i_nle (by omega) (by omega) c
      refine e_aloadn d_X11_nextOf_16 rfl ?_
      refine e_iload d_X11_nextOf_17 rfl ?_
      refine e_iconst (v := 0) d_X11_nextOf_19 (by decide) ?_
      refine e_callVI d_X11_nextOf_20 l_X11_nextOf_123 H_md rfl rfl (s_X11_of (c := i) (d := 0) H_md H_a rfl rfl (by omega)) rfl rfl (Nat.le_of_ble_eq_true rfl) ?_
      rw [hkk i c]
      refine e_iloadn d_X11_nextOf_23 rfl ?_
      refine e_icmp_ne d_X11_nextOf_24 (fun c24 => ?_) (fun c24 => ?_)
      · have hX : bt X i = false := by rw [hXb i c]; rw [decide_eq_false c24]; rfl
        have hB0 : oI (lOf ages X i) = oI (lOf ages X (i + 1)) := by rw [lOf, if_neg (by rw [hX]; decide)]
        refine e_iconst (v := 0) d_X11_nextOf_46 (by decide) ?_
        refine e_istore d_X11_nextOf_47 (by decide) rfl ?_
        refine e_iload d_X11_nextOf_49 rfl ?_
        refine e_if_eq d_X11_nextOf_51 (fun _ => ?_) (fun z => by first | exact absurd (rfl) z | exact absurd z (rfl))
        refine e_iloadn d_X11_nextOf_74 rfl ?_
        refine e_istoren d_X11_nextOf_75 (by decide) rfl ?_
        refine e_iincw (w := 1) d_X11_nextOf_76 rfl (by decide) (by decide) rfl ?_
        refine e_gt d_X11_nextOf_79 ?_
        refine e_drop1 5 ?_
        refine ih_5 (i + 1) (by omega) (by omega) _ _ ?_ ?_
        · first
          | exact hB0
          | exact hB
        · exact nI_1 i
      · refine e_iloadn d_X11_nextOf_27 rfl ?_
        refine e_iconst (v := -1) d_X11_nextOf_28 (by decide) ?_
        refine e_icmp_eq d_X11_nextOf_29 (fun z => by first | exact absurd (nI_neg1 (by omega)) z | exact absurd z (nI_neg1 (by omega))) (fun _ => ?_)
        refine e_aloadn d_X11_nextOf_32 rfl ?_
        refine e_iloadn d_X11_nextOf_33 rfl ?_
        refine e_iload d_X11_nextOf_34 rfl ?_
        refine e_callVI d_X11_nextOf_36 l_X11_nextOf_380 H_md rfl rfl (s_X11_isBefore (t := b) (u := i) (ages := ages) H_md H_a hn hag (by omega) (by omega)) rfl rfl (Nat.le_of_ble_eq_true rfl) ?_
        refine e_if_eq d_X11_nextOf_39 (fun c39 => ?_) (fun c39 => ?_)
        · have hX : bt X i = false := by rw [hXb i c]; rw [Bool.eq_false_iff.mpr (bI_0.mp c39), Bool.and_false]
          have hB0 : oI (lOf ages X i) = oI (lOf ages X (i + 1)) := by rw [lOf, if_neg (by rw [hX]; decide)]
          refine e_iconst (v := 0) d_X11_nextOf_46 (by decide) ?_
          refine e_istore d_X11_nextOf_47 (by decide) rfl ?_
          refine e_iload d_X11_nextOf_49 rfl ?_
          refine e_if_eq d_X11_nextOf_51 (fun _ => ?_) (fun z => by first | exact absurd (rfl) z | exact absurd z (rfl))
          refine e_iloadn d_X11_nextOf_74 rfl ?_
          refine e_istoren d_X11_nextOf_75 (by decide) rfl ?_
          refine e_iincw (w := 1) d_X11_nextOf_76 rfl (by decide) (by decide) rfl ?_
          refine e_gt d_X11_nextOf_79 ?_
          refine e_drop1 5 ?_
          refine ih_5 (i + 1) (by omega) (by omega) _ _ ?_ ?_
          · first
            | exact hB0
            | exact hB
          · exact nI_1 i
        · refine e_iconst (v := 1) d_X11_nextOf_42 (by decide) ?_
          refine e_gt d_X11_nextOf_43 ?_
          refine e_istore d_X11_nextOf_47 (by decide) rfl ?_
          refine e_iload d_X11_nextOf_49 rfl ?_
          refine e_if_eq d_X11_nextOf_51 (fun z => by first | exact absurd (by decide) z | exact absurd z (by decide)) (fun _ => ?_)
          have hX : bt X i = true := by rw [hXb i c, decide_eq_true (by first | exact c24 | exact Decidable.of_not_not c24)]; rw [bI_1.mp (bI_z.resolve_left c39)]; rfl
          refine e_iloadn d_X11_nextOf_54 rfl ?_
          refine e_iconst (v := -1) d_X11_nextOf_55 (by decide) ?_
          refine e_icmp_eq d_X11_nextOf_56 (fun c56 => ?_) (fun c56 => ?_)
          · have hno := oI_none c56 (lOf_lt i) (by omega)
            have hB : nI i = oI (lOf ages X (i + 1)) := by rw [lOf, if_pos hX, hno]; rfl
            refine e_iload d_X11_nextOf_69 rfl ?_
            refine e_gt d_X11_nextOf_71 ?_
            refine e_istoren d_X11_nextOf_75 (by decide) rfl ?_
            refine e_iincw (w := 1) d_X11_nextOf_76 rfl (by decide) (by decide) rfl ?_
            refine e_gt d_X11_nextOf_79 ?_
            refine e_drop1 5 ?_
            refine ih_5 (i + 1) (by omega) (by omega) _ _ ?_ ?_
            · first
              | exact hB0
              | exact hB
            · exact nI_1 i
          · obtain ⟨r, hlo⟩ := oI_some c56
            have hri := lOf_lt i r hlo
            rw [hlo, show oI (some r) = nI r from rfl]
            refine e_aloadn d_X11_nextOf_59 rfl ?_
            refine e_iload d_X11_nextOf_60 rfl ?_
            refine e_iloadn d_X11_nextOf_62 rfl ?_
            refine e_callVI d_X11_nextOf_63 l_X11_nextOf_380 H_md rfl rfl (s_X11_isBefore (t := i) (u := r) (ages := ages) H_md H_a hn hag (by omega) (by omega)) rfl rfl (Nat.le_of_ble_eq_true rfl) ?_
            refine e_if_eq d_X11_nextOf_66 (fun c66 => ?_) (fun c66 => ?_)
            · have hB : nI r = oI (lOf ages X (i + 1)) := by
                rw [lOf, if_pos hX, hlo]
                simp only []
                rw [if_neg (fun z => bI_0.mp c66 (decide_eq_true (Or.inl z)))]; rfl
              refine e_iloadn d_X11_nextOf_74 rfl ?_
              refine e_istoren d_X11_nextOf_75 (by decide) rfl ?_
              refine e_iincw (w := 1) d_X11_nextOf_76 rfl (by decide) (by decide) rfl ?_
              refine e_gt d_X11_nextOf_79 ?_
              refine e_drop1 5 ?_
              refine ih_5 (i + 1) (by omega) (by omega) _ _ ?_ ?_
              · first
                | exact hB0
                | exact hB
              · exact nI_1 i
            · have hB : nI i = oI (lOf ages X (i + 1)) := by
                rw [lOf, if_pos hX, hlo]
                simp only []
                rw [if_pos ((of_decide_eq_true (bI_1.mp (bI_z.resolve_left c66))).elim (fun q => q) (fun q => absurd q.2 (by omega)))]; rfl
              refine e_iload d_X11_nextOf_69 rfl ?_
              refine e_gt d_X11_nextOf_71 ?_
              refine e_istoren d_X11_nextOf_75 (by decide) rfl ?_
              refine e_iincw (w := 1) d_X11_nextOf_76 rfl (by decide) (by decide) rfl ?_
              refine e_gt d_X11_nextOf_79 ?_
              refine e_drop1 5 ?_
              refine ih_5 (i + 1) (by omega) (by omega) _ _ ?_ ?_
              · first
                | exact hB0
                | exact hB
              · exact nI_1 i
  exact hA_5 0 (by omega) _ _ (rfl) (rfl)

theorem s_X11_course {h : AH} {N n S0 : Nat} {ca : Nat → Nat → Nat} {a : Nat → Int32} {ans less : Nat → Int32} {mtp mfl mfa mln mat mtk mso mto mwr mwp mop mfs mws mst mnc mnk mnr mdn : Int32} {mup mlo mgu mgl : Int64} {tp nc tcn : Nat} {kd : Nat → Nat} {cd : Nat → List Nat} {many near : Int32} {dl0 : Nat → Int32} {kk t w : Int32} {kinds ages : Nat → Int32} (H_md : Hs h 66 (oMd mtp mfl mfa mup mlo mln mat mtk mso mto mwr mwp mop mfs mws mst mnc mnk mnr mdn mgu mgl)) (H_a : Hs h 67 (aI 380 a)) (ha0 : a 0 = nI N) (hN : N ≤ 14) (hca : ∀ c k, c < N → k < 4 → ca c k ≤ 99) (hca4 : ∀ c k, c < N → k < 4 → a (10 + 5 * c + k) = nI (ca c k)) (ha1 : a 1 = nI n) (hn : n ≤ 12) (hbits : bitsOf (fun c => a (80 + c)) N = nI S0) (hS0 : S0 < 2 ^ N) (hV : ∀ t, t < 12 → ∀ c, c < 14 → ans (t * 14 + c) = -1 ∨ ∃ v, v ≤ 99 ∧ ans (t * 14 + c) = nI v) (hVm : ∀ t, t < n → ∀ c, c < N → a (150 + 14 * t + c) = -1 ∨ ∃ v, v ≤ 99 ∧ a (150 + 14 * t + c) = nI v) (R : ∀ t, t < n → mAn a ans less N t (2 ^ N - 1) 2) (ha2 : a 2 = nI tcn) (htp : tp < tcn) (htc : tcn ≤ 6) (hT0 : TxM h tp nc kd cd many near) (hok : okT nc kd cd) (hR0 : MdR h) (H_mdl : Hs h 87 (aI 16384 dl0)) (hag : ∀ j, j < n → a (100 + 4 * j + 1) = ages j) (hkk : ∀ j, j < n → a (100 + 4 * j + 0) = kinds j) (hk3 : 0 ≤ kk ∧ kk ≤ 3) (ht1 : 1 ≤ t ∧ t ≤ 1000) (hw2 : 0 ≤ w ∧ w ≤ 2) : Sp M_X11_course (0, 0) h [.ref 66, .int (nI tp), .int kk, .int t, .int w] (rI (fun x h' => x = coA (bs (coP ages (bs (fun c => decide (kinds c = kk)) n) (fun T => stC (farC ans less (2 ^ N - 1) (dlF (DLs ca N nc kd cd many near)) T S0 (DLs ca N nc kd cd many near).length) t (DLs ca N nc kd cd many near).length)) (pc (bs (fun c => decide (kinds c = kk)) n) 14)) (pc (bs (fun c => decide (kinds c = kk)) n) 14) w ∧ MdZ h h' mtp mfl mfa)) := by
  refine ⟨Nat.le_of_ble_eq_true rfl, ?_⟩
  show E _ _ _ 0 h [some (.ref 66), some (.int (nI tp)), some (.int kk), some (.int t), some (.int w), none, none, none, none, none] []
  have hS1 : S0 < 16384 := Nat.lt_of_lt_of_le hS0 (pw_31 N hN)
  obtain ⟨⟨⟨nms0, H_mnm⟩, pi0, H_mpi⟩, ⟨wi0, H_mwi⟩, wo0, H_mwo⟩ := id hR0
  refine e_aloadn d_X11_course_0 rfl ?_
  refine e_iloadn d_X11_course_1 rfl ?_
  refine e_callVI d_X11_course_2 l_X11_course_356 H_md rfl rfl (s_X11_isText H_md H_a) rfl rfl (Nat.le_of_ble_eq_true rfl) ?_
  refine e_if_eq d_X11_course_5 (fun z => by first | exact absurd (fun z => bI_0.mp z ⟨(nI_leI (a := 0) (by decide) (by omega)).mpr (by omega), by rw [ha2, nI_le1 (by omega)]; exact (nI_leI (by omega) (by omega)).mpr (by omega)⟩) z | exact absurd z (fun z => bI_0.mp z ⟨(nI_leI (a := 0) (by decide) (by omega)).mpr (by omega), by rw [ha2, nI_le1 (by omega)]; exact (nI_leI (by omega) (by omega)).mpr (by omega)⟩)) (fun _ => ?_)
  refine e_iloadn d_X11_course_8 rfl ?_
  refine e_iconst (v := 0) d_X11_course_9 (by decide) ?_
  refine e_iconst (v := 3) d_X11_course_10 (by decide) ?_
  refine e_callSI d_X11_course_11 l_X11_course_101 (s_X11_in) rfl rfl (Nat.le_of_ble_eq_true rfl) ?_
  refine e_if_eq d_X11_course_14 (fun z => by first | exact absurd (fun z => bI_0.mp z hk3) z | exact absurd z (fun z => bI_0.mp z hk3)) (fun _ => ?_)
  refine e_iloadn d_X11_course_17 rfl ?_
  refine e_iconst (v := 1) d_X11_course_18 (by decide) ?_
  refine e_sipush (v := 1000) d_X11_course_19 (by decide) ?_
  refine e_callSI d_X11_course_22 l_X11_course_101 (s_X11_in) rfl rfl (Nat.le_of_ble_eq_true rfl) ?_
  refine e_if_eq d_X11_course_25 (fun z => by first | exact absurd (fun z => bI_0.mp z ht1) z | exact absurd z (fun z => bI_0.mp z ht1)) (fun _ => ?_)
  refine e_iload d_X11_course_28 rfl ?_
  refine e_iconst (v := 0) d_X11_course_30 (by decide) ?_
  refine e_iconst (v := 2) d_X11_course_31 (by decide) ?_
  refine e_callSI d_X11_course_32 l_X11_course_101 (s_X11_in) rfl rfl (Nat.le_of_ble_eq_true rfl) ?_
  refine e_if_ne d_X11_course_35 (fun _ => ?_) (fun z => by first | exact absurd (fun z => bI_0.mp z hw2) z | exact absurd z (fun z => bI_0.mp z hw2))
  refine e_aloadn d_X11_course_40 rfl ?_
  refine e_iloadn d_X11_course_41 rfl ?_
  have hLq := DL_len (fit := fitB ca N nc kd cd many near) (over := ovN ca N nc kd cd) (2 ^ N)
  have hLp := pw_31 N hN
  have hL8 : (DLs ca N nc kd cd many near).length ≤ 16384 := Nat.le_trans hLq hLp
  have hL9 : ∀ x, x ∈ (DLs ca N nc kd cd many near) → x < 16384 := fun x hx => Nat.lt_of_lt_of_le (DL_lt x hx) hLp
  refine e_callRVV d_X11_course_42 l_X11_course_359 H_md rfl rfl (s_X11_laysDeals H_md H_a ha0 hN hca hca4 hT0 hok H_mnm H_mpi H_mwi H_mwo H_mdl) rfl rfl (Nat.le_of_ble_eq_true rfl) (fun h_42 q_42 s_42 => ?_)
  obtain ⟨H_md, ⟨dl, H_mdl, hRw⟩, hR9, fq⟩ := q_42
  have H_a := fq.hs H_a (by first | decide | (simp; omega))
  have G_a := H_a
  have G_mdl := H_mdl
  generalize hW : (bs (fun c => decide (kinds c = kk)) n) = W
  have hW12 : W < 4096 := by rw [← hW]; exact bs_12 _ hn
  have hWq : ∀ j, bt W j = (decide (j < n) && decide (kinds j = kk)) := fun j => by rw [← hW, bt_bs]
  have hWe : ∀ j, n ≤ j → bt W j = false := fun j hj => by rw [hWq, decide_eq_false (by omega)]; rfl
  have hpcW : pc W 14 ≤ 12 := pc_14N (N := 12) hW12 (by decide)
  refine e_iconst (v := 0) d_X11_course_45 (by decide) ?_
  refine e_istore d_X11_course_46 (by decide) rfl ?_
  refine e_iconst (v := -1) d_X11_course_48 (by decide) ?_
  refine e_istore d_X11_course_49 (by decide) rfl ?_
  refine e_iconst (v := -1) d_X11_course_51 (by decide) ?_
  refine e_istore d_X11_course_52 (by decide) rfl ?_
  refine e_iconst (v := 0) d_X11_course_54 (by decide) ?_
  refine e_istore d_X11_course_55 (by decide) rfl ?_
  refine e_aloadn d_X11_course_57 rfl ?_
  refine e_iloadn d_X11_course_58 rfl ?_
  refine e_iconst (v := -1) d_X11_course_59 (by decide) ?_
  refine e_callVI d_X11_course_60 l_X11_course_383 H_md rfl rfl (s_X11_nextOf_0 (X := W) H_md H_a ha1 hn hag hkk (fun j hj => by rw [hWq, decide_eq_true hj, Bool.true_and]) hWe) rfl rfl (Nat.le_of_ble_eq_true rfl) ?_
  refine e_istore d_X11_course_63 (by decide) rfl ?_
  have hA_65 : ∀ i, i ≤ (pc W 14) → ∀ (k : AH) (F : Unit) (M : Unit) (b : Int32) (g : Int32) (r : Int32) (y : Int32) (z : Int32), (Fr [66] h_42 k) → (∃ up9 lo9 : Int64, Hs k 66 (oMd mtp mfl mfa up9 lo9 mln mat mtk mso mto mwr mwp mop mfs mws mst mnc mnk mnr (nI (DLs ca N nc kd cd many near).length) mgu mgl)) → (b = nI (bs (coP ages W (fun T => stC (farC ans less (2 ^ N - 1) (dlF (DLs ca N nc kd cd many near)) T S0 (DLs ca N nc kd cd many near).length) t (DLs ca N nc kd cd many near).length)) i)) → (g = oI (goN (coP ages W (fun T => stC (farC ans less (2 ^ N - 1) (dlF (DLs ca N nc kd cd many near)) T S0 (DLs ca N nc kd cd many near).length) t (DLs ca N nc kd cd many near).length)) i)) → (r = oI (agN (coP ages W (fun T => stC (farC ans less (2 ^ N - 1) (dlF (DLs ca N nc kd cd many near)) T S0 (DLs ca N nc kd cd many near).length) t (DLs ca N nc kd cd many near).length)) i)) → (y = nI i) → (z = oI (lOf ages (lfA ages W i) 12)) → E M_X11_course (0, 0) (rI (fun x h' => x = coA (bs (coP ages W (fun T => stC (farC ans less (2 ^ N - 1) (dlF (DLs ca N nc kd cd many near)) T S0 (DLs ca N nc kd cd many near).length) t (DLs ca N nc kd cd many near).length)) (pc W 14)) (pc W 14) w ∧ MdZ h h' mtp mfl mfa)) 65 (k) [some (.ref 66), some (.int (nI tp)), some (.int kk), some (.int t), some (.int w), some (.int b), some (.int g), some (.int r), some (.int y), some (.int z)] [] := by
    refine loop_ind (n := (pc W 14)) ?_
    intro i hi_i ih_65 k F M b g r y z h_F h_M h_b h_g h_r h_y h_z
    subst h_y
    subst h_z
    subst h_g
    subst h_r
    obtain ⟨up9, lo9, H_md⟩ := id h_M
    have H_a := h_F.hs G_a (by decide)
    have H_mdl := h_F.hs G_mdl (by decide)
    have hbs14 := bs_14 (coP ages W (fun T => stC (farC ans less (2 ^ N - 1) (dlF (DLs ca N nc kd cd many near)) T S0 (DLs ca N nc kd cd many near).length) t (DLs ca N nc kd cd many near).length)) (k := i) (by omega)
    refine e_iload d_X11_course_65 rfl ?_
    refine e_iconst (v := -1) d_X11_course_67 (by decide) ?_
    refine e_icmp_eq d_X11_course_68 (fun c68 => ?_) (fun c68 => ?_)
    · have hno := oI_none c68 (lOf_lt 12) (by decide)
      obtain rfl := lfA_end hW12 hi_i hno
      subst h_b
      refine e_iload d_X11_course_152 rfl ?_
      refine e_if_ne d_X11_course_154 (fun c154 => ?_) (fun c154 => ?_)
      · refine e_iload d_X11_course_162 rfl ?_
        refine e_iconst (v := 1) d_X11_course_164 (by decide) ?_
        refine e_icmp_ne d_X11_course_165 (fun c165 => ?_) (fun c165 => ?_)
        · refine e_iload d_X11_course_173 rfl ?_
          exact e_iret d_X11_course_175 rfl (rfl) (⟨_, rfl, by rw [coA_n (by omega)]; first | (rw [if_pos (by first | exact c154 | exact Decidable.of_not_not c154)]; done) | (rw [if_neg c154, if_pos (by first | exact c165 | exact Decidable.of_not_not c165)]; done) | (rw [if_neg c154, if_neg c165]; done), ⟨⟨_, _, _, _, _, _, _, _, _, _, _, _, _, _, _, _, _, _, _, H_md⟩, ⟨dl, H_mdl⟩, MdR.fr hR9 (h_F) (by decide), ((fq.mono (by decide)).trans ((h_F).mono (by decide)))⟩⟩)
        · refine e_iload d_X11_course_168 rfl ?_
          refine e_gt d_X11_course_170 ?_
          exact e_iret d_X11_course_175 rfl (rfl) (⟨_, rfl, by rw [coA_n (by omega)]; first | (rw [if_pos (by first | exact c154 | exact Decidable.of_not_not c154)]; done) | (rw [if_neg c154, if_pos (by first | exact c165 | exact Decidable.of_not_not c165)]; done) | (rw [if_neg c154, if_neg c165]; done), ⟨⟨_, _, _, _, _, _, _, _, _, _, _, _, _, _, _, _, _, _, _, H_md⟩, ⟨dl, H_mdl⟩, MdR.fr hR9 (h_F) (by decide), ((fq.mono (by decide)).trans ((h_F).mono (by decide)))⟩⟩)
      · refine e_iload d_X11_course_157 rfl ?_
        refine e_gt d_X11_course_159 ?_
        exact e_iret d_X11_course_175 rfl (rfl) (⟨_, rfl, by rw [coA_n (by omega)]; first | (rw [if_pos (by first | exact c154 | exact Decidable.of_not_not c154)]; done) | (rw [if_neg c154, if_pos (by first | exact c165 | exact Decidable.of_not_not c165)]; done) | (rw [if_neg c154, if_neg c165]; done), ⟨⟨_, _, _, _, _, _, _, _, _, _, _, _, _, _, _, _, _, _, _, H_md⟩, ⟨dl, H_mdl⟩, MdR.fr hR9 (h_F) (by decide), ((fq.mono (by decide)).trans ((h_F).mono (by decide)))⟩⟩)
    · obtain ⟨q, hlo⟩ := oI_some c68
      have c := lfA_some hW12 hi_i hlo
      have hq12 := lOf_lt 12 q hlo
      have hqb := lf_bt i (lOf_bt 12 q hlo)
      have hqn : q < n := Nat.lt_of_not_le (fun z => by rw [hWe q z] at hqb; cases hqb)
      rw [hlo, show oI (some q) = nI q from rfl]
      refine e_aloadn d_X11_course_71 rfl ?_
      refine e_aloadn d_X11_course_72 rfl ?_
      refine e_iload d_X11_course_73 rfl ?_
      refine e_aloadn d_X11_course_75 rfl ?_
      refine e_callVI d_X11_course_76 l_X11_course_131 H_md rfl rfl (s_X11_hadBits H_md H_a ha0 hN) rfl rfl (Nat.le_of_ble_eq_true rfl) ?_
      rw [hbits]
      refine e_callRVI d_X11_course_79 l_X11_course_362 H_md rfl rfl (s_X11_asFar (T := q) (S0 := S0) (A := (2 ^ N - 1)) H_md H_a ha0 hN H_mdl (by omega) hS1 (hVm q (by omega)) hV (R q (by omega)) hRw hL8 hL9) rfl rfl (Nat.le_of_ble_eq_true rfl) (fun x_79 h_79 q_79 s_79 => ?_)
      obtain ⟨rfl, ⟨up_79, lo_79, H_md⟩, fr_79⟩ := q_79
      have H_a := fr_79.hs H_a (by first | decide | (simp; omega))
      have H_mdl := fr_79.hs H_mdl (by first | decide | (simp; omega))
      refine e_iloadn d_X11_course_82 rfl ?_
      refine e_callVI d_X11_course_83 l_X11_course_365 H_md rfl rfl (s_X11_stands H_md) rfl rfl (Nat.le_of_ble_eq_true rfl) ?_
      refine e_if_eq d_X11_course_86 (fun c86 => ?_) (fun c86 => ?_)
      · have hP : (coP ages W (fun T => stC (farC ans less (2 ^ N - 1) (dlF (DLs ca N nc kd cd many near)) T S0 (DLs ca N nc kd cd many near).length) t (DLs ca N nc kd cd many near).length)) i = false := by rw [coP, hlo]; exact Bool.eq_false_iff.mpr (bI_0.mp c86)
        have hAG : oI (agN (coP ages W (fun T => stC (farC ans less (2 ^ N - 1) (dlF (DLs ca N nc kd cd many near)) T S0 (DLs ca N nc kd cd many near).length) t (DLs ca N nc kd cd many near).length)) i) = oI (agN (coP ages W (fun T => stC (farC ans less (2 ^ N - 1) (dlF (DLs ca N nc kd cd many near)) T S0 (DLs ca N nc kd cd many near).length) t (DLs ca N nc kd cd many near).length)) (i + 1)) := by rw [ag_f (by omega) hP]
        refine e_iload d_X11_course_122 rfl ?_
        rw [h_b]
        refine e_if_eq d_X11_course_124 (fun c124 => ?_) (fun c124 => ?_)
        · have hb0 := (nI_eq (b := 0) (by omega) (by decide)).mp c124
          have hGO : oI (goN (coP ages W (fun T => stC (farC ans less (2 ^ N - 1) (dlF (DLs ca N nc kd cd many near)) T S0 (DLs ca N nc kd cd many near).length) t (DLs ca N nc kd cd many near).length)) i) = oI (goN (coP ages W (fun T => stC (farC ans less (2 ^ N - 1) (dlF (DLs ca N nc kd cd many near)) T S0 (DLs ca N nc kd cd many near).length) t (DLs ca N nc kd cd many near).length)) (i + 1)) := by rw [go_f0 hP hb0]
          refine e_iincw (w := 1) d_X11_course_137 rfl (by decide) (by decide) rfl ?_
          refine e_aloadn d_X11_course_140 rfl ?_
          refine e_iloadn d_X11_course_141 rfl ?_
          refine e_iload d_X11_course_142 rfl ?_
          refine e_callVI d_X11_course_144 l_X11_course_383 H_md rfl rfl (s_X11_nextOf_1 (X := lfA ages W (i + 1)) (b := q) H_md H_a ha1 hn hag hkk hqn (fun j hj => by rw [lf_bits hW12 i hlo, hWq, decide_eq_true hj, Bool.true_and]) (fun j hj => by rw [lf_bits hW12 i hlo, hWe j hj]; rfl)) rfl rfl (Nat.le_of_ble_eq_true rfl) ?_
          refine e_istore d_X11_course_147 (by decide) rfl ?_
          refine e_gt d_X11_course_149 ?_
          refine ih_65 (i + 1) (by omega) (by omega) _ () () _ _ _ _ _ ?_ ?_ ?_ ?_ ?_ ?_ ?_
          · first
            | exact h_F.trans fr_79
          · exact ⟨_, _, H_md⟩
          · first
            | rw [h_b, bs]
            | rw [bs]
            first
            | (rw [if_pos hP, nI_or]; done)
            | (rw [if_neg (by rw [hP]; decide), Nat.or_zero]; done)
          · exact hGO
          · exact hAG
          · exact nI_1 i
          · rfl
        · have hb0 : ¬ bs (coP ages W (fun T => stC (farC ans less (2 ^ N - 1) (dlF (DLs ca N nc kd cd many near)) T S0 (DLs ca N nc kd cd many near).length) t (DLs ca N nc kd cd many near).length)) i = 0 := fun z => c124 (by rw [z]; rfl)
          refine e_iload d_X11_course_127 rfl ?_
          refine e_iconst (v := -1) d_X11_course_129 (by decide) ?_
          refine e_icmp_ne d_X11_course_130 (fun c130 => ?_) (fun c130 => ?_)
          · obtain ⟨g9, hg9⟩ := oI_some c130
            have hGO : oI (goN (coP ages W (fun T => stC (farC ans less (2 ^ N - 1) (dlF (DLs ca N nc kd cd many near)) T S0 (DLs ca N nc kd cd many near).length) t (DLs ca N nc kd cd many near).length)) i) = oI (goN (coP ages W (fun T => stC (farC ans less (2 ^ N - 1) (dlF (DLs ca N nc kd cd many near)) T S0 (DLs ca N nc kd cd many near).length) t (DLs ca N nc kd cd many near).length)) (i + 1)) := by rw [go_f2 hP hg9, hg9]
            refine e_iincw (w := 1) d_X11_course_137 rfl (by decide) (by decide) rfl ?_
            refine e_aloadn d_X11_course_140 rfl ?_
            refine e_iloadn d_X11_course_141 rfl ?_
            refine e_iload d_X11_course_142 rfl ?_
            refine e_callVI d_X11_course_144 l_X11_course_383 H_md rfl rfl (s_X11_nextOf_1 (X := lfA ages W (i + 1)) (b := q) H_md H_a ha1 hn hag hkk hqn (fun j hj => by rw [lf_bits hW12 i hlo, hWq, decide_eq_true hj, Bool.true_and]) (fun j hj => by rw [lf_bits hW12 i hlo, hWe j hj]; rfl)) rfl rfl (Nat.le_of_ble_eq_true rfl) ?_
            refine e_istore d_X11_course_147 (by decide) rfl ?_
            refine e_gt d_X11_course_149 ?_
            refine ih_65 (i + 1) (by omega) (by omega) _ () () _ _ _ _ _ ?_ ?_ ?_ ?_ ?_ ?_ ?_
            · first
              | exact h_F.trans fr_79
            · exact ⟨_, _, H_md⟩
            · first
              | rw [h_b, bs]
              | rw [bs]
              first
              | (rw [if_pos hP, nI_or]; done)
              | (rw [if_neg (by rw [hP]; decide), Nat.or_zero]; done)
            · exact hGO
            · exact hAG
            · exact nI_1 i
            · rfl
          · have hgn := oI_none c130 (fun r hr => go_lt hr) (by omega)
            have hGO : nI i = oI (goN (coP ages W (fun T => stC (farC ans less (2 ^ N - 1) (dlF (DLs ca N nc kd cd many near)) T S0 (DLs ca N nc kd cd many near).length) t (DLs ca N nc kd cd many near).length)) (i + 1)) := by rw [go_f1 (by omega) hP hb0 hgn]; rfl
            refine e_iload d_X11_course_133 rfl ?_
            refine e_istore d_X11_course_135 (by decide) rfl ?_
            refine e_iincw (w := 1) d_X11_course_137 rfl (by decide) (by decide) rfl ?_
            refine e_aloadn d_X11_course_140 rfl ?_
            refine e_iloadn d_X11_course_141 rfl ?_
            refine e_iload d_X11_course_142 rfl ?_
            refine e_callVI d_X11_course_144 l_X11_course_383 H_md rfl rfl (s_X11_nextOf_1 (X := lfA ages W (i + 1)) (b := q) H_md H_a ha1 hn hag hkk hqn (fun j hj => by rw [lf_bits hW12 i hlo, hWq, decide_eq_true hj, Bool.true_and]) (fun j hj => by rw [lf_bits hW12 i hlo, hWe j hj]; rfl)) rfl rfl (Nat.le_of_ble_eq_true rfl) ?_
            refine e_istore d_X11_course_147 (by decide) rfl ?_
            refine e_gt d_X11_course_149 ?_
            refine ih_65 (i + 1) (by omega) (by omega) _ () () _ _ _ _ _ ?_ ?_ ?_ ?_ ?_ ?_ ?_
            · first
              | exact h_F.trans fr_79
            · exact ⟨_, _, H_md⟩
            · first
              | rw [h_b, bs]
              | rw [bs]
              first
              | (rw [if_pos hP, nI_or]; done)
              | (rw [if_neg (by rw [hP]; decide), Nat.or_zero]; done)
            · exact hGO
            · exact hAG
            · exact nI_1 i
            · rfl
      · have hP : (coP ages W (fun T => stC (farC ans less (2 ^ N - 1) (dlF (DLs ca N nc kd cd many near)) T S0 (DLs ca N nc kd cd many near).length) t (DLs ca N nc kd cd many near).length)) i = true := by rw [coP, hlo]; exact bI_1.mp (bI_z.resolve_left c86)
        have hGO : oI (goN (coP ages W (fun T => stC (farC ans less (2 ^ N - 1) (dlF (DLs ca N nc kd cd many near)) T S0 (DLs ca N nc kd cd many near).length) t (DLs ca N nc kd cd many near).length)) i) = oI (goN (coP ages W (fun T => stC (farC ans less (2 ^ N - 1) (dlF (DLs ca N nc kd cd many near)) T S0 (DLs ca N nc kd cd many near).length) t (DLs ca N nc kd cd many near).length)) (i + 1)) := by rw [go_t (by omega) hP]
        refine e_iload d_X11_course_89 rfl ?_
        refine e_iconst (v := -1) d_X11_course_91 (by decide) ?_
        refine e_icmp_eq d_X11_course_92 (fun c92 => ?_) (fun c92 => ?_)
        · have hgn := oI_none c92 (fun r hr => go_lt hr) (by omega)
          have hAG : oI (agN (coP ages W (fun T => stC (farC ans less (2 ^ N - 1) (dlF (DLs ca N nc kd cd many near)) T S0 (DLs ca N nc kd cd many near).length) t (DLs ca N nc kd cd many near).length)) i) = oI (agN (coP ages W (fun T => stC (farC ans less (2 ^ N - 1) (dlF (DLs ca N nc kd cd many near)) T S0 (DLs ca N nc kd cd many near).length) t (DLs ca N nc kd cd many near).length)) (i + 1)) := by rw [ag_t0 (by omega) hP hgn]
          refine e_iload d_X11_course_106 rfl ?_
          refine e_istore d_X11_course_108 (by decide) rfl ?_
          refine e_iload d_X11_course_110 rfl ?_
          refine e_iconst (v := 1) d_X11_course_112 (by decide) ?_
          refine e_iload d_X11_course_113 rfl ?_
          refine e_ishl d_X11_course_115 ?_
          rw [pw14 i (by omega)]
          refine e_ior d_X11_course_116 ?_
          refine e_istore d_X11_course_117 (by decide) rfl ?_
          refine e_gt d_X11_course_119 ?_
          refine e_iincw (w := 1) d_X11_course_137 rfl (by decide) (by decide) rfl ?_
          refine e_aloadn d_X11_course_140 rfl ?_
          refine e_iloadn d_X11_course_141 rfl ?_
          refine e_iload d_X11_course_142 rfl ?_
          refine e_callVI d_X11_course_144 l_X11_course_383 H_md rfl rfl (s_X11_nextOf_1 (X := lfA ages W (i + 1)) (b := q) H_md H_a ha1 hn hag hkk hqn (fun j hj => by rw [lf_bits hW12 i hlo, hWq, decide_eq_true hj, Bool.true_and]) (fun j hj => by rw [lf_bits hW12 i hlo, hWe j hj]; rfl)) rfl rfl (Nat.le_of_ble_eq_true rfl) ?_
          refine e_istore d_X11_course_147 (by decide) rfl ?_
          refine e_gt d_X11_course_149 ?_
          refine ih_65 (i + 1) (by omega) (by omega) _ () () _ _ _ _ _ ?_ ?_ ?_ ?_ ?_ ?_ ?_
          · first
            | exact h_F.trans fr_79
          · exact ⟨_, _, H_md⟩
          · first
            | rw [h_b, bs]
            | rw [bs]
            first
            | (rw [if_pos hP, nI_or]; done)
            | (rw [if_neg (by rw [hP]; decide), Nat.or_zero]; done)
          · exact hGO
          · exact hAG
          · exact nI_1 i
          · rfl
        · obtain ⟨g9, hg9⟩ := oI_some c92
          refine e_iload d_X11_course_95 rfl ?_
          refine e_iconst (v := -1) d_X11_course_97 (by decide) ?_
          refine e_icmp_ne d_X11_course_98 (fun c98 => ?_) (fun c98 => ?_)
          · obtain ⟨a9, ha9⟩ := oI_some c98
            have hAG : oI (agN (coP ages W (fun T => stC (farC ans less (2 ^ N - 1) (dlF (DLs ca N nc kd cd many near)) T S0 (DLs ca N nc kd cd many near).length) t (DLs ca N nc kd cd many near).length)) i) = oI (agN (coP ages W (fun T => stC (farC ans less (2 ^ N - 1) (dlF (DLs ca N nc kd cd many near)) T S0 (DLs ca N nc kd cd many near).length) t (DLs ca N nc kd cd many near).length)) (i + 1)) := by rw [ag_t2 (by omega) hP ha9, ha9]
            refine e_iload d_X11_course_106 rfl ?_
            refine e_istore d_X11_course_108 (by decide) rfl ?_
            refine e_iload d_X11_course_110 rfl ?_
            refine e_iconst (v := 1) d_X11_course_112 (by decide) ?_
            refine e_iload d_X11_course_113 rfl ?_
            refine e_ishl d_X11_course_115 ?_
            rw [pw14 i (by omega)]
            refine e_ior d_X11_course_116 ?_
            refine e_istore d_X11_course_117 (by decide) rfl ?_
            refine e_gt d_X11_course_119 ?_
            refine e_iincw (w := 1) d_X11_course_137 rfl (by decide) (by decide) rfl ?_
            refine e_aloadn d_X11_course_140 rfl ?_
            refine e_iloadn d_X11_course_141 rfl ?_
            refine e_iload d_X11_course_142 rfl ?_
            refine e_callVI d_X11_course_144 l_X11_course_383 H_md rfl rfl (s_X11_nextOf_1 (X := lfA ages W (i + 1)) (b := q) H_md H_a ha1 hn hag hkk hqn (fun j hj => by rw [lf_bits hW12 i hlo, hWq, decide_eq_true hj, Bool.true_and]) (fun j hj => by rw [lf_bits hW12 i hlo, hWe j hj]; rfl)) rfl rfl (Nat.le_of_ble_eq_true rfl) ?_
            refine e_istore d_X11_course_147 (by decide) rfl ?_
            refine e_gt d_X11_course_149 ?_
            refine ih_65 (i + 1) (by omega) (by omega) _ () () _ _ _ _ _ ?_ ?_ ?_ ?_ ?_ ?_ ?_
            · first
              | exact h_F.trans fr_79
            · exact ⟨_, _, H_md⟩
            · first
              | rw [h_b, bs]
              | rw [bs]
              first
              | (rw [if_pos hP, nI_or]; done)
              | (rw [if_neg (by rw [hP]; decide), Nat.or_zero]; done)
            · exact hGO
            · exact hAG
            · exact nI_1 i
            · rfl
          · have ha9 := oI_none c98 (fun r hr => ag_lt hr) (by omega)
            have hAG : nI i = oI (agN (coP ages W (fun T => stC (farC ans less (2 ^ N - 1) (dlF (DLs ca N nc kd cd many near)) T S0 (DLs ca N nc kd cd many near).length) t (DLs ca N nc kd cd many near).length)) (i + 1)) := by rw [ag_t1 (by omega) hP (by rw [hg9]; exact Option.some_ne_none _) ha9]; rfl
            refine e_iload d_X11_course_101 rfl ?_
            refine e_gt d_X11_course_103 ?_
            refine e_istore d_X11_course_108 (by decide) rfl ?_
            refine e_iload d_X11_course_110 rfl ?_
            refine e_iconst (v := 1) d_X11_course_112 (by decide) ?_
            refine e_iload d_X11_course_113 rfl ?_
            refine e_ishl d_X11_course_115 ?_
            rw [pw14 i (by omega)]
            refine e_ior d_X11_course_116 ?_
            refine e_istore d_X11_course_117 (by decide) rfl ?_
            refine e_gt d_X11_course_119 ?_
            refine e_iincw (w := 1) d_X11_course_137 rfl (by decide) (by decide) rfl ?_
            refine e_aloadn d_X11_course_140 rfl ?_
            refine e_iloadn d_X11_course_141 rfl ?_
            refine e_iload d_X11_course_142 rfl ?_
            refine e_callVI d_X11_course_144 l_X11_course_383 H_md rfl rfl (s_X11_nextOf_1 (X := lfA ages W (i + 1)) (b := q) H_md H_a ha1 hn hag hkk hqn (fun j hj => by rw [lf_bits hW12 i hlo, hWq, decide_eq_true hj, Bool.true_and]) (fun j hj => by rw [lf_bits hW12 i hlo, hWe j hj]; rfl)) rfl rfl (Nat.le_of_ble_eq_true rfl) ?_
            refine e_istore d_X11_course_147 (by decide) rfl ?_
            refine e_gt d_X11_course_149 ?_
            refine ih_65 (i + 1) (by omega) (by omega) _ () () _ _ _ _ _ ?_ ?_ ?_ ?_ ?_ ?_ ?_
            · first
              | exact h_F.trans fr_79
            · exact ⟨_, _, H_md⟩
            · first
              | rw [h_b, bs]
              | rw [bs]
              first
              | (rw [if_pos hP, nI_or]; done)
              | (rw [if_neg (by rw [hP]; decide), Nat.or_zero]; done)
            · exact hGO
            · exact hAG
            · exact nI_1 i
            · rfl
  exact hA_65 0 (by omega) _ () () _ _ _ _ _ (Fr.refl _ _) (⟨_, _, H_md⟩) (rfl) (rfl) (rfl) (rfl) (rfl)
