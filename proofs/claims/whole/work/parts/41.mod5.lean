/-! THE MODEL: gap, land, lost, back -/
theorem dU_tight {F : Nat → Bool} {V : Nat → Nat} {S k : Nat} (hV : ∀ c, c < k → F c = true → V c ≤ 99) : -(99 * ((dN F S k * dM F S k : Nat) : Int)) ≤ dU F V S k ∧ dU F V S k ≤ 99 * ((dN F S k * dM F S k : Nat) : Int) := by
  have h1 := Nat.mul_le_mul_right (dM F S k) (dS_le (S := S) hV)
  have h2 := Nat.mul_le_mul_right (dN F S k) (dR_le (S := S) hV)
  have e1 : 99 * dN F S k * dM F S k = 99 * (dN F S k * dM F S k) := Nat.mul_assoc _ _ _
  have e2 : 99 * dM F S k * dN F S k = 99 * (dN F S k * dM F S k) := by rw [Nat.mul_assoc, Nat.mul_comm (dM F S k)]
  rw [e1] at h1
  rw [e2] at h2
  unfold dU
  omega
theorem td_tight {U : Int} {L : Nat} (hL : 0 < L) (h1 : -(99 * (L : Int)) ≤ U) (h2 : U ≤ 99 * (L : Int)) : -99000 ≤ (U * 1000).tdiv (L : Int) ∧ (U * 1000).tdiv (L : Int) ≤ 99000 := by
  have h3 : ((U * 1000).tdiv (L : Int)).natAbs = (U * 1000).natAbs / L := by rw [Int.natAbs_tdiv]; rfl
  have h4 : (U * 1000).natAbs / L ≤ 99000 := Nat.div_le_of_le_mul (by rw [Nat.mul_comm]; omega)
  omega
theorem thC_t {ans less : Nat → Int32} {A T S0 : Nat} (hV : ∀ c, c < 14 → ans (T * 14 + c) = -1 ∨ ∃ v, v ≤ 99 ∧ ans (T * 14 + c) = nI v) (hz : 0 < dN (cF ans T A) S0 14 * dM (cF ans T A) S0 14) : thC ans less A T S0 = (dU (cF ans T A) (cV ans less T) S0 14 * 1000).tdiv ((dN (cF ans T A) S0 14 * dM (cF ans T A) S0 14 : Nat) : Int) ∧ -99000 ≤ thC ans less A T S0 ∧ thC ans less A T S0 ≤ 99000 := by
  have h := dU_tight (F := cF ans T A) (V := cV ans less T) (S := S0) (k := 14) (cV_99 hV)
  have := td_tight hz h.1 h.2
  rw [thC, if_neg (by omega)]
  exact ⟨rfl, this⟩
theorem thC_0 {ans less : Nat → Int32} {A T S0 : Nat} (hz : dN (cF ans T A) S0 14 * dM (cF ans T A) S0 14 = 0) : thC ans less A T S0 = -1000000 := by rw [thC, if_pos hz]
theorem i32_lt3 {a b : Int} (ha : -2147483648 ≤ a ∧ a < 2147483648) (hb : -2147483648 ≤ b ∧ b < 2147483648) : Int32.ofInt a < Int32.ofInt b ↔ a < b := by
  rw [Int32.lt_iff_toInt_lt, i32_ofInt ha.1 ha.2, i32_ofInt hb.1 hb.2]
theorem ls32 {x y : Int} (hx : -2147483648 ≤ x ∧ x < 2147483648) (hy : -2147483648 ≤ y ∧ y < 2147483648) : (if Int32.ofInt x < Int32.ofInt y then Int32.ofInt x else Int32.ofInt y) = Int32.ofInt (mnI x y) := by
  unfold mnI
  by_cases h : x < y
  · rw [if_pos ((i32_lt3 hx hy).mpr h), if_neg (by omega)]
  · rw [if_neg (fun z => h ((i32_lt3 hx hy).mp z))]
    by_cases e : y < x
    · rw [if_pos e]
    · rw [if_neg e, show x = y by omega]
theorem gr32 {x y : Int} (hx : -2147483648 ≤ x ∧ x < 2147483648) (hy : -2147483648 ≤ y ∧ y < 2147483648) : (if Int32.ofInt y < Int32.ofInt x then Int32.ofInt x else Int32.ofInt y) = Int32.ofInt (mxI x y) := by
  unfold mxI
  by_cases h : y < x
  · rw [if_pos ((i32_lt3 hy hx).mpr h), if_neg (by omega)]
  · rw [if_neg (fun z => h ((i32_lt3 hy hx).mp z))]
    by_cases e : x < y
    · rw [if_pos e]
    · rw [if_neg e, show x = y by omega]
theorem gpL_pos {ans : Nat → Int32} {T A B S : Nat} : ¬ gpL ans T A B S = 0 ↔ 0 < dN (cF ans T A) S 14 * dM (cF ans T A) S 14 ∧ 0 < dN (cF ans T B) S 14 * dM (cF ans T B) S 14 := by
  rw [gpL, Int.mul_eq_zero]
  omega
/-- an ANSWER for the bounds, as the model has it -/
def mlV (a : Nat → Int32) (T S0 : Nat) (u : Bool) (c : Nat) : Nat := if a (150 + 14 * T + c) = -1 then (if bt S0 c = u then 99 else 0) else (a (150 + 14 * T + c)).toNatClampNeg
theorem mlV_99 {a : Nat → Int32} {T S0 : Nat} {u : Bool} {c : Nat} (h : a (150 + 14 * T + c) = -1 ∨ ∃ v, v ≤ 99 ∧ a (150 + 14 * T + c) = nI v) : mlV a T S0 u c ≤ 99 := by
  unfold mlV
  split
  · split <;> omega
  · rename_i h9
    rcases h with e | ⟨v, hv, e⟩
    · exact absurd e h9
    · rw [e, clamp99 hv]; exact hv
theorem mlV_l {a ans less : Nat → Int32} {T S0 c : Nat} {u mo : Bool} (h : ans (T * 14 + c) = -1 ∨ ∃ v, v ≤ 99 ∧ ans (T * 14 + c) = nI v) (he : a (150 + 14 * T + c) = ans (T * 14 + c)) : (less T = 0 → u = mo → mlV a T S0 u c = lV ans less T S0 mo c) ∧ (less T = 1 → u = !mo → mlV a T S0 u c + lV ans less T S0 mo c = 99) := by
  unfold mlV lV
  rw [he]
  by_cases h1 : ans (T * 14 + c) = -1
  · rw [if_pos h1, if_pos h1]
    refine ⟨fun _ e => by rw [e], fun _ e => ?_⟩
    subst e
    cases bt S0 c <;> cases mo <;> rfl
  · rw [if_neg h1, if_neg h1]
    rcases h with e | ⟨v, hv, e⟩
    · exact absurd e h1
    · rw [e, clamp99 hv]
      exact ⟨fun h0 _ => by rw [cV, if_pos h0, e, clamp99 hv], fun h1 _ => by rw [cV, if_neg (by rw [h1]; decide), e, clamp99 hv]; omega⟩
def mlS (a : Nat → Int32) (T S0 : Nat) (u : Bool) (N : Nat) : Nat := sm (fun c => if bt S0 c = true then mlV a T S0 u c else 0) N
def mlR (a : Nat → Int32) (T S0 : Nat) (u : Bool) (N : Nat) : Nat := sm (fun c => if bt S0 c = true then 0 else mlV a T S0 u c) N
theorem pc_sm (S : Nat) : ∀ k, pc S k = sm (fun c => if bt S c = true then 1 else 0) k
  | 0 => rfl
  | k + 1 => by rw [pc, sm, pc_sm S k]
theorem npc_sm (S : Nat) : ∀ k, k - pc S k = sm (fun c => if bt S c = true then 0 else 1) k
  | 0 => rfl
  | k + 1 => by
    have h := npc_sm S k
    have h2 := pc_le S k
    rw [pc, sm, ← h]
    split <;> omega
theorem ml_l {a ans less : Nat → Int32} {T S0 N : Nat} {u mo : Bool} (hV : ∀ c, c < N → ans (T * 14 + c) = -1 ∨ ∃ v, v ≤ 99 ∧ ans (T * 14 + c) = nI v) (he : ∀ c, c < N → a (150 + 14 * T + c) = ans (T * 14 + c)) :
    (less T = 0 → u = mo → mlS a T S0 u N = loS ans less T S0 mo N ∧ mlR a T S0 u N = loR ans less T S0 mo N) ∧ (less T = 1 → u = !mo → mlS a T S0 u N + loS ans less T S0 mo N = 99 * pc S0 N ∧ mlR a T S0 u N + loR ans less T S0 mo N = 99 * (N - pc S0 N)) := by
  refine ⟨fun h0 e => ⟨?_, ?_⟩, fun h1 e => ⟨?_, ?_⟩⟩
  · refine sm_cong (fun c hc => ?_)
    rw [(mlV_l (S0 := S0) (hV c hc) (he c hc)).1 h0 e]
  · refine sm_cong (fun c hc => ?_)
    rw [(mlV_l (S0 := S0) (hV c hc) (he c hc)).1 h0 e]
  · rw [pc_sm, ← sm_mul, mlS, loS, ← sm_add]
    refine sm_cong (fun c hc => ?_)
    have := (mlV_l (S0 := S0) (hV c hc) (he c hc)).2 h1 e
    split <;> omega
  · rw [npc_sm, ← sm_mul, mlR, loR, ← sm_add]
    refine sm_cong (fun c hc => ?_)
    have := (mlV_l (S0 := S0) (hV c hc) (he c hc)).2 h1 e
    split <;> omega
theorem pc_N {S N : Nat} (hS : S < 2 ^ N) (hN : N ≤ 14) : pc S 14 = pc S N := by
  have h1 : ∀ k, N + k ≤ 14 → pc S (N + k) = pc S N := by
    intro k
    induction k with
    | zero => intro _; rfl
    | succ k ih =>
      intro hk
      rw [← Nat.add_assoc, pc, ih (by omega), bt_ge hS (by omega)]; simp
  have := h1 (14 - N) (by omega)
  rwa [show N + (14 - N) = 14 by omega] at this
theorem bk_t {pr : Nat → Nat} {d : Nat → Int} {S : Nat} : ∀ {n : Nat}, (∀ t, t < n → pr t ≤ 999 ∧ (d t = -1000000 ∨ -99000 ≤ d t ∧ d t ≤ 99000)) → (-(98901000 * (n : Int)) ≤ (bkA pr d S n).1 ∧ (bkA pr d S n).1 ≤ 98901000 * (n : Int)) ∧ (-98901000 ≤ (bkA pr d S n).2.2 ∧ (bkA pr d S n).2.2 ≤ 98901000) ∧ ∀ r, (bkA pr d S n).2.1 = some r → r < n
  | 0, _ => by simp [bkA]
  | n + 1, h => by
    obtain ⟨h1, h2, h3⟩ := bk_t (S := S) (fun t ht => h t (Nat.lt_succ_of_lt ht))
    obtain ⟨p1, p2⟩ := h n (Nat.lt_succ_self n)
    rw [bkA]
    split
    · rename_i hc
      have hm : -98901000 ≤ (pr n : Int) * d n ∧ (pr n : Int) * d n ≤ 98901000 := by
        have q1 : (pr n : Int).natAbs * (d n).natAbs ≤ 999 * 99000 := Nat.mul_le_mul (by omega) (by omega)
        rw [← Int.natAbs_mul] at q1
        omega
      dsimp only
      refine ⟨by omega, ?_, ?_⟩
      · split
        · exact hm
        · exact h2
      · intro r hr
        split at hr
        · simp at hr; omega
        · have := h3 r hr; omega
    · exact ⟨by omega, h2, fun r hr => by have := h3 r hr; omega⟩

theorem s_X11_gaps {h : AH} {N T S A B : Nat} {a : Nat → Int32} {ans less : Nat → Int32} {mtp mfl mfa mln mat mtk mso mto mwr mwp mop mfs mws mst mnc mnk mnr mdn : Int32} {mup mlo mgu mgl : Int64} (H_md : Hs h 66 (oMd mtp mfl mfa mup mlo mln mat mtk mso mto mwr mwp mop mfs mws mst mnc mnk mnr mdn mgu mgl)) (H_a : Hs h 67 (aI 380 a)) (ha0 : a 0 = nI N) (hN : N ≤ 14) (hT : T < 12) (hS : S < 16384) (hVm : ∀ c, c < N → a (150 + 14 * T + c) = -1 ∨ ∃ v, v ≤ 99 ∧ a (150 + 14 * T + c) = nI v) (hV : ∀ t, t < 12 → ∀ c, c < 14 → ans (t * 14 + c) = -1 ∨ ∃ v, v ≤ 99 ∧ ans (t * 14 + c) = nI v) (RA : mAn a ans less N T A 0) (RB : mAn a ans less N T B 1) : Sp M_X11_gaps (0, 0) h [.ref 66, .int (nI T), .int (nI S)] (rI (fun x h' => x = bI (¬ gpL ans T A B S = 0) ∧ Fr [66] h h' ∧ ∃ up9 lo9 gu9 gl9 : Int64, Hs h' 66 (oMd mtp mfl mfa up9 lo9 mln mat mtk mso mto mwr mwp mop mfs mws mst mnc mnk mnr mdn gu9 gl9) ∧ (¬ gpL ans T A B S = 0 → gu9 = Int64.ofInt (gpU ans less T A B S) ∧ gl9 = Int64.ofInt (gpL ans T A B S)))) := by
  refine ⟨Nat.le_of_ble_eq_true rfl, ?_⟩
  show E _ _ _ 0 h [some (.ref 66), some (.int (nI T)), some (.int (nI S)), none, none, none, none] []
  refine e_aloadn d_X11_gaps_0 rfl ?_
  refine e_iloadn d_X11_gaps_1 rfl ?_
  refine e_iloadn d_X11_gaps_2 rfl ?_
  refine e_iconst (v := 0) d_X11_gaps_3 (by decide) ?_
  refine e_callRVI d_X11_gaps_4 l_X11_gaps_135 H_md rfl rfl (s_X11_differs2 (T := T) (S := S) (A := A) H_md H_a ha0 hN hT hS hVm (hV T hT) RA) rfl rfl (Nat.le_of_ble_eq_true rfl) (fun x_4 h_4 q_4 s_4 => ?_)
  obtain ⟨rfl, H_md, fr_4⟩ := q_4
  have H_a := fr_4.hs H_a (by first | decide | (simp; omega))
  refine e_if_ne d_X11_gaps_7 (fun c7 => ?_) (fun c7 => ?_)
  · refine e_aloadn d_X11_gaps_12 rfl ?_
    refine e_get d_X11_gaps_13 f_X11_119 H_md rfl ?_
    refine e_lstoren d_X11_gaps_16 (by decide) rfl ?_
    refine e_aloadn d_X11_gaps_17 rfl ?_
    refine e_get d_X11_gaps_18 f_X11_126 H_md rfl ?_
    refine e_lstore d_X11_gaps_21 (by decide) rfl ?_
    refine e_aloadn d_X11_gaps_23 rfl ?_
    refine e_iloadn d_X11_gaps_24 rfl ?_
    refine e_iloadn d_X11_gaps_25 rfl ?_
    refine e_iconst (v := 1) d_X11_gaps_26 (by decide) ?_
    refine e_callRVI d_X11_gaps_27 l_X11_gaps_135 H_md rfl rfl (s_X11_differs2 (T := T) (S := S) (A := B) H_md H_a ha0 hN hT hS hVm (hV T hT) RB) rfl rfl (Nat.le_of_ble_eq_true rfl) (fun x_27 h_27 q_27 s_27 => ?_)
    obtain ⟨rfl, H_md, fr_27⟩ := q_27
    have H_a := fr_27.hs H_a (by first | decide | (simp; omega))
    refine e_if_ne d_X11_gaps_30 (fun c30 => ?_) (fun c30 => ?_)
    · have hUA := dU_bnd (F := cF ans T A) (V := cV ans less T) (S := S) (k := 14) (by decide) (cV_99 (hV T hT))
      have hLA := dNM_mul (F := cF ans T A) (S := S) (k := 14) (by decide)
      have hUB := dU_bnd (F := cF ans T B) (V := cV ans less T) (S := S) (k := 14) (by decide) (cV_99 (hV T hT))
      have hLB := dNM_mul (F := cF ans T B) (S := S) (k := 14) (by decide)
      have hab := mul_in hUA (b := (((dN (cF ans T B) S 14 * dM (cF ans T B) S 14) : Nat) : Int)) (by omega)
      have hba := mul_in hUB (b := (((dN (cF ans T A) S 14 * dM (cF ans T A) S 14) : Nat) : Int)) (by omega)
      refine e_aloadn d_X11_gaps_35 rfl ?_
      refine e_lloadn d_X11_gaps_36 rfl ?_
      refine e_aloadn d_X11_gaps_37 rfl ?_
      refine e_get d_X11_gaps_38 f_X11_126 H_md rfl ?_
      refine e_lmul d_X11_gaps_41 ?_
      rw [← Int64.ofInt_mul]
      refine e_aloadn d_X11_gaps_42 rfl ?_
      refine e_get d_X11_gaps_43 f_X11_119 H_md rfl ?_
      refine e_lload d_X11_gaps_46 rfl ?_
      refine e_lmul d_X11_gaps_48 ?_
      rw [← Int64.ofInt_mul]
      refine e_lsub d_X11_gaps_49 ?_
      rw [← Int64.ofInt_sub]
      refine e_callSJ d_X11_gaps_50 l_X11_gaps_353 (s_X11_away (by omega)) rfl rfl (Nat.le_of_ble_eq_true rfl) ?_
      refine e_putj d_X11_gaps_53 f_X11_387 H_md (Nat.le_of_ble_eq_true rfl) ?_
      refine e_aloadn d_X11_gaps_56 rfl ?_
      refine e_lload d_X11_gaps_57 rfl ?_
      refine e_aloadn d_X11_gaps_59 rfl ?_
      refine e_get d_X11_gaps_60 f_X11_126 H_md.s rfl ?_
      refine e_lmul d_X11_gaps_63 ?_
      rw [← Int64.ofInt_mul]
      refine e_putj d_X11_gaps_64 f_X11_390 H_md.s (Nat.le_of_ble_eq_true rfl) ?_
      refine e_iconst (v := 1) d_X11_gaps_67 (by decide) ?_
      exact e_iret d_X11_gaps_68 rfl (rfl) (⟨_, rfl, by rw [bI_t (gpL_pos.mpr ⟨bI_1.mp (bI_z.resolve_left c7), bI_1.mp (bI_z.resolve_left c30)⟩)], ((fr_4.trans fr_27).up (by decide)).up (by decide), _, _, _, _, H_md.s.s, fun _ => ⟨rfl, rfl⟩⟩)
    · refine e_iconst (v := 0) d_X11_gaps_33 (by decide) ?_
      exact e_iret d_X11_gaps_34 rfl (rfl) (⟨_, rfl, by rw [bI_f (fun z => bI_0.mp c30 (gpL_pos.mp z).2)], fr_4.trans fr_27, _, _, _, _, H_md, fun z => absurd (gpL_pos.mp z).2 (bI_0.mp c30)⟩)
  · refine e_iconst (v := 0) d_X11_gaps_10 (by decide) ?_
    exact e_iret d_X11_gaps_11 rfl (rfl) (⟨_, rfl, by rw [bI_f (fun z => bI_0.mp c7 (gpL_pos.mp z).1)], fr_4, _, _, _, _, H_md, fun z => absurd (gpL_pos.mp z).1 (bI_0.mp c7)⟩)

theorem s_X11_gap {h : AH} {N n S0 : Nat} {ca : Nat → Nat → Nat} {a : Nat → Int32} {ans less : Nat → Int32} {mtp mfl mfa mln mat mtk mso mto mwr mwp mop mfs mws mst mnc mnk mnr mdn : Int32} {mup mlo mgu mgl : Int64} {tp nc tcn : Nat} {kd : Nat → Nat} {cd : Nat → List Nat} {many near : Int32} {dl0 : Nat → Int32} {T A B : Nat} (H_md : Hs h 66 (oMd mtp mfl mfa mup mlo mln mat mtk mso mto mwr mwp mop mfs mws mst mnc mnk mnr mdn mgu mgl)) (H_a : Hs h 67 (aI 380 a)) (ha0 : a 0 = nI N) (hN : N ≤ 14) (hca : ∀ c k, c < N → k < 4 → ca c k ≤ 99) (hca4 : ∀ c k, c < N → k < 4 → a (10 + 5 * c + k) = nI (ca c k)) (ha1 : a 1 = nI n) (hn : n ≤ 12) (hbits : bitsOf (fun c => a (80 + c)) N = nI S0) (hS0 : S0 < 2 ^ N) (hV : ∀ t, t < 12 → ∀ c, c < 14 → ans (t * 14 + c) = -1 ∨ ∃ v, v ≤ 99 ∧ ans (t * 14 + c) = nI v) (hVm : ∀ t, t < n → ∀ c, c < N → a (150 + 14 * t + c) = -1 ∨ ∃ v, v ≤ 99 ∧ a (150 + 14 * t + c) = nI v) (R : ∀ t, t < n → mAn a ans less N t (2 ^ N - 1) 2) (ha2 : a 2 = nI tcn) (htp : tp < tcn) (htc : tcn ≤ 6) (hT0 : TxM h tp nc kd cd many near) (hok : okT nc kd cd) (hR0 : MdR h) (H_mdl : Hs h 87 (aI 16384 dl0)) (hTn : T < n) (RA : mAn a ans less N T A 0) (RB : mAn a ans less N T B 1) : Sp M_X11_gap (0, 0) h [.ref 66, .int (nI tp), .int (nI T)] (rI (fun x h' => x = gapA ans less T A B S0 (dlF (DLs ca N nc kd cd many near)) (DLs ca N nc kd cd many near).length ∧ MdZ h h' mtp mfl mfa)) := by
  refine ⟨Nat.le_of_ble_eq_true rfl, ?_⟩
  show E _ _ _ 0 h [some (.ref 66), some (.int (nI tp)), some (.int (nI T)), none, none, none, none, none, none] []
  have hS1 : S0 < 16384 := Nat.lt_of_lt_of_le hS0 (pw_31 N hN)
  obtain ⟨⟨⟨nms0, H_mnm⟩, pi0, H_mpi⟩, ⟨wi0, H_mwi⟩, wo0, H_mwo⟩ := id hR0
  refine e_aloadn d_X11_gap_0 rfl ?_
  refine e_iloadn d_X11_gap_1 rfl ?_
  refine e_callVI d_X11_gap_2 l_X11_gap_356 H_md rfl rfl (s_X11_isText H_md H_a) rfl rfl (Nat.le_of_ble_eq_true rfl) ?_
  refine e_if_eq d_X11_gap_5 (fun z => by first | exact absurd (fun z => bI_0.mp z ⟨(nI_leI (a := 0) (by decide) (by omega)).mpr (by omega), by rw [ha2, nI_le1 (by omega)]; exact (nI_leI (by omega) (by omega)).mpr (by omega)⟩) z | exact absurd z (fun z => bI_0.mp z ⟨(nI_leI (a := 0) (by decide) (by omega)).mpr (by omega), by rw [ha2, nI_le1 (by omega)]; exact (nI_leI (by omega) (by omega)).mpr (by omega)⟩)) (fun _ => ?_)
  refine e_aloadn d_X11_gap_8 rfl ?_
  refine e_iloadn d_X11_gap_9 rfl ?_
  refine e_callVI d_X11_gap_10 l_X11_gap_109 H_md rfl rfl (s_X11_isThing H_md H_a) rfl rfl (Nat.le_of_ble_eq_true rfl) ?_
  refine e_if_ne d_X11_gap_13 (fun _ => ?_) (fun z => by first | exact absurd (fun z => bI_0.mp z ⟨(nI_leI (a := 0) (by decide) (by omega)).mpr (by omega), by rw [ha1, nI_le1 (by omega)]; exact (nI_leI (by omega) (by omega)).mpr (by omega)⟩) z | exact absurd z (fun z => bI_0.mp z ⟨(nI_leI (a := 0) (by decide) (by omega)).mpr (by omega), by rw [ha1, nI_le1 (by omega)]; exact (nI_leI (by omega) (by omega)).mpr (by omega)⟩))
  refine e_aloadn d_X11_gap_18 rfl ?_
  refine e_iloadn d_X11_gap_19 rfl ?_
  have hLq := DL_len (fit := fitB ca N nc kd cd many near) (over := ovN ca N nc kd cd) (2 ^ N)
  have hLp := pw_31 N hN
  have hL8 : (DLs ca N nc kd cd many near).length ≤ 16384 := Nat.le_trans hLq hLp
  have hL9 : ∀ x, x ∈ (DLs ca N nc kd cd many near) → x < 16384 := fun x hx => Nat.lt_of_lt_of_le (DL_lt x hx) hLp
  refine e_callRVV d_X11_gap_20 l_X11_gap_359 H_md rfl rfl (s_X11_laysDeals H_md H_a ha0 hN hca hca4 hT0 hok H_mnm H_mpi H_mwi H_mwo H_mdl) rfl rfl (Nat.le_of_ble_eq_true rfl) (fun h_20 q_20 s_20 => ?_)
  obtain ⟨H_md, ⟨dl, H_mdl, hRw⟩, hR9, fq⟩ := q_20
  have H_a := fq.hs H_a (by first | decide | (simp; omega))
  have H9_a := H_a
  have H9_mdl := H_mdl
  refine e_aloadn d_X11_gap_23 rfl ?_
  refine e_get d_X11_gap_24 f_X11_343 H_md rfl ?_
  refine e_if_eq d_X11_gap_27 (fun c27 => ?_) (fun c27 => ?_)
  · have hd0 : (DLs ca N nc kd cd many near).length = 0 := (nI_eq (b := 0) (by omega) (by decide)).mp c27
    refine e_iconst (v := -1) d_X11_gap_42 (by decide) ?_
    exact e_iret d_X11_gap_43 rfl (rfl) (⟨_, rfl, by first | (rw [gapA, if_pos (Or.inr hd0)]; done) | (rw [gapA, if_pos (Or.inl hz)]; done), by first | exact ⟨⟨_, _, _, _, _, _, _, _, _, _, _, _, _, _, _, _, _, _, _, H_md⟩, ⟨dl, H_mdl⟩, MdR.fr hR9 (fr_36) (by decide), ((fq.mono (by decide)).trans ((fr_36).mono (by decide)))⟩ | exact ⟨⟨_, _, _, _, _, _, _, _, _, _, _, _, _, _, _, _, _, _, _, H_md⟩, ⟨dl, H_mdl⟩, hR9, fq.mono (by decide)⟩⟩)
  · have hd0 : ¬ (DLs ca N nc kd cd many near).length = 0 := fun z => c27 (by rw [z]; rfl)
    refine e_aloadn d_X11_gap_30 rfl ?_
    refine e_iloadn d_X11_gap_31 rfl ?_
    refine e_aloadn d_X11_gap_32 rfl ?_
    refine e_callVI d_X11_gap_33 l_X11_gap_131 H_md rfl rfl (s_X11_hadBits H_md H_a ha0 hN) rfl rfl (Nat.le_of_ble_eq_true rfl) ?_
    rw [hbits]
    refine e_callRVI d_X11_gap_36 l_X11_gap_393 H_md rfl rfl (s_X11_gaps (T := T) (S := S0) (A := A) (B := B) H_md H_a ha0 hN (by omega) hS1 (hVm T hTn) hV RA RB) rfl rfl (Nat.le_of_ble_eq_true rfl) (fun x_36 h_36 q_36 s_36 => ?_)
    obtain ⟨rfl, fr_36, up_36, lo_36, gu_36, gl_36, H_md, hg_36⟩ := q_36
    have H_a := fr_36.hs H_a (by first | decide | (simp; omega))
    have H_mdl := fr_36.hs H_mdl (by first | decide | (simp; omega))
    refine e_if_ne d_X11_gap_39 (fun c39 => ?_) (fun c39 => ?_)
    · have hz := bI_1.mp (bI_z.resolve_left c39)
      obtain ⟨rfl, rfl⟩ := hg_36 hz
      have G_a := H_a
      have G_mdl := H_mdl
      have fr0 := fr_36
      refine e_aloadn d_X11_gap_44 rfl ?_
      refine e_get d_X11_gap_45 f_X11_387 H_md rfl ?_
      refine e_lstoren d_X11_gap_48 (by decide) rfl ?_
      refine e_aloadn d_X11_gap_49 rfl ?_
      refine e_get d_X11_gap_50 f_X11_390 H_md rfl ?_
      refine e_lstore d_X11_gap_53 (by decide) rfl ?_
      refine e_iconst (v := 0) d_X11_gap_55 (by decide) ?_
      refine e_istore d_X11_gap_56 (by decide) rfl ?_
      refine e_iconst (v := 0) d_X11_gap_58 (by decide) ?_
      refine e_istore d_X11_gap_59 (by decide) rfl ?_
      have hA_61 : ∀ i, i ≤ (DLs ca N nc kd cd many near).length → ∀ (k : AH) (F : Unit) (M : Unit) (f : Int32) (y : Int32), (Fr [66] h_20 k) → (∃ up9 lo9 gu9 gl9 : Int64, Hs k 66 (oMd mtp mfl mfa up9 lo9 mln mat mtk mso mto mwr mwp mop mfs mws mst mnc mnk mnr (nI (DLs ca N nc kd cd many near).length) gu9 gl9)) → (f = nI (cnt (gpF ans less T A B S0) (dlF (DLs ca N nc kd cd many near)) i)) → (y = nI i) → E M_X11_gap (0, 0) (rI (fun x h' => x = gapA ans less T A B S0 (dlF (DLs ca N nc kd cd many near)) (DLs ca N nc kd cd many near).length ∧ MdZ h h' mtp mfl mfa)) 61 (k) [some (.ref 66), some (.int (nI tp)), some (.int (nI T)), some (.long (Int64.ofInt (gpU ans less T A B S0))), none, some (.long (Int64.ofInt (gpL ans T A B S0))), none, some (.int f), some (.int y)] [] := by
        refine loop_ind (n := (DLs ca N nc kd cd many near).length) ?_
        intro i hi_i ih_61 k F M f y h_F h_M h_f h_y
        subst h_y
        obtain ⟨up9, lo9, gu9, gl9, H_md⟩ := id h_M
        have gg := h_F
        have H_a := h_F.hs H9_a (by decide)
        have H_mdl := h_F.hs H9_mdl (by decide)
        refine e_iload d_X11_gap_61 rfl ?_
        refine e_aloadn d_X11_gap_63 rfl ?_
        refine e_get d_X11_gap_64 f_X11_343 H_md rfl ?_
        refine e_icmp_ge d_X11_gap_67 (fun c => ?_) (fun c => ?_)
        · have c := i_le (by omega) (by omega) c
          have ei : i = (DLs ca N nc kd cd many near).length := by omega
          refine e_iload d_X11_gap_118 rfl ?_
          exact e_iret d_X11_gap_120 rfl (rfl) (⟨_, rfl, by rw [h_f, ei, gapA, if_neg (by omega)], ⟨⟨_, _, _, _, _, _, _, _, _, _, _, _, _, _, _, _, _, _, _, H_md⟩, ⟨dl, H_mdl⟩, MdR.fr hR9 (h_F) (by decide), ((fq.mono (by decide)).trans ((h_F).mono (by decide)))⟩⟩)
        · have c := i_nle (by omega) (by omega) c
          refine e_iload d_X11_gap_70 rfl ?_
          refine e_aloadn d_X11_gap_72 rfl ?_
          refine e_iloadn d_X11_gap_73 rfl ?_
          refine e_aloadn d_X11_gap_74 rfl ?_
          refine e_get d_X11_gap_75 f_X11_79 H_md rfl ?_
          refine e_iload d_X11_gap_78 rfl ?_
          refine e_ialdN (k := i) d_X11_gap_80 H_mdl rfl (by omega) (by omega) ?_
          have hr1 : dl i = nI (dlF (DLs ca N nc kd cd many near) i) := hRw i _ (dlF_at c)
          have hr2 : dlF (DLs ca N nc kd cd many near) i < 16384 := hL9 _ (List.mem_of_getElem? (dlF_at c))
          rw [hr1]
          generalize hds : dlF (DLs ca N nc kd cd many near) i = ds at hr2
          refine e_callRVI d_X11_gap_81 l_X11_gap_393 H_md rfl rfl (s_X11_gaps (T := T) (S := ds) (A := A) (B := B) H_md H_a ha0 hN (by omega) hr2 (hVm T hTn) hV RA RB) rfl rfl (Nat.le_of_ble_eq_true rfl) (fun x_81 h_81 q_81 s_81 => ?_)
          obtain ⟨rfl, fr_81, up_81, lo_81, gu_81, gl_81, H_md, hg_81⟩ := q_81
          have H_a := fr_81.hs H_a (by first | decide | (simp; omega))
          have H_mdl := fr_81.hs H_mdl (by first | decide | (simp; omega))
          refine e_if_eq d_X11_gap_84 (fun c84 => ?_) (fun c84 => ?_)
          · have hP : (gpF ans less T A B S0) (dlF (DLs ca N nc kd cd many near) i) = false := by rw [hds, gpF, decide_eq_false_iff_not]; exact fun z => bI_0.mp c84 z.1
            refine e_iconst (v := 0) d_X11_gap_108 (by decide) ?_
            refine e_iadd d_X11_gap_109 ?_
            refine e_istore d_X11_gap_110 (by decide) rfl ?_
            refine e_iincw (w := 1) d_X11_gap_112 rfl (by decide) (by decide) rfl ?_
            refine e_gt d_X11_gap_115 ?_
            refine ih_61 (i + 1) (by omega) (by omega) _ () () _ _ ?_ ?_ ?_ ?_
            · exact h_F.trans fr_81
            · exact ⟨_, _, _, _, H_md⟩
            · rw [h_f, cnt, cnt, sm]
              first | (rw [if_pos hP, nI_1]; done) | (rw [if_neg (by simpa using hP)]; exact nI_p0 _)
            · exact nI_1 i
          · have hz2 := bI_1.mp (bI_z.resolve_left c84)
            obtain ⟨rfl, rfl⟩ := hg_81 hz2
            refine e_aloadn d_X11_gap_87 rfl ?_
            refine e_get d_X11_gap_88 f_X11_387 H_md rfl ?_
            refine e_lload d_X11_gap_91 rfl ?_
            refine e_lmul d_X11_gap_93 ?_
            refine e_lloadn d_X11_gap_94 rfl ?_
            refine e_aloadn d_X11_gap_95 rfl ?_
            refine e_get d_X11_gap_96 f_X11_390 H_md rfl ?_
            refine e_lmul d_X11_gap_99 ?_
            rw [← Int64.ofInt_mul, ← Int64.ofInt_mul]
            have hcmp := i64_lt (gpm_in (gpU_in (less := less) (A := A) (B := B) (S := ds) (hV T (by omega))) (gpL_in (ans := ans) (T := T) (A := A) (B := B) (S := S0))) (gpm_in (gpU_in (less := less) (A := A) (B := B) (S := S0) (hV T (by omega))) (gpL_in (ans := ans) (T := T) (A := A) (B := B) (S := ds)))
            refine e_lcmp_lt d_X11_gap_100 d_X11_gap_101 (fun c100 => ?_) (fun c100 => ?_)
            · have hP : (gpF ans less T A B S0) (dlF (DLs ca N nc kd cd many near) i) = false := by rw [hds, gpF, decide_eq_false_iff_not]; exact fun z => absurd (hcmp.mp c100) (by omega)
              refine e_iconst (v := 0) d_X11_gap_108 (by decide) ?_
              refine e_iadd d_X11_gap_109 ?_
              refine e_istore d_X11_gap_110 (by decide) rfl ?_
              refine e_iincw (w := 1) d_X11_gap_112 rfl (by decide) (by decide) rfl ?_
              refine e_gt d_X11_gap_115 ?_
              refine ih_61 (i + 1) (by omega) (by omega) _ () () _ _ ?_ ?_ ?_ ?_
              · exact h_F.trans fr_81
              · exact ⟨_, _, _, _, H_md⟩
              · rw [h_f, cnt, cnt, sm]
                first | (rw [if_pos hP, nI_1]; done) | (rw [if_neg (by simpa using hP)]; exact nI_p0 _)
              · exact nI_1 i
            · have hP : (gpF ans less T A B S0) (dlF (DLs ca N nc kd cd many near) i) = true := by rw [hds, gpF, decide_eq_true_eq]; exact ⟨hz2, Int.not_lt.mp (fun z => c100 (hcmp.mpr z))⟩
              refine e_iconst (v := 1) d_X11_gap_104 (by decide) ?_
              refine e_gt d_X11_gap_105 ?_
              refine e_iadd d_X11_gap_109 ?_
              refine e_istore d_X11_gap_110 (by decide) rfl ?_
              refine e_iincw (w := 1) d_X11_gap_112 rfl (by decide) (by decide) rfl ?_
              refine e_gt d_X11_gap_115 ?_
              refine ih_61 (i + 1) (by omega) (by omega) _ () () _ _ ?_ ?_ ?_ ?_
              · exact h_F.trans fr_81
              · exact ⟨_, _, _, _, H_md⟩
              · rw [h_f, cnt, cnt, sm]
                first | (rw [if_pos hP, nI_1]; done) | (rw [if_neg (by simpa using hP)]; exact nI_p0 _)
              · exact nI_1 i
      exact hA_61 0 (by omega) _ () () _ _ (fr_36) (⟨_, _, _, _, H_md⟩) (rfl) (rfl)
    · have hz := Decidable.of_not_not (bI_0.mp c39)
      refine e_iconst (v := -1) d_X11_gap_42 (by decide) ?_
      exact e_iret d_X11_gap_43 rfl (rfl) (⟨_, rfl, by first | (rw [gapA, if_pos (Or.inr hd0)]; done) | (rw [gapA, if_pos (Or.inl hz)]; done), by first | exact ⟨⟨_, _, _, _, _, _, _, _, _, _, _, _, _, _, _, _, _, _, _, H_md⟩, ⟨dl, H_mdl⟩, MdR.fr hR9 (fr_36) (by decide), ((fq.mono (by decide)).trans ((fr_36).mono (by decide)))⟩ | exact ⟨⟨_, _, _, _, _, _, _, _, _, _, _, _, _, _, _, _, _, _, _, H_md⟩, ⟨dl, H_mdl⟩, hR9, fq.mono (by decide)⟩⟩)

theorem thr_q {lo hi : Nat → Int} {d : Int} {n i : Nat} (hd : -99000 ≤ d ∧ d ≤ 99000) (hi9 : i < n) (hn : n ≤ 8) (h : ∀ j, j < n → (-200 ≤ lo j ∧ lo j ≤ 200) ∧ -200 ≤ hi j ∧ hi j ≤ 200) : (-50688000 ≤ ((thr lo hi d i).1 * lo i).tdiv 100 ∧ ((thr lo hi d i).1 * lo i).tdiv 100 ≤ 50688000) ∧ (-50688000 ≤ ((thr lo hi d i).1 * hi i).tdiv 100 ∧ ((thr lo hi d i).1 * hi i).tdiv 100 ≤ 50688000) ∧ (-50688000 ≤ ((thr lo hi d i).2 * lo i).tdiv 100 ∧ ((thr lo hi d i).2 * lo i).tdiv 100 ≤ 50688000) ∧ -50688000 ≤ ((thr lo hi d i).2 * hi i).tdiv 100 ∧ ((thr lo hi d i).2 * hi i).tdiv 100 ≤ 50688000 := by
  have h1 := thr_in (lo := lo) (hi := hi) (b := 99000) hd (fun j (hj : j < i) => h j (by omega))
  have h2 : (2 : Int) ^ i ≤ 256 := by
    have h3 : 2 ^ i ≤ 2 ^ 8 := Nat.pow_le_pow_right (by decide) (by omega)
    have : ((2 ^ i : Nat) : Int) ≤ ((2 ^ 8 : Nat) : Int) := by omega
    simpa using this
  obtain ⟨w1, w2⟩ := h i hi9
  have b1 : -25344000 ≤ (thr lo hi d i).1 ∧ (thr lo hi d i).1 ≤ 25344000 := by omega
  have b2 : -25344000 ≤ (thr lo hi d i).2 ∧ (thr lo hi d i).2 ≤ 25344000 := by omega
  exact ⟨td_in b1 w1, td_in b1 w2, td_in b2 w1, td_in b2 w2⟩
theorem s_X11_land {h : AH} {N n S0 : Nat} {ca : Nat → Nat → Nat} {a : Nat → Int32} {ans less : Nat → Int32} {mtp mfl mfa mln mat mtk mso mto mwr mwp mop mfs mws mst mnc mnk mnr mdn : Int32} {mup mlo mgu mgl : Int64} {T n9 : Nat} {lo hi : Nat → Int} {b : Int32} (H_md : Hs h 66 (oMd mtp mfl mfa mup mlo mln mat mtk mso mto mwr mwp mop mfs mws mst mnc mnk mnr mdn mgu mgl)) (H_a : Hs h 67 (aI 380 a)) (ha0 : a 0 = nI N) (hN : N ≤ 14) (hca : ∀ c k, c < N → k < 4 → ca c k ≤ 99) (hca4 : ∀ c k, c < N → k < 4 → a (10 + 5 * c + k) = nI (ca c k)) (ha1 : a 1 = nI n) (hn : n ≤ 12) (hbits : bitsOf (fun c => a (80 + c)) N = nI S0) (hS0 : S0 < 2 ^ N) (hV : ∀ t, t < 12 → ∀ c, c < 14 → ans (t * 14 + c) = -1 ∨ ∃ v, v ≤ 99 ∧ ans (t * 14 + c) = nI v) (hVm : ∀ t, t < n → ∀ c, c < N → a (150 + 14 * t + c) = -1 ∨ ∃ v, v ≤ 99 ∧ a (150 + 14 * t + c) = nI v) (R : ∀ t, t < n → mAn a ans less N t (2 ^ N - 1) 2) (hTn : T < n) (ha4 : a 4 = nI n9) (hns : n9 ≤ 8) (hlo : ∀ j, j < n9 → a (360 + 2 * j) = Int32.ofInt (lo j) ∧ a (360 + 2 * j + 1) = Int32.ofInt (hi j)) (hlh : ∀ j, j < n9 → (-200 ≤ lo j ∧ lo j ≤ 200) ∧ -200 ≤ hi j ∧ hi j ≤ 200) : Sp M_X11_land (0, 0) h [.ref 66, .int (nI T), .int b] (rI (fun x h' => x = landA lo hi n9 (thC ans less (2 ^ N - 1) T S0) b ∧ MdO h' mtp mfl mfa ∧ Fr [66] h h')) := by
  refine ⟨Nat.le_of_ble_eq_true rfl, ?_⟩
  show E _ _ _ 0 h [some (.ref 66), some (.int (nI T)), some (.int b), none, none, none, none, none, none, none, none, none] []
  have hS1 : S0 < 16384 := Nat.lt_of_lt_of_le hS0 (pw_31 N hN)
  refine e_aloadn d_X11_land_0 rfl ?_
  refine e_iloadn d_X11_land_1 rfl ?_
  refine e_callVI d_X11_land_2 l_X11_land_109 H_md rfl rfl (s_X11_isThing H_md H_a) rfl rfl (Nat.le_of_ble_eq_true rfl) ?_
  refine e_if_eq d_X11_land_5 (fun z => by first | exact absurd (fun z => bI_0.mp z ⟨(nI_leI (a := 0) (by decide) (by omega)).mpr (by omega), by rw [ha1, nI_le1 (by omega)]; exact (nI_leI (by omega) (by omega)).mpr (by omega)⟩) z | exact absurd z (fun z => bI_0.mp z ⟨(nI_leI (a := 0) (by decide) (by omega)).mpr (by omega), by rw [ha1, nI_le1 (by omega)]; exact (nI_leI (by omega) (by omega)).mpr (by omega)⟩)) (fun _ => ?_)
  refine e_aloadn d_X11_land_8 rfl ?_
  refine e_iloadn d_X11_land_9 rfl ?_
  refine e_aloadn d_X11_land_10 rfl ?_
  refine e_callVI d_X11_land_11 l_X11_land_131 H_md rfl rfl (s_X11_hadBits H_md H_a ha0 hN) rfl rfl (Nat.le_of_ble_eq_true rfl) ?_
  rw [hbits]
  refine e_iconst (v := 2) d_X11_land_14 (by decide) ?_
  refine e_callRVI d_X11_land_15 l_X11_land_135 H_md rfl rfl (s_X11_differs2 (T := T) (S := S0) (A := (2 ^ N - 1)) H_md H_a ha0 hN (by omega) hS1 (hVm T hTn) (hV T (by omega)) (R T hTn)) rfl rfl (Nat.le_of_ble_eq_true rfl) (fun x_15 h_15 q_15 s_15 => ?_)
  obtain ⟨rfl, H_md, fr_15⟩ := q_15
  have H_a := fr_15.hs H_a (by first | decide | (simp; omega))
  refine e_if_ne d_X11_land_18 (fun c18 => ?_) (fun c18 => ?_)
  · have hz : 0 < (dN (cF ans T (2 ^ N - 1)) S0 14 * dM (cF ans T (2 ^ N - 1)) S0 14) := bI_1.mp (bI_z.resolve_left c18)
    obtain ⟨ht1, ht2⟩ := thC_t (less := less) (hV T (by omega)) hz
    have hU := dU_bnd (F := cF ans T (2 ^ N - 1)) (V := cV ans less T) (S := S0) (k := 14) (by decide) (cV_99 (hV T (by omega)))
    have hLL := dNM_mul (F := cF ans T (2 ^ N - 1)) (S := S0) (k := 14) (by decide)
    refine e_aloadn d_X11_land_24 rfl ?_
    refine e_callVI d_X11_land_25 l_X11_land_139 H_md rfl rfl (s_X11_thousandths H_md (by omega) (by omega)) rfl rfl (Nat.le_of_ble_eq_true rfl) ?_
    rw [← ht1]
    refine e_istoren d_X11_land_28 (by decide) rfl ?_
    refine e_iloadn d_X11_land_29 rfl ?_
    refine e_istore d_X11_land_30 (by decide) rfl ?_
    refine e_iconst (v := 0) d_X11_land_32 (by decide) ?_
    refine e_istore d_X11_land_33 (by decide) rfl ?_
    have hA_35 : ∀ i, i ≤ n9 → ∀ (p : Int32) (q : Int32) (y : Int32), (p = Int32.ofInt (thr lo hi (thC ans less (2 ^ N - 1) T S0) i).1) → (q = Int32.ofInt (thr lo hi (thC ans less (2 ^ N - 1) T S0) i).2) → (y = nI i) → E M_X11_land (0, 0) (rI (fun x h' => x = landA lo hi n9 (thC ans less (2 ^ N - 1) T S0) b ∧ MdO h' mtp mfl mfa ∧ Fr [66] h h')) 35 (h_15) [some (.ref 66), some (.int (nI T)), some (.int b), some (.int p), some (.int q), some (.int y), none, none, none, none, none, none] [] := by
      refine loop_ind (n := n9) ?_
      intro i hi_i ih_35 p q y h_p h_q h_y
      subst h_y
      subst h_p
      subst h_q
      refine e_iload d_X11_land_35 rfl ?_
      refine e_aloadn d_X11_land_37 rfl ?_
      refine e_get d_X11_land_38 f_X11_7 H_md rfl ?_
      refine e_iconst (v := 4) d_X11_land_41 (by decide) ?_
      refine e_ialdN (k := 4) d_X11_land_42 H_a rfl (by omega) (by omega) ?_
      rw [ha4]
      refine e_icmp_ge d_X11_land_43 (fun c => ?_) (fun c => ?_)
      · have c := i_le (by omega) (by omega) c
        obtain rfl : n9 = i := by omega
        refine e_iloadn d_X11_land_155 rfl ?_
        refine e_if_eq d_X11_land_156 (fun c156 => ?_) (fun c156 => ?_)
        · refine e_iloadn d_X11_land_164 rfl ?_
          exact e_iret d_X11_land_165 rfl (rfl) (⟨_, rfl, by rw [landA, if_neg (by omega)]; first | (rw [if_pos c156]; done) | (rw [if_neg c156]; done), ⟨_, _, _, _, _, _, _, _, _, _, _, _, _, _, _, _, _, _, _, H_md⟩, fr_15⟩)
        · refine e_iload d_X11_land_159 rfl ?_
          refine e_gt d_X11_land_161 ?_
          exact e_iret d_X11_land_165 rfl (rfl) (⟨_, rfl, by rw [landA, if_neg (by omega)]; first | (rw [if_pos c156]; done) | (rw [if_neg c156]; done), ⟨_, _, _, _, _, _, _, _, _, _, _, _, _, _, _, _, _, _, _, H_md⟩, fr_15⟩)
      · have c := i_nle (by omega) (by omega) c
        refine e_aloadn d_X11_land_46 rfl ?_
        refine e_get d_X11_land_47 f_X11_7 H_md rfl ?_
        refine e_sipush (v := 360) d_X11_land_50 (by decide) ?_
        refine e_iconst (v := 2) d_X11_land_53 (by decide) ?_
        refine e_iload d_X11_land_54 rfl ?_
        refine e_imul d_X11_land_56 ?_
        refine e_iadd d_X11_land_57 ?_
        refine e_ialdN (k := 360 + 2 * i) d_X11_land_58 H_a (by simp only [fa_lit, nI_add, pk_mul]) (by omega) (by omega) ?_
        rw [(hlo i c).1]
        refine e_istore d_X11_land_59 (by decide) rfl ?_
        refine e_aloadn d_X11_land_61 rfl ?_
        refine e_get d_X11_land_62 f_X11_7 H_md rfl ?_
        refine e_sipush (v := 360) d_X11_land_65 (by decide) ?_
        refine e_iconst (v := 2) d_X11_land_68 (by decide) ?_
        refine e_iload d_X11_land_69 rfl ?_
        refine e_imul d_X11_land_71 ?_
        refine e_iadd d_X11_land_72 ?_
        refine e_iconst (v := 1) d_X11_land_73 (by decide) ?_
        refine e_iadd d_X11_land_74 ?_
        refine e_ialdN (k := 360 + 2 * i + 1) d_X11_land_75 H_a (by simp only [fa_lit, nI_add, pk_mul]) (by omega) (by omega) ?_
        rw [(hlo i c).2]
        have hb := thr_b (d := (thC ans less (2 ^ N - 1) T S0)) (by omega) hi_i hns hlh
        obtain ⟨hw1, hw2⟩ := hlh i c
        obtain ⟨t1, t2, t3, t4⟩ := thr_q (d := (thC ans less (2 ^ N - 1) T S0)) (by omega) c hns hlh
        have hb2 := thr_b (d := (thC ans less (2 ^ N - 1) T S0)) (i := i + 1) (by omega) (by omega) hns hlh
        refine e_istore d_X11_land_76 (by decide) rfl ?_
        refine e_iloadn d_X11_land_78 rfl ?_
        refine e_iload d_X11_land_79 rfl ?_
        refine e_callSI d_X11_land_81 l_X11_land_396 (s_X11_part hb.1 hw1) rfl rfl (Nat.le_of_ble_eq_true rfl) ?_
        refine e_istore d_X11_land_84 (by decide) rfl ?_
        refine e_iloadn d_X11_land_86 rfl ?_
        refine e_iload d_X11_land_87 rfl ?_
        refine e_callSI d_X11_land_89 l_X11_land_396 (s_X11_part hb.1 hw2) rfl rfl (Nat.le_of_ble_eq_true rfl) ?_
        refine e_istore d_X11_land_92 (by decide) rfl ?_
        refine e_iload d_X11_land_94 rfl ?_
        refine e_iload d_X11_land_96 rfl ?_
        refine e_callSI d_X11_land_98 l_X11_land_396 (s_X11_part hb.2 hw1) rfl rfl (Nat.le_of_ble_eq_true rfl) ?_
        refine e_istore d_X11_land_101 (by decide) rfl ?_
        refine e_iload d_X11_land_103 rfl ?_
        refine e_iload d_X11_land_105 rfl ?_
        refine e_callSI d_X11_land_107 l_X11_land_396 (s_X11_part hb.2 hw2) rfl rfl (Nat.le_of_ble_eq_true rfl) ?_
        refine e_istore d_X11_land_110 (by decide) rfl ?_
        refine e_iload d_X11_land_112 rfl ?_
        refine e_iload d_X11_land_114 rfl ?_
        refine e_callSI d_X11_land_116 l_X11_land_377 (s_X11_lesser) rfl rfl (Nat.le_of_ble_eq_true rfl) ?_
        rw [ls32 (by omega) (by omega)]
        refine e_iload d_X11_land_119 rfl ?_
        refine e_iload d_X11_land_121 rfl ?_
        refine e_callSI d_X11_land_123 l_X11_land_377 (s_X11_lesser) rfl rfl (Nat.le_of_ble_eq_true rfl) ?_
        rw [ls32 (by omega) (by omega)]
        have m1 := mn_in t1 t2
        have m2 := mn_in t3 t4
        refine e_callSI d_X11_land_126 l_X11_land_377 (s_X11_lesser) rfl rfl (Nat.le_of_ble_eq_true rfl) ?_
        rw [ls32 (by omega) (by omega)]
        refine e_istoren d_X11_land_129 (by decide) rfl ?_
        refine e_iload d_X11_land_130 rfl ?_
        refine e_iload d_X11_land_132 rfl ?_
        refine e_callSI d_X11_land_134 l_X11_land_374 (s_X11_greater) rfl rfl (Nat.le_of_ble_eq_true rfl) ?_
        rw [gr32 (by omega) (by omega)]
        refine e_iload d_X11_land_137 rfl ?_
        refine e_iload d_X11_land_139 rfl ?_
        refine e_callSI d_X11_land_141 l_X11_land_374 (s_X11_greater) rfl rfl (Nat.le_of_ble_eq_true rfl) ?_
        rw [gr32 (by omega) (by omega)]
        have m3 := mx_in t1 t2
        have m4 := mx_in t3 t4
        refine e_callSI d_X11_land_144 l_X11_land_374 (s_X11_greater) rfl rfl (Nat.le_of_ble_eq_true rfl) ?_
        rw [gr32 (by omega) (by omega)]
        refine e_istore d_X11_land_147 (by decide) rfl ?_
        refine e_iincw (w := 1) d_X11_land_149 rfl (by decide) (by decide) rfl ?_
        refine e_gt d_X11_land_152 ?_
        refine e_drop1 6 ?_
        refine e_drop1 7 ?_
        refine e_drop1 8 ?_
        refine e_drop1 9 ?_
        refine e_drop1 10 ?_
        refine e_drop1 11 ?_
        refine ih_35 (i + 1) (by omega) (by omega) _ _ _ ?_ ?_ ?_
        · rfl
        · rfl
        · exact nI_1 i
    exact hA_35 0 (by omega) _ _ _ (rfl) (rfl) (rfl)
  · have hz : (dN (cF ans T (2 ^ N - 1)) S0 14 * dM (cF ans T (2 ^ N - 1)) S0 14) = 0 := by have := bI_0.mp c18; omega
    refine e_ldc d_X11_land_21 v_X11_138 ?_
    exact e_iret d_X11_land_23 rfl (rfl) (⟨_, rfl, by rw [landA, if_pos (thC_0 hz)], ⟨_, _, _, _, _, _, _, _, _, _, _, _, _, _, _, _, _, _, _, H_md⟩, fr_15⟩)

theorem s_X11_back {h : AH} {N n S0 : Nat} {ca : Nat → Nat → Nat} {a : Nat → Int32} {ans less : Nat → Int32} {mtp mfl mfa mln mat mtk mso mto mwr mwp mop mfs mws mst mnc mnk mnr mdn : Int32} {mup mlo mgu mgl : Int64} {S cst : Nat} {w : Int32} {pr : Nat → Nat} (H_md : Hs h 66 (oMd mtp mfl mfa mup mlo mln mat mtk mso mto mwr mwp mop mfs mws mst mnc mnk mnr mdn mgu mgl)) (H_a : Hs h 67 (aI 380 a)) (ha0 : a 0 = nI N) (hN : N ≤ 14) (hca : ∀ c k, c < N → k < 4 → ca c k ≤ 99) (hca4 : ∀ c k, c < N → k < 4 → a (10 + 5 * c + k) = nI (ca c k)) (ha1 : a 1 = nI n) (hn : n ≤ 12) (hbits : bitsOf (fun c => a (80 + c)) N = nI S0) (hS0 : S0 < 2 ^ N) (hV : ∀ t, t < 12 → ∀ c, c < 14 → ans (t * 14 + c) = -1 ∨ ∃ v, v ≤ 99 ∧ ans (t * 14 + c) = nI v) (hVm : ∀ t, t < n → ∀ c, c < N → a (150 + 14 * t + c) = -1 ∨ ∃ v, v ≤ 99 ∧ a (150 + 14 * t + c) = nI v) (R : ∀ t, t < n → mAn a ans less N t (2 ^ N - 1) 2) (hS : S < 2 ^ n) (hpr : ∀ t, t < n → a (100 + 4 * t + 3) = nI (pr t) ∧ pr t ≤ 999) (ha5 : a 5 = nI cst) (hcst : 1 ≤ cst ∧ cst ≤ 9999) (hw1 : 0 ≤ w ∧ w ≤ 1) : Sp M_X11_back (0, 0) h [.ref 66, .int (nI S), .int w] (rI (fun x h' => x = backA (bkA pr (fun t => thC ans less (2 ^ N - 1) t S0) S n) cst w ∧ MdO h' mtp mfl mfa ∧ Fr [66] h h')) := by
  refine ⟨Nat.le_of_ble_eq_true rfl, ?_⟩
  show E _ _ _ 0 h [some (.ref 66), some (.int (nI S)), some (.int w), none, none, none, none, none] []
  have hS1 : S0 < 16384 := Nat.lt_of_lt_of_le hS0 (pw_31 N hN)
  have hS12 := p12 hS hn
  have G_a := H_a
  refine e_iloadn d_X11_back_0 rfl ?_
  refine e_if_lt d_X11_back_1 (fun z => by first | exact absurd (fun z => absurd (i_lt (b := 0) (by omega) (by decide) z) (by omega)) z | exact absurd z (fun z => absurd (i_lt (b := 0) (by omega) (by decide) z) (by omega))) (fun _ => ?_)
  refine e_iloadn d_X11_back_4 rfl ?_
  refine e_iconst (v := 1) d_X11_back_5 (by decide) ?_
  refine e_aloadn d_X11_back_6 rfl ?_
  refine e_get d_X11_back_7 f_X11_7 H_md rfl ?_
  refine e_iconst (v := 1) d_X11_back_10 (by decide) ?_
  refine e_ialdN (k := 1) d_X11_back_11 H_a rfl (by omega) (by omega) ?_
  rw [ha1]
  refine e_ishl d_X11_back_12 ?_
  rw [pw14 n (by omega)]
  have hpn : 2 ^ n ≤ 4096 := (show 2 ^ n ≤ 2 ^ 12 from Nat.pow_le_pow_right (by decide) hn)
  refine e_icmp_ge d_X11_back_13 (fun z => by first | exact absurd (fun z => absurd (i_le (by omega) (by omega) z) (by omega)) z | exact absurd z (fun z => absurd (i_le (by omega) (by omega) z) (by omega))) (fun _ => ?_)
  refine e_iloadn d_X11_back_16 rfl ?_
  refine e_iconst (v := 0) d_X11_back_17 (by decide) ?_
  refine e_iconst (v := 1) d_X11_back_18 (by decide) ?_
  refine e_callSI d_X11_back_19 l_X11_back_101 (s_X11_in) rfl rfl (Nat.le_of_ble_eq_true rfl) ?_
  refine e_if_ne d_X11_back_22 (fun _ => ?_) (fun z => by first | exact absurd (fun z => bI_0.mp z hw1) z | exact absurd z (fun z => bI_0.mp z hw1))
  refine e_iconst (v := -1) d_X11_back_28 (by decide) ?_
  refine e_istoren d_X11_back_29 (by decide) rfl ?_
  refine e_iconst (v := 0) d_X11_back_30 (by decide) ?_
  refine e_istore d_X11_back_31 (by decide) rfl ?_
  refine e_iconst (v := 0) d_X11_back_33 (by decide) ?_
  refine e_istore d_X11_back_34 (by decide) rfl ?_
  refine e_iconst (v := 0) d_X11_back_36 (by decide) ?_
  refine e_istore d_X11_back_37 (by decide) rfl ?_
  have hA_39 : ∀ i, i ≤ n → ∀ (k : AH) (F : Unit) (M : Unit) (m : Int32) (g : Int32) (s : Int32) (y : Int32), (Fr [66] h k) → (∃ up9 lo9 : Int64, Hs k 66 (oMd mtp mfl mfa up9 lo9 mln mat mtk mso mto mwr mwp mop mfs mws mst mnc mnk mnr mdn mgu mgl)) → (m = oI (bkA pr (fun t => thC ans less (2 ^ N - 1) t S0) S i).2.1) → (g = Int32.ofInt (bkA pr (fun t => thC ans less (2 ^ N - 1) t S0) S i).2.2) → (s = Int32.ofInt (bkA pr (fun t => thC ans less (2 ^ N - 1) t S0) S i).1) → (y = nI i) → E M_X11_back (0, 0) (rI (fun x h' => x = backA (bkA pr (fun t => thC ans less (2 ^ N - 1) t S0) S n) cst w ∧ MdO h' mtp mfl mfa ∧ Fr [66] h h')) 39 (k) [some (.ref 66), some (.int (nI S)), some (.int w), some (.int m), some (.int g), some (.int s), some (.int y), none] [] := by
    refine loop_ind (n := n) ?_
    intro i hi_i ih_39 k F M m g s y h_F h_M h_m h_g h_s h_y
    subst h_y
    subst h_s
    subst h_g
    subst h_m
    obtain ⟨up9, lo9, H_md⟩ := id h_M
    have H_a := h_F.hs G_a (by decide)
    obtain ⟨b1, b2, b3⟩ := bk_t (pr := pr) (d := (fun t => thC ans less (2 ^ N - 1) t S0)) (S := S) (n := i) (fun t ht => ⟨(hpr t (by omega)).2, by
      by_cases hq : 0 < (dN (cF ans t (2 ^ N - 1)) S0 14 * dM (cF ans t (2 ^ N - 1)) S0 14)
      · exact Or.inr (thC_t (hV t (by omega)) hq).2
      · exact Or.inl (thC_0 (by omega))⟩)
    refine e_iload d_X11_back_39 rfl ?_
    refine e_aloadn d_X11_back_41 rfl ?_
    refine e_get d_X11_back_42 f_X11_7 H_md rfl ?_
    refine e_iconst (v := 1) d_X11_back_45 (by decide) ?_
    refine e_ialdN (k := 1) d_X11_back_46 H_a rfl (by omega) (by omega) ?_
    rw [ha1]
    refine e_icmp_ge d_X11_back_47 (fun c => ?_) (fun c => ?_)
    · have c := i_le (by omega) (by omega) c
      obtain rfl : n = i := by omega
      refine e_iloadn d_X11_back_120 rfl ?_
      refine e_iconst (v := -1) d_X11_back_121 (by decide) ?_
      refine e_icmp_ne d_X11_back_122 (fun c122 => ?_) (fun c122 => ?_)
      · obtain ⟨r9, hr9⟩ := oI_some c122
        refine e_iloadn d_X11_back_130 rfl ?_
        refine e_if_ne d_X11_back_131 (fun c131 => ?_) (fun c131 => ?_)
        · refine e_iloadn d_X11_back_146 rfl ?_
          exact e_iret d_X11_back_147 rfl (rfl) (⟨_, rfl, by simp only [backA]; first | (rw [hb0]; done) | (rw [hr9]; simp only []; rw [if_pos c131]; done) | (rw [hr9]; simp only []; rw [if_neg c131]; rfl), ⟨_, _, _, _, _, _, _, _, _, _, _, _, _, _, _, _, _, _, _, H_md⟩, h_F⟩)
        · refine e_iload d_X11_back_134 rfl ?_
          refine e_aloadn d_X11_back_136 rfl ?_
          refine e_get d_X11_back_137 f_X11_7 H_md rfl ?_
          refine e_iconst (v := 5) d_X11_back_140 (by decide) ?_
          refine e_ialdN (k := 5) d_X11_back_141 H_a rfl (by omega) (by omega) ?_
          rw [ha5]
          refine e_idiv d_X11_back_142 (fun z => absurd ((nI_eq (b := 0) (by omega) (by decide)).mp z) (by omega)) ?_
          rw [nI_int cst, i32_div (by omega) (by omega)]
          refine e_gt d_X11_back_143 ?_
          exact e_iret d_X11_back_147 rfl (rfl) (⟨_, rfl, by simp only [backA]; first | (rw [hb0]; done) | (rw [hr9]; simp only []; rw [if_pos c131]; done) | (rw [hr9]; simp only []; rw [if_neg c131]; rfl), ⟨_, _, _, _, _, _, _, _, _, _, _, _, _, _, _, _, _, _, _, H_md⟩, h_F⟩)
      · have hb0 := oI_none c122 b3 (by omega)
        refine e_ldc d_X11_back_125 v_X11_138 ?_
        refine e_gt d_X11_back_127 ?_
        exact e_iret d_X11_back_147 rfl (rfl) (⟨_, rfl, by simp only [backA]; first | (rw [hb0]; done) | (rw [hr9]; simp only []; rw [if_pos c131]; done) | (rw [hr9]; simp only []; rw [if_neg c131]; rfl), ⟨_, _, _, _, _, _, _, _, _, _, _, _, _, _, _, _, _, _, _, H_md⟩, h_F⟩)
    · have c := i_nle (by omega) (by omega) c
      refine e_iloadn d_X11_back_50 rfl ?_
      refine e_iload d_X11_back_51 rfl ?_
      refine e_ishr d_X11_back_53 ?_
      refine e_iconst (v := 1) d_X11_back_54 (by decide) ?_
      refine e_iand d_X11_back_55 ?_
      refine e_iconst (v := 1) d_X11_back_56 (by decide) ?_
      refine e_icmp_ne d_X11_back_57 (fun c_57 => ?_) (fun c_57 => ?_)
      · have hb := bit0 (by omega) (by omega) c_57
        have hbk : bkA pr (fun t => thC ans less (2 ^ N - 1) t S0) S (i + 1) = bkA pr (fun t => thC ans less (2 ^ N - 1) t S0) S i := by rw [bkA, if_neg (fun z => by rw [hb] at z; exact absurd z.1 (by decide))]
        refine e_iincw (w := 1) d_X11_back_114 rfl (by decide) (by decide) rfl ?_
        refine e_gt d_X11_back_117 ?_
        refine ih_39 (i + 1) (by omega) (by omega) _ () () _ _ _ _ ?_ ?_ ?_ ?_ ?_ ?_
        · first
          | exact h_F.trans fr_68
          | exact h_F
        · first
          | exact ⟨_, _, H_md⟩
        · rw [hbk]
          try rfl
        · rw [hbk]
          try rfl
        · rw [hbk]
          try rfl
        · exact nI_1 i
      · have hb := (bit1 (by omega) (by omega)).mp c_57
        refine e_aloadn d_X11_back_60 rfl ?_
        refine e_iload d_X11_back_61 rfl ?_
        refine e_aloadn d_X11_back_63 rfl ?_
        refine e_callVI d_X11_back_64 l_X11_back_131 H_md rfl rfl (s_X11_hadBits H_md H_a ha0 hN) rfl rfl (Nat.le_of_ble_eq_true rfl) ?_
        rw [hbits]
        refine e_iconst (v := 2) d_X11_back_67 (by decide) ?_
        refine e_callRVI d_X11_back_68 l_X11_back_135 H_md rfl rfl (s_X11_differs2 (T := i) (S := S0) (A := (2 ^ N - 1)) H_md H_a ha0 hN (by omega) hS1 (hVm i c) (hV i (by omega)) (R i c)) rfl rfl (Nat.le_of_ble_eq_true rfl) (fun x_68 h_68 q_68 s_68 => ?_)
        obtain ⟨rfl, H_md, fr_68⟩ := q_68
        have H_a := fr_68.hs H_a (by first | decide | (simp; omega))
        refine e_if_eq d_X11_back_71 (fun c71 => ?_) (fun c71 => ?_)
        · have hz : (dN (cF ans i (2 ^ N - 1)) S0 14 * dM (cF ans i (2 ^ N - 1)) S0 14) = 0 := by have := bI_0.mp c71; omega
          have hbk : bkA pr (fun t => thC ans less (2 ^ N - 1) t S0) S (i + 1) = bkA pr (fun t => thC ans less (2 ^ N - 1) t S0) S i := by rw [bkA, if_neg (fun z => z.2 (thC_0 hz))]
          refine e_iincw (w := 1) d_X11_back_114 rfl (by decide) (by decide) rfl ?_
          refine e_gt d_X11_back_117 ?_
          refine ih_39 (i + 1) (by omega) (by omega) _ () () _ _ _ _ ?_ ?_ ?_ ?_ ?_ ?_
          · first
            | exact h_F.trans fr_68
            | exact h_F
          · first
            | exact ⟨_, _, H_md⟩
          · rw [hbk]
            try rfl
          · rw [hbk]
            try rfl
          · rw [hbk]
            try rfl
          · exact nI_1 i
        · have hz : 0 < (dN (cF ans i (2 ^ N - 1)) S0 14 * dM (cF ans i (2 ^ N - 1)) S0 14) := bI_1.mp (bI_z.resolve_left c71)
          obtain ⟨ht1, ht2⟩ := thC_t (less := less) (hV i (by omega)) hz
          have hU := dU_bnd (F := cF ans i (2 ^ N - 1)) (V := cV ans less i) (S := S0) (k := 14) (by decide) (cV_99 (hV i (by omega)))
          have hLL := dNM_mul (F := cF ans i (2 ^ N - 1)) (S := S0) (k := 14) (by decide)
          have hne : ¬ thC ans less (2 ^ N - 1) i S0 = -1000000 := by omega
          have hpi : -98901000 ≤ (pr i : Int) * thC ans less (2 ^ N - 1) i S0 ∧ (pr i : Int) * thC ans less (2 ^ N - 1) i S0 ≤ 98901000 := by
            have q1 : (pr i : Int).natAbs * (thC ans less (2 ^ N - 1) i S0).natAbs ≤ 999 * 99000 := Nat.mul_le_mul (by have := (hpr i c).2; omega) (by omega)
            rw [← Int.natAbs_mul] at q1
            omega
          refine e_aloadn d_X11_back_74 rfl ?_
          refine e_iload d_X11_back_75 rfl ?_
          refine e_iconst (v := 3) d_X11_back_77 (by decide) ?_
          refine e_callVI d_X11_back_78 l_X11_back_123 H_md rfl rfl (s_X11_of (c := i) (d := 3) H_md H_a rfl rfl (by omega)) rfl rfl (Nat.le_of_ble_eq_true rfl) ?_
          rw [(hpr i c).1]
          refine e_aloadn d_X11_back_81 rfl ?_
          refine e_callVI d_X11_back_82 l_X11_back_139 H_md rfl rfl (s_X11_thousandths H_md (by omega) (by omega)) rfl rfl (Nat.le_of_ble_eq_true rfl) ?_
          rw [← ht1]
          refine e_imul d_X11_back_85 ?_
          rw [nI_int (pr i), ← Int32.ofInt_mul]
          refine e_istore d_X11_back_86 (by decide) rfl ?_
          refine e_iload d_X11_back_88 rfl ?_
          refine e_iload d_X11_back_90 rfl ?_
          refine e_iadd d_X11_back_92 ?_
          rw [← Int32.ofInt_add]
          refine e_istore d_X11_back_93 (by decide) rfl ?_
          refine e_iloadn d_X11_back_95 rfl ?_
          refine e_iconst (v := -1) d_X11_back_96 (by decide) ?_
          refine e_icmp_eq d_X11_back_97 (fun c97 => ?_) (fun c97 => ?_)
          · have hbk : bkA pr (fun t => thC ans less (2 ^ N - 1) t S0) S (i + 1) = ((bkA pr (fun t => thC ans less (2 ^ N - 1) t S0) S i).1 + (pr i : Int) * thC ans less (2 ^ N - 1) i S0, some i, (pr i : Int) * thC ans less (2 ^ N - 1) i S0) := by rw [bkA, if_pos ⟨hb, hne⟩, if_pos (Or.inl (oI_none c97 b3 (by omega)))]
            refine e_iload d_X11_back_107 rfl ?_
            refine e_istore d_X11_back_109 (by decide) rfl ?_
            refine e_iload d_X11_back_111 rfl ?_
            refine e_istoren d_X11_back_113 (by decide) rfl ?_
            refine e_iincw (w := 1) d_X11_back_114 rfl (by decide) (by decide) rfl ?_
            refine e_gt d_X11_back_117 ?_
            refine e_drop1 7 ?_
            refine ih_39 (i + 1) (by omega) (by omega) _ () () _ _ _ _ ?_ ?_ ?_ ?_ ?_ ?_
            · first
              | exact h_F.trans fr_68
              | exact h_F
            · first
              | exact ⟨_, _, H_md⟩
            · rw [hbk]
              try rfl
            · rw [hbk]
              try rfl
            · rw [hbk]
              try rfl
            · exact nI_1 i
          · obtain ⟨r9, hr9⟩ := oI_some c97
            refine e_iload d_X11_back_100 rfl ?_
            refine e_iload d_X11_back_102 rfl ?_
            have hcmp := i32_lt3 (a := (bkA pr (fun t => thC ans less (2 ^ N - 1) t S0) S i).2.2) (b := (pr i : Int) * thC ans less (2 ^ N - 1) i S0) (by omega) (by omega)
            refine e_icmp_le d_X11_back_104 (fun c104 => ?_) (fun c104 => ?_)
            · have hle : ¬ (bkA pr (fun t => thC ans less (2 ^ N - 1) t S0) S i).2.2 < (pr i : Int) * thC ans less (2 ^ N - 1) i S0 := fun z => absurd (hcmp.mpr z) (by first | exact Int32.not_lt.mpr c104 | exact c104)
              have hbk : bkA pr (fun t => thC ans less (2 ^ N - 1) t S0) S (i + 1) = ((bkA pr (fun t => thC ans less (2 ^ N - 1) t S0) S i).1 + (pr i : Int) * thC ans less (2 ^ N - 1) i S0, (bkA pr (fun t => thC ans less (2 ^ N - 1) t S0) S i).2) := by rw [bkA, if_pos ⟨hb, hne⟩, if_neg (by rw [hr9]; simp; omega)]
              refine e_iincw (w := 1) d_X11_back_114 rfl (by decide) (by decide) rfl ?_
              refine e_gt d_X11_back_117 ?_
              refine e_drop1 7 ?_
              refine ih_39 (i + 1) (by omega) (by omega) _ () () _ _ _ _ ?_ ?_ ?_ ?_ ?_ ?_
              · first
                | exact h_F.trans fr_68
                | exact h_F
              · first
                | exact ⟨_, _, H_md⟩
              · rw [hbk]
                try rfl
              · rw [hbk]
                try rfl
              · rw [hbk]
                try rfl
              · exact nI_1 i
            · have hgt : (bkA pr (fun t => thC ans less (2 ^ N - 1) t S0) S i).2.2 < (pr i : Int) * thC ans less (2 ^ N - 1) i S0 := hcmp.mp (by first | exact Int32.not_le.mp c104 | exact c104)
              have hbk : bkA pr (fun t => thC ans less (2 ^ N - 1) t S0) S (i + 1) = ((bkA pr (fun t => thC ans less (2 ^ N - 1) t S0) S i).1 + (pr i : Int) * thC ans less (2 ^ N - 1) i S0, some i, (pr i : Int) * thC ans less (2 ^ N - 1) i S0) := by rw [bkA, if_pos ⟨hb, hne⟩, if_pos (Or.inr hgt)]
              refine e_iload d_X11_back_107 rfl ?_
              refine e_istore d_X11_back_109 (by decide) rfl ?_
              refine e_iload d_X11_back_111 rfl ?_
              refine e_istoren d_X11_back_113 (by decide) rfl ?_
              refine e_iincw (w := 1) d_X11_back_114 rfl (by decide) (by decide) rfl ?_
              refine e_gt d_X11_back_117 ?_
              refine e_drop1 7 ?_
              refine ih_39 (i + 1) (by omega) (by omega) _ () () _ _ _ _ ?_ ?_ ?_ ?_ ?_ ?_
              · first
                | exact h_F.trans fr_68
                | exact h_F
              · first
                | exact ⟨_, _, H_md⟩
              · rw [hbk]
                try rfl
              · rw [hbk]
                try rfl
              · rw [hbk]
                try rfl
              · exact nI_1 i
  exact hA_39 0 (by omega) _ () () _ _ _ _ (Fr.refl _ _) (⟨_, _, H_md⟩) (rfl) (rfl) (rfl) (rfl)
