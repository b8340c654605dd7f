/-! THE READER: what waits, what is written -/
def tot (cd : Nat → List Nat) (n : Nat) : Nat := sm (fun j => (cd j).length) n
theorem tot_le {cd : Nat → List Nat} : ∀ {n m : Nat}, n ≤ m → tot cd n ≤ tot cd m
  | n, 0, h => by rw [Nat.le_zero.mp h]; exact Nat.le_refl _
  | n, m + 1, h => by
    by_cases e : n = m + 1
    · rw [e]; exact Nat.le_refl _
    · have := tot_le (cd := cd) (n := n) (m := m) (by omega)
      simp only [tot, sm] at this ⊢; omega
theorem tot_S {cd : Nat → List Nat} {n : Nat} : tot cd (n + 1) = tot cd n + (cd n).length := rfl
theorem tot_cong {c d : Nat → List Nat} {n : Nat} (h : ∀ j, j < n → c j = d j) : tot c n = tot d n := sm_cong (fun j hj => by rw [h j hj])
theorem tot_A {cd : Nat → List Nat} {nc : Nat} {l : List Nat} : ∀ {n : Nat}, n < nc → tot (cdA cd nc l) n = tot cd n := fun h => tot_cong (fun j hj => cdA_ne (by omega))
theorem tot_N {cd : Nat → List Nat} {nc : Nat} {l : List Nat} (h : 0 < nc) : tot (cdA cd nc l) nc = tot cd nc + l.length := by
  obtain ⟨m, rfl⟩ : ∃ m, nc = m + 1 := ⟨nc - 1, by omega⟩
  rw [tot_S, tot_S, tot_A (Nat.lt_succ_self m)]
  have := cdA_at (cd := cd) (nc := m + 1) (l := l) h
  rw [show m + 1 - 1 = m from rfl] at this
  rw [this, List.length_append]; omega
/-- a TEXT that is being read -/
def TxW (h : AH) (tp nc : Nat) (kd : Nat → Nat) (cd : Nat → List Nat) (my ne : Int32) : Prop := nc ≤ 10 ∧ ∃ kinds edges code : Nat → Int32, Hs h (42 + 4 * tp) (oTx tp (nI nc) my ne) ∧ Hs h (43 + 4 * tp) (aI 10 kinds) ∧ Hs h (44 + 4 * tp) (aI 11 edges) ∧ Hs h (45 + 4 * tp) (aI 300 code) ∧ (∀ i, i < nc → kinds i = nI (kd i) ∧ kd i < 100) ∧ (∀ i, i ≤ nc → edges i = nI (tot cd i)) ∧ (∀ i, i < nc → ∀ j v, (cd i)[j]? = some v → code (tot cd i + j) = nI v) ∧ tot cd nc ≤ 300
/-- a TEXT as it may lie unread -/
def TxB (h : AH) (tp : Nat) : Prop := ∃ (c m n : Int32) (kinds edges code : Nat → Int32), Hs h (42 + 4 * tp) (oTx tp c m n) ∧ Hs h (43 + 4 * tp) (aI 10 kinds) ∧ Hs h (44 + 4 * tp) (aI 11 edges) ∧ Hs h (45 + 4 * tp) (aI 300 code) ∧ edges 0 = 0
theorem TxW.b {h : AH} {tp nc : Nat} {kd : Nat → Nat} {cd : Nat → List Nat} {my ne : Int32} (T : TxW h tp nc kd cd my ne) : TxB h tp := by
  obtain ⟨h0, k, e, c, h1, h2, h3, h4, h5, h6, h7, h8⟩ := T
  exact ⟨_, _, _, k, e, c, h1, h2, h3, h4, by rw [h6 0 (Nat.zero_le _)]; rfl⟩
theorem TxW.c {h : AH} {tp nc : Nat} {kd : Nat → Nat} {cd : Nat → List Nat} {my ne : Int32} (T : TxW h tp nc kd cd my ne) : TxC h tp nc kd cd my ne := by
  obtain ⟨h0, k, e, c, h1, h2, h3, h4, h5, h6, h7, h8⟩ := T
  refine ⟨h0, k, e, c, h1, h2, h3, h4, h5, fun i hi => ⟨tot cd i, h6 i (by omega), ?_, ?_, fun j v hv => h7 i hi j v hv⟩⟩
  · rw [h6 (i + 1) (by omega), tot_S]
  · have := tot_le (cd := cd) (n := i + 1) (m := nc) (by omega)
    rw [tot_S] at this; omega
theorem TxW.fr {S : List Nat} {h h' : AH} {tp nc : Nat} {kd : Nat → Nat} {cd : Nat → List Nat} {my ne : Int32} (T : TxW h tp nc kd cd my ne) (F : Fr S h h') (hS : ∀ x, x ∈ S → x < 42) : TxW h' tp nc kd cd my ne := by
  obtain ⟨h0, k, e, c, h1, h2, h3, h4, h5⟩ := T
  exact ⟨h0, k, e, c, F.hs h1 (fun z => by have := hS _ z; omega), F.hs h2 (fun z => by have := hS _ z; omega), F.hs h3 (fun z => by have := hS _ z; omega), F.hs h4 (fun z => by have := hS _ z; omega), h5⟩
def SRn (f : Nat → Int32) : List Nat → Prop
  | [] => True
  | x :: w => f w.length = nI x ∧ SRn f w
theorem SRn.up {f : Nat → Int32} {k : Nat} {x : Int32} : ∀ {S : List Nat}, SRn f S → S.length ≤ k → SRn (va_up f k x) S
  | [], _, _ => trivial
  | v :: S, h, hk => ⟨by rw [va_up_ne _ _ (by simp at hk; omega)]; exact h.1, SRn.up h.2 (by simp at hk; omega)⟩
/-- the reader at work: fault as yet none -/
def RdW (h : AH) (tp L : Nat) (at_ st tk : Int32) (sta kin : Nat) (sA cm : Bool) (ws : List Nat) (op br : Nat) : Prop := ∃ wt : Nat → Int32, Hs h 22 (oRe (nI ws.length) (nI op) (nI br) (.ref 21) (nI L) at_ st tk (nI sta) (nI kin) (bI (sA = true)) (bI (cm = true)) (.ref (42 + 4 * tp)) 0 (-1)) ∧ Hs h 23 (aI 32 wt) ∧ ws.length ≤ 32 ∧ SRn wt ws
/-- the reader behind a fault -/
def RdE (h : AH) (q : Nat) (pl : Int32) : Prop := (∃ (a b c l m n o p d e f : Int32) (x : Value) , Hs h 22 (oRe a b c (.ref 21) l m n o p d e f x (nI q) pl)) ∧ ∃ wt : Nat → Int32, Hs h 23 (aI 32 wt)
def stN (ph : Nat) : Nat := if ph = 4 then 0 else if ph = 5 then 1 else if ph = 6 then 2 else if ph = 2 then 4 else 3
def cnO : List Nat → Nat
  | [] => 0
  | x :: w => (if x = 11 ∨ x = 31 then 1 else 0) + cnO w
theorem cnO_app : ∀ (a b : List Nat), cnO (a ++ b) = cnO a + cnO b
  | [], b => by simp [cnO]
  | x :: a, b => by simp only [List.cons_append, cnO, cnO_app a b]; omega
/-- the reader between, or ahead of, clauses -/
def RdR (h : AH) (tp L : Nat) (at_ st tk : Int32) (sta : Nat) (ki : Int32) : Prop := ∃ (top op br sas cm : Int32) (wt : Nat → Int32), Hs h 22 (oRe top op br (.ref 21) (nI L) at_ st tk (nI sta) ki sas cm (.ref (42 + 4 * tp)) 0 (-1)) ∧ Hs h 23 (aI 32 wt)
theorem RdW.r {h : AH} {tp L : Nat} {at_ st tk : Int32} {sta kin : Nat} {sA cm : Bool} {ws : List Nat} {op br : Nat} (R : RdW h tp L at_ st tk sta kin sA cm ws op br) : RdR h tp L at_ st tk sta (nI kin) := by
  obtain ⟨wt, h1, h2, -⟩ := R
  exact ⟨_, _, _, _, _, wt, h1, h2⟩
/-- the class's reader, for what is open and read -/
def RC (h : AH) (tp L : Nat) (at_ st tk : Int32) (S : PS) : Prop := ∃ (n : Nat) (cdc : Nat → List Nat), S.2.2.2.2.1 = cdA cdc S.2.2.1 (List.replicate n 31) ∧ TxW h tp S.2.2.1 S.2.2.2.1 cdc S.2.2.2.2.2.1 S.2.2.2.2.2.2 ∧ (S.1 ≠ 2 → n = 0) ∧ (3 ≤ S.1 → ∃ ki, RdR h tp L at_ st tk (stN S.1) ki ∧ (S.1 = 5 → ki = nI (S.2.2.2.1 (S.2.2.1 - 1)))) ∧
  (S.1 ≤ 2 → RdW h tp L at_ st tk (stN S.1) (S.2.2.2.1 (S.2.2.1 - 1)) (decide (S.1 = 0)) (cmB S.2.1) (List.replicate n 31 ++ flat S.2.1) (nO S.2.1 + n) (nP S.2.1))
def RCq (h : AH) (tp L : Nat) (at_ st tk : Int32) (r : Nat × PS) : Prop := (r.1 = 0 ∧ RC h tp L at_ st tk r.2) ∨ (r.1 ≠ 0 ∧ RdE h r.1 st ∧ TxB h tp)
theorem nI_c {a b : Nat} (ha : a < 2 ^ 31) (hb : b < 2 ^ 31) : (nI a < nI b ↔ a < b) ∧ (nI a ≤ nI b ↔ a ≤ b) ∧ (nI a = nI b ↔ a = b) := ⟨nI_ltI ha hb, nI_leI ha hb, nI_eq ha hb⟩

theorem s_X8_clear {h : AH} {tp : Nat} (hB : TxB h tp) : Sp M_X8_clear (0, 0) h [.ref (42 + 4 * tp)] (rV (fun h' => (∀ kd cd, TxW h' tp 0 kd cd (-1) (-1)) ∧ Fr [42 + 4 * tp] h h')) := by
  refine ⟨Nat.le_of_ble_eq_true rfl, ?_⟩
  show E _ _ _ 0 h [some (.ref (42 + 4 * tp))] []
  obtain ⟨c9, m9, n9, kinds, edges, code, H_tx, H_tkk, H_te, H_tco, hz⟩ := hB
  refine e_aloadn d_X8_clear_0 rfl ?_
  refine e_iconst (v := 0) d_X8_clear_1 (by decide) ?_
  refine e_puti d_X8_clear_2 f_X8_21 H_tx (Nat.le_of_ble_eq_true rfl) ?_
  refine e_aloadn d_X8_clear_5 rfl ?_
  refine e_iconst (v := -1) d_X8_clear_6 (by decide) ?_
  refine e_puti d_X8_clear_7 f_X8_25 H_tx.s (Nat.le_of_ble_eq_true rfl) ?_
  refine e_aloadn d_X8_clear_10 rfl ?_
  refine e_iconst (v := -1) d_X8_clear_11 (by decide) ?_
  refine e_puti d_X8_clear_12 f_X8_28 H_tx.s.s (Nat.le_of_ble_eq_true rfl) ?_
  exact e_vret d_X8_clear_15 rfl (⟨rfl, fun kd cd => ⟨Nat.zero_le _, kinds, edges, code, H_tx.s.s.s, (((H_tkk.n (by omega)).n (by omega)).n (by omega)), (((H_te.n (by omega)).n (by omega)).n (by omega)), (((H_tco.n (by omega)).n (by omega)).n (by omega)), fun i hi => absurd hi (by omega), fun i hi => by rw [Nat.le_zero.mp hi, hz]; rfl, fun i hi => absurd hi (by omega), by simp [tot, sm]⟩, (((Fr.refl _ _).up (by simp)).up (by simp)).up (by simp)⟩)

theorem s_X8_isFull {h : AH} {tp nc : Nat} {kd : Nat → Nat} {cd : Nat → List Nat} {my ne : Int32} (H_tx : Hs h (42 + 4 * tp) (oTx tp (nI nc) my ne)) (hnc : nc ≤ 10) : Sp M_X8_isFull (0, 0) h [.ref (42 + 4 * tp)] (pI (bI (10 ≤ nc)) h) := by
  refine ⟨Nat.le_of_ble_eq_true rfl, ?_⟩
  show E _ _ _ 0 h [some (.ref (42 + 4 * tp))] []
  refine e_aloadn d_X8_isFull_0 rfl ?_
  refine e_get d_X8_isFull_1 f_X8_21 H_tx rfl ?_
  refine e_bipush (v := 10) d_X8_isFull_4 (by decide) ?_
  refine e_icmp_lt d_X8_isFull_6 (fun c6 => ?_) (fun c6 => ?_)
  · have c6 := i_lt (b := 10) (by omega) (by decide) c6
    refine e_iconst (v := 0) d_X8_isFull_13 (by decide) ?_
    exact e_iret d_X8_isFull_14 rfl (rfl) (⟨by first | (rw [bI_t (by omega)]; done) | (rw [bI_f (by omega)]; done), rfl⟩)
  · have c6 := i_nlt (b := 10) (by omega) (by decide) c6
    refine e_iconst (v := 1) d_X8_isFull_9 (by decide) ?_
    refine e_gt d_X8_isFull_10 ?_
    exact e_iret d_X8_isFull_14 rfl (rfl) (⟨by first | (rw [bI_t (by omega)]; done) | (rw [bI_f (by omega)]; done), rfl⟩)

theorem TxW_begin {nc k : Nat} {kd : Nat → Nat} {cd : Nat → List Nat} {kinds edges code : Nat → Int32} (hk : k < 100) (hkd : ∀ i, i < nc → kinds i = nI (kd i) ∧ kd i < 100) (hed : ∀ i, i ≤ nc → edges i = nI (tot cd i)) (hco : ∀ i, i < nc → ∀ j v, (cd i)[j]? = some v → code (tot cd i + j) = nI v) (htot : tot cd nc ≤ 300) :
    (∀ i, i < nc + 1 → va_up kinds nc (nI k) i = nI (va_up kd nc k i) ∧ va_up kd nc k i < 100) ∧ (∀ i, i ≤ nc + 1 → va_up edges (nc + 1) (edges nc) i = nI (tot (va_up cd nc []) i)) ∧ (∀ i, i < nc + 1 → ∀ j v, (va_up cd nc [] i)[j]? = some v → code (tot (va_up cd nc []) i + j) = nI v) ∧ tot (va_up cd nc []) (nc + 1) ≤ 300 := by
  have ht : ∀ i, i ≤ nc → tot (va_up cd nc []) i = tot cd i := fun i hi => tot_cong (fun j hj => va_up_ne _ _ (by omega))
  have ht1 : tot (va_up cd nc []) (nc + 1) = tot cd nc := by rw [tot_S, ht nc (Nat.le_refl _), va_up_self]; rfl
  refine ⟨fun i hi => ?_, fun i hi => ?_, fun i hi j v hv => ?_, by rw [ht1]; exact htot⟩
  · by_cases e : i = nc
    · subst e; rw [va_up_self, va_up_self]; exact ⟨rfl, hk⟩
    · rw [va_up_ne _ _ e, va_up_ne _ _ e]; exact hkd i (by omega)
  · by_cases e : i = nc + 1
    · subst e; rw [va_up_self, ht1]; exact hed nc (Nat.le_refl _)
    · rw [va_up_ne _ _ e, ht i (by omega)]; exact hed i (by omega)
  · by_cases e : i = nc
    · subst e; rw [va_up_self] at hv; simp at hv
    · rw [va_up_ne _ _ e] at hv
      rw [ht i (by omega)]; exact hco i (by omega) j v hv

theorem s_X8_begin {h : AH} {k : Nat} {tp nc : Nat} {kd : Nat → Nat} {cd : Nat → List Nat} {my ne : Int32} (hT : TxW h tp nc kd cd my ne) (hn : nc < 10) (hk : k < 100) : Sp M_X8_begin (0, 0) h [.ref (42 + 4 * tp), .int (nI k)] (rV (fun h' => TxW h' tp (nc + 1) (va_up kd nc k) (va_up cd nc []) my ne ∧ Fr [42 + 4 * tp, 43 + 4 * tp, 44 + 4 * tp] h h')) := by
  refine ⟨Nat.le_of_ble_eq_true rfl, ?_⟩
  show E _ _ _ 0 h [some (.ref (42 + 4 * tp)), some (.int (nI k))] []
  obtain ⟨hnc, kinds, edges, code, H_tx, H_tkk, H_te, H_tco, hkd, hed, hco, htot⟩ := id hT
  refine e_aloadn d_X8_begin_0 rfl ?_
  refine e_get d_X8_begin_1 f_X8_21 H_tx rfl ?_
  refine e_bipush (v := 10) d_X8_begin_4 (by decide) ?_
  refine e_icmp_ge d_X8_begin_6 (fun z => by first | exact absurd (fun z => absurd (i_le (a := 10) (by decide) (by omega) z) (by omega)) z | exact absurd z (fun z => absurd (i_le (a := 10) (by decide) (by omega) z) (by omega))) (fun _ => ?_)
  refine e_aloadn d_X8_begin_9 rfl ?_
  refine e_get d_X8_begin_10 f_X8_9 H_tx rfl ?_
  refine e_aloadn d_X8_begin_13 rfl ?_
  refine e_get d_X8_begin_14 f_X8_21 H_tx rfl ?_
  refine e_iloadn d_X8_begin_17 rfl ?_
  refine e_iastN (k := nc) d_X8_begin_18 H_tkk rfl (by omega) (by omega) ?_
  refine e_aloadn d_X8_begin_19 rfl ?_
  refine e_get d_X8_begin_20 f_X8_15 (H_tx.n (by omega)) rfl ?_
  refine e_aloadn d_X8_begin_23 rfl ?_
  refine e_get d_X8_begin_24 f_X8_21 (H_tx.n (by omega)) rfl ?_
  refine e_iconst (v := 1) d_X8_begin_27 (by decide) ?_
  skip
  refine e_iadd d_X8_begin_28 ?_
  refine e_aloadn d_X8_begin_29 rfl ?_
  refine e_get d_X8_begin_30 f_X8_15 (H_tx.n (by omega)) rfl ?_
  refine e_aloadn d_X8_begin_33 rfl ?_
  refine e_get d_X8_begin_34 f_X8_21 (H_tx.n (by omega)) rfl ?_
  rw [nI_1]
  refine e_ialdN (k := nc) d_X8_begin_37 (H_te.n (by omega)) rfl (by omega) (by omega) ?_
  refine e_iastN (k := (nc + 1)) d_X8_begin_38 (H_te.n (by omega)) rfl (by omega) (by omega) ?_
  refine e_aloadn d_X8_begin_39 rfl ?_
  refine e_dup d_X8_begin_40 rfl ?_
  refine e_get d_X8_begin_41 f_X8_21 ((H_tx.n (by omega)).n (by omega)) rfl ?_
  refine e_iconst (v := 1) d_X8_begin_44 (by decide) ?_
  refine e_iadd d_X8_begin_45 ?_
  rw [nI_1]
  refine e_puti d_X8_begin_46 f_X8_21 ((H_tx.n (by omega)).n (by omega)) (Nat.le_of_ble_eq_true rfl) ?_
  exact e_vret d_X8_begin_49 rfl (⟨rfl, ⟨by omega, _, _, _, (((H_tx.n (by omega)).n (by omega)).s), ((H_tkk.s.n (by omega)).n (by omega)), (((H_te.n (by omega)).s).n (by omega)), (((H_tco.n (by omega)).n (by omega)).n (by omega)), TxW_begin hk hkd hed hco htot⟩, (((Fr.refl _ _).up (by simp)).up (by simp)).up (by simp)⟩)

theorem TxW_emit {nc t : Nat} {cd : Nat → List Nat} {edges code : Nat → Int32} (h0 : 0 < nc) (hed : ∀ i, i ≤ nc → edges i = nI (tot cd i)) (hco : ∀ i, i < nc → ∀ j v, (cd i)[j]? = some v → code (tot cd i + j) = nI v) (htot : tot cd nc + 1 ≤ 300) :
    (∀ i, i ≤ nc → va_up edges nc (nI (tot cd nc + 1)) i = nI (tot (cdA cd nc [t]) i)) ∧ (∀ i, i < nc → ∀ j v, (cdA cd nc [t] i)[j]? = some v → va_up code (tot cd nc) (nI t) (tot (cdA cd nc [t]) i + j) = nI v) ∧ tot (cdA cd nc [t]) nc ≤ 300 := by
  refine ⟨fun i hi => ?_, fun i hi j v hv => ?_, by rw [tot_N h0]; simpa using htot⟩
  · by_cases e : i = nc
    · subst e; rw [va_up_self, tot_N h0]; rfl
    · rw [va_up_ne _ _ e, tot_A (by omega)]; exact hed i hi
  · rw [tot_A (by omega)]
    have hle := tot_le (cd := cd) (n := i + 1) (m := nc) (by omega)
    rw [tot_S] at hle
    by_cases e : i + 1 = nc
    · rw [show cdA cd nc [t] i = cd i ++ [t] from by simp only [cdA]; rw [if_pos e]] at hv
      have hs : tot cd nc = tot cd i + (cd i).length := by rw [← e, tot_S]
      by_cases ej : j < (cd i).length
      · rw [List.getElem?_append_left ej] at hv
        rw [va_up_ne _ _ (by omega)]; exact hco i hi j v hv
      · rw [List.getElem?_append_right (by omega)] at hv
        have hj0 : j - (cd i).length = 0 := by
          have := (List.getElem?_eq_some_iff.mp hv).1
          simpa using this
        rw [hj0] at hv
        have hv : t = v := by simpa using hv
        rw [show tot cd i + j = tot cd nc by omega, va_up_self, hv]
    · rw [cdA_ne e] at hv
      have hj := (List.getElem?_eq_some_iff.mp hv).1
      rw [va_up_ne _ _ (by omega)]; exact hco i hi j v hv

theorem s_X8_emit {h : AH} {t : Nat} {tp nc : Nat} {kd : Nat → Nat} {cd : Nat → List Nat} {my ne : Int32} (hT : TxW h tp nc kd cd my ne) (h0 : 0 < nc) (ht : tot cd nc + 1 ≤ 300) : Sp M_X8_emit (0, 0) h [.ref (42 + 4 * tp), .int (nI t)] (rV (fun h' => TxW h' tp nc kd (cdA cd nc [t]) my ne ∧ Fr [44 + 4 * tp, 45 + 4 * tp] h h')) := by
  refine ⟨Nat.le_of_ble_eq_true rfl, ?_⟩
  show E _ _ _ 0 h [some (.ref (42 + 4 * tp)), some (.int (nI t)), none] []
  obtain ⟨hnc, kinds, edges, code, H_tx, H_tkk, H_te, H_tco, hkd, hed, hco, htot⟩ := id hT
  refine e_aloadn d_X8_emit_0 rfl ?_
  refine e_get d_X8_emit_1 f_X8_15 H_tx rfl ?_
  refine e_aloadn d_X8_emit_4 rfl ?_
  refine e_get d_X8_emit_5 f_X8_21 H_tx rfl ?_
  refine e_ialdN (k := nc) d_X8_emit_8 H_te rfl (by omega) (by omega) ?_
  rw [hed nc (Nat.le_refl _)]
  refine e_istoren d_X8_emit_9 (by decide) rfl ?_
  refine e_aloadn d_X8_emit_10 rfl ?_
  refine e_get d_X8_emit_11 f_X8_21 H_tx rfl ?_
  refine e_if_le d_X8_emit_14 (fun z => by first | exact absurd (fun z => absurd (i_np (by omega) z) (by omega)) z | exact absurd z (fun z => absurd (i_np (by omega) z) (by omega))) (fun _ => ?_)
  refine e_iloadn d_X8_emit_17 rfl ?_
  refine e_aloadn d_X8_emit_18 rfl ?_
  refine e_get d_X8_emit_19 f_X8_18 H_tx rfl ?_
  refine e_alenL (v := 300) d_X8_emit_22 H_tco rfl ?_
  refine e_icmp_ge d_X8_emit_23 (fun z => by first | exact absurd (fun z => absurd (i_le (a := 300) (by decide) (by omega) z) (by omega)) z | exact absurd z (fun z => absurd (i_le (a := 300) (by decide) (by omega) z) (by omega))) (fun _ => ?_)
  refine e_aloadn d_X8_emit_26 rfl ?_
  refine e_get d_X8_emit_27 f_X8_18 H_tx rfl ?_
  refine e_iloadn d_X8_emit_30 rfl ?_
  refine e_iloadn d_X8_emit_31 rfl ?_
  refine e_iastN (k := (tot cd nc)) d_X8_emit_32 H_tco rfl (by omega) (by omega) ?_
  refine e_aloadn d_X8_emit_33 rfl ?_
  refine e_get d_X8_emit_34 f_X8_15 (H_tx.n (by omega)) rfl ?_
  refine e_aloadn d_X8_emit_37 rfl ?_
  refine e_get d_X8_emit_38 f_X8_21 (H_tx.n (by omega)) rfl ?_
  refine e_iloadn d_X8_emit_41 rfl ?_
  refine e_iconst (v := 1) d_X8_emit_42 (by decide) ?_
  refine e_iadd d_X8_emit_43 ?_
  rw [nI_1]
  refine e_iastN (k := nc) d_X8_emit_44 (H_te.n (by omega)) rfl (by omega) (by omega) ?_
  exact e_vret d_X8_emit_45 rfl (⟨rfl, ⟨hnc, _, _, _, ((H_tx.n (by omega)).n (by omega)), ((H_tkk.n (by omega)).n (by omega)), ((H_te.n (by omega)).s), (H_tco.s.n (by omega)), hkd, TxW_emit h0 hed hco ht⟩, ((Fr.refl _ _).up (by simp)).up (by simp)⟩)

theorem rkc_out {t : Nat} (h : t < 11 ∨ 31 < t) : rkc t = 0 := by
  unfold rkc
  rw [if_neg (by omega), if_neg (by omega), if_neg (by omega), if_neg (by omega), if_neg (by omega), if_neg (by omega), if_neg (by omega)]
theorem rkc_le : ∀ t, t < 100 → rkc t ≤ 7 := by decide +kernel

theorem s_X6_rank {h : AH} {t : Nat} (ht : t < 100) : Sp M_X6_rank (0, 0) h [.int (nI t)] (pI (nI (rkc t)) h) := by
  refine ⟨Nat.le_of_ble_eq_true rfl, ?_⟩
  show E _ _ _ 0 h [some (.int (nI t))] []
  refine e_iloadn d_X6_rank_0 rfl ?_
  rcases (by omega : t < 11 ∨ 31 < t ∨ t = 11 ∨ t = 12 ∨ t = 13 ∨ t = 14 ∨ t = 15 ∨ t = 16 ∨ t = 17 ∨ t = 18 ∨ t = 19 ∨ t = 20 ∨ t = 21 ∨ t = 22 ∨ t = 23 ∨ t = 24 ∨ t = 25 ∨ t = 26 ∨ t = 27 ∨ t = 28 ∨ t = 29 ∨ t = 30 ∨ t = 31) with q | q | rfl | rfl | rfl | rfl | rfl | rfl | rfl | rfl | rfl | rfl | rfl | rfl | rfl | rfl | rfl | rfl | rfl | rfl | rfl | rfl | rfl
  · refine e_tabD d_X6_rank_1 114 (by rw [nI_tI t (by omega)]; omega) (by decide) ?_
    refine e_iloadn d_X6_rank_114 rfl ?_
    refine e_bipush (v := 21) d_X6_rank_115 (by decide) ?_
    refine e_icmp_lt d_X6_rank_117 (fun _ => ?_) (fun z => by first | exact absurd ((nI_ltI (b := 21) (by omega) (by decide)).mpr (by omega)) z | exact absurd z ((nI_ltI (b := 21) (by omega) (by decide)).mpr (by omega)))
    refine e_iconst (v := 0) d_X6_rank_130 (by decide) ?_
    exact e_iret d_X6_rank_131 rfl (rfl) (⟨by rw [rkc_out (by omega)]; rfl, rfl⟩)
  · refine e_tabD d_X6_rank_1 114 (by rw [nI_tI t (by omega)]; omega) (by decide) ?_
    refine e_iloadn d_X6_rank_114 rfl ?_
    refine e_bipush (v := 21) d_X6_rank_115 (by decide) ?_
    refine e_icmp_lt d_X6_rank_117 (fun z => by first | exact absurd (fun z => absurd (i_lt (b := 21) (by omega) (by decide) z) (by omega)) z | exact absurd z (fun z => absurd (i_lt (b := 21) (by omega) (by decide) z) (by omega))) (fun _ => ?_)
    refine e_iloadn d_X6_rank_120 rfl ?_
    refine e_bipush (v := 26) d_X6_rank_121 (by decide) ?_
    refine e_icmp_gt d_X6_rank_123 (fun _ => ?_) (fun z => by first | exact absurd ((nI_ltI (a := 26) (by decide) (by omega)).mpr (by omega)) z | exact absurd z ((nI_ltI (a := 26) (by decide) (by omega)).mpr (by omega)))
    refine e_iconst (v := 0) d_X6_rank_130 (by decide) ?_
    exact e_iret d_X6_rank_131 rfl (rfl) (⟨by rw [rkc_out (by omega)]; rfl, rfl⟩)
  · refine e_tab d_X6_rank_1 103 104 (by decide) (by decide) (by decide) (by decide) ?_
    refine e_iconst (v := 3) d_X6_rank_104 (by decide) ?_
    exact e_iret d_X6_rank_105 rfl (rfl) (⟨by decide, rfl⟩)
  · refine e_tab d_X6_rank_1 101 102 (by decide) (by decide) (by decide) (by decide) ?_
    refine e_iconst (v := 2) d_X6_rank_102 (by decide) ?_
    exact e_iret d_X6_rank_103 rfl (rfl) (⟨by decide, rfl⟩)
  · refine e_tab d_X6_rank_1 99 100 (by decide) (by decide) (by decide) (by decide) ?_
    refine e_iconst (v := 1) d_X6_rank_100 (by decide) ?_
    exact e_iret d_X6_rank_101 rfl (rfl) (⟨by decide, rfl⟩)
  · refine e_tab d_X6_rank_1 113 114 (by decide) (by decide) (by decide) (by decide) ?_
    refine e_iloadn d_X6_rank_114 rfl ?_
    refine e_bipush (v := 21) d_X6_rank_115 (by decide) ?_
    refine e_icmp_lt d_X6_rank_117 (fun _ => ?_) (fun z => by first | exact absurd (by decide) z | exact absurd z (by decide))
    refine e_iconst (v := 0) d_X6_rank_130 (by decide) ?_
    exact e_iret d_X6_rank_131 rfl (rfl) (⟨by decide, rfl⟩)
  · refine e_tab d_X6_rank_1 113 114 (by decide) (by decide) (by decide) (by decide) ?_
    refine e_iloadn d_X6_rank_114 rfl ?_
    refine e_bipush (v := 21) d_X6_rank_115 (by decide) ?_
    refine e_icmp_lt d_X6_rank_117 (fun _ => ?_) (fun z => by first | exact absurd (by decide) z | exact absurd z (by decide))
    refine e_iconst (v := 0) d_X6_rank_130 (by decide) ?_
    exact e_iret d_X6_rank_131 rfl (rfl) (⟨by decide, rfl⟩)
  · refine e_tab d_X6_rank_1 113 114 (by decide) (by decide) (by decide) (by decide) ?_
    refine e_iloadn d_X6_rank_114 rfl ?_
    refine e_bipush (v := 21) d_X6_rank_115 (by decide) ?_
    refine e_icmp_lt d_X6_rank_117 (fun _ => ?_) (fun z => by first | exact absurd (by decide) z | exact absurd z (by decide))
    refine e_iconst (v := 0) d_X6_rank_130 (by decide) ?_
    exact e_iret d_X6_rank_131 rfl (rfl) (⟨by decide, rfl⟩)
  · refine e_tab d_X6_rank_1 113 114 (by decide) (by decide) (by decide) (by decide) ?_
    refine e_iloadn d_X6_rank_114 rfl ?_
    refine e_bipush (v := 21) d_X6_rank_115 (by decide) ?_
    refine e_icmp_lt d_X6_rank_117 (fun _ => ?_) (fun z => by first | exact absurd (by decide) z | exact absurd z (by decide))
    refine e_iconst (v := 0) d_X6_rank_130 (by decide) ?_
    exact e_iret d_X6_rank_131 rfl (rfl) (⟨by decide, rfl⟩)
  · refine e_tab d_X6_rank_1 113 114 (by decide) (by decide) (by decide) (by decide) ?_
    refine e_iloadn d_X6_rank_114 rfl ?_
    refine e_bipush (v := 21) d_X6_rank_115 (by decide) ?_
    refine e_icmp_lt d_X6_rank_117 (fun _ => ?_) (fun z => by first | exact absurd (by decide) z | exact absurd z (by decide))
    refine e_iconst (v := 0) d_X6_rank_130 (by decide) ?_
    exact e_iret d_X6_rank_131 rfl (rfl) (⟨by decide, rfl⟩)
  · refine e_tab d_X6_rank_1 113 114 (by decide) (by decide) (by decide) (by decide) ?_
    refine e_iloadn d_X6_rank_114 rfl ?_
    refine e_bipush (v := 21) d_X6_rank_115 (by decide) ?_
    refine e_icmp_lt d_X6_rank_117 (fun _ => ?_) (fun z => by first | exact absurd (by decide) z | exact absurd z (by decide))
    refine e_iconst (v := 0) d_X6_rank_130 (by decide) ?_
    exact e_iret d_X6_rank_131 rfl (rfl) (⟨by decide, rfl⟩)
  · refine e_tab d_X6_rank_1 113 114 (by decide) (by decide) (by decide) (by decide) ?_
    refine e_iloadn d_X6_rank_114 rfl ?_
    refine e_bipush (v := 21) d_X6_rank_115 (by decide) ?_
    refine e_icmp_lt d_X6_rank_117 (fun _ => ?_) (fun z => by first | exact absurd (by decide) z | exact absurd z (by decide))
    refine e_iconst (v := 0) d_X6_rank_130 (by decide) ?_
    exact e_iret d_X6_rank_131 rfl (rfl) (⟨by decide, rfl⟩)
  · refine e_tab d_X6_rank_1 113 114 (by decide) (by decide) (by decide) (by decide) ?_
    refine e_iloadn d_X6_rank_114 rfl ?_
    refine e_bipush (v := 21) d_X6_rank_115 (by decide) ?_
    refine e_icmp_lt d_X6_rank_117 (fun z => by first | exact absurd (by decide) z | exact absurd z (by decide)) (fun _ => ?_)
    refine e_iloadn d_X6_rank_120 rfl ?_
    refine e_bipush (v := 26) d_X6_rank_121 (by decide) ?_
    refine e_icmp_gt d_X6_rank_123 (fun z => by first | exact absurd (by decide) z | exact absurd z (by decide)) (fun _ => ?_)
    refine e_iconst (v := 4) d_X6_rank_126 (by decide) ?_
    refine e_gt d_X6_rank_127 ?_
    exact e_iret d_X6_rank_131 rfl (rfl) (⟨by decide, rfl⟩)
  · refine e_tab d_X6_rank_1 113 114 (by decide) (by decide) (by decide) (by decide) ?_
    refine e_iloadn d_X6_rank_114 rfl ?_
    refine e_bipush (v := 21) d_X6_rank_115 (by decide) ?_
    refine e_icmp_lt d_X6_rank_117 (fun z => by first | exact absurd (by decide) z | exact absurd z (by decide)) (fun _ => ?_)
    refine e_iloadn d_X6_rank_120 rfl ?_
    refine e_bipush (v := 26) d_X6_rank_121 (by decide) ?_
    refine e_icmp_gt d_X6_rank_123 (fun z => by first | exact absurd (by decide) z | exact absurd z (by decide)) (fun _ => ?_)
    refine e_iconst (v := 4) d_X6_rank_126 (by decide) ?_
    refine e_gt d_X6_rank_127 ?_
    exact e_iret d_X6_rank_131 rfl (rfl) (⟨by decide, rfl⟩)
  · refine e_tab d_X6_rank_1 113 114 (by decide) (by decide) (by decide) (by decide) ?_
    refine e_iloadn d_X6_rank_114 rfl ?_
    refine e_bipush (v := 21) d_X6_rank_115 (by decide) ?_
    refine e_icmp_lt d_X6_rank_117 (fun z => by first | exact absurd (by decide) z | exact absurd z (by decide)) (fun _ => ?_)
    refine e_iloadn d_X6_rank_120 rfl ?_
    refine e_bipush (v := 26) d_X6_rank_121 (by decide) ?_
    refine e_icmp_gt d_X6_rank_123 (fun z => by first | exact absurd (by decide) z | exact absurd z (by decide)) (fun _ => ?_)
    refine e_iconst (v := 4) d_X6_rank_126 (by decide) ?_
    refine e_gt d_X6_rank_127 ?_
    exact e_iret d_X6_rank_131 rfl (rfl) (⟨by decide, rfl⟩)
  · refine e_tab d_X6_rank_1 113 114 (by decide) (by decide) (by decide) (by decide) ?_
    refine e_iloadn d_X6_rank_114 rfl ?_
    refine e_bipush (v := 21) d_X6_rank_115 (by decide) ?_
    refine e_icmp_lt d_X6_rank_117 (fun z => by first | exact absurd (by decide) z | exact absurd z (by decide)) (fun _ => ?_)
    refine e_iloadn d_X6_rank_120 rfl ?_
    refine e_bipush (v := 26) d_X6_rank_121 (by decide) ?_
    refine e_icmp_gt d_X6_rank_123 (fun z => by first | exact absurd (by decide) z | exact absurd z (by decide)) (fun _ => ?_)
    refine e_iconst (v := 4) d_X6_rank_126 (by decide) ?_
    refine e_gt d_X6_rank_127 ?_
    exact e_iret d_X6_rank_131 rfl (rfl) (⟨by decide, rfl⟩)
  · refine e_tab d_X6_rank_1 113 114 (by decide) (by decide) (by decide) (by decide) ?_
    refine e_iloadn d_X6_rank_114 rfl ?_
    refine e_bipush (v := 21) d_X6_rank_115 (by decide) ?_
    refine e_icmp_lt d_X6_rank_117 (fun z => by first | exact absurd (by decide) z | exact absurd z (by decide)) (fun _ => ?_)
    refine e_iloadn d_X6_rank_120 rfl ?_
    refine e_bipush (v := 26) d_X6_rank_121 (by decide) ?_
    refine e_icmp_gt d_X6_rank_123 (fun z => by first | exact absurd (by decide) z | exact absurd z (by decide)) (fun _ => ?_)
    refine e_iconst (v := 4) d_X6_rank_126 (by decide) ?_
    refine e_gt d_X6_rank_127 ?_
    exact e_iret d_X6_rank_131 rfl (rfl) (⟨by decide, rfl⟩)
  · refine e_tab d_X6_rank_1 113 114 (by decide) (by decide) (by decide) (by decide) ?_
    refine e_iloadn d_X6_rank_114 rfl ?_
    refine e_bipush (v := 21) d_X6_rank_115 (by decide) ?_
    refine e_icmp_lt d_X6_rank_117 (fun z => by first | exact absurd (by decide) z | exact absurd z (by decide)) (fun _ => ?_)
    refine e_iloadn d_X6_rank_120 rfl ?_
    refine e_bipush (v := 26) d_X6_rank_121 (by decide) ?_
    refine e_icmp_gt d_X6_rank_123 (fun z => by first | exact absurd (by decide) z | exact absurd z (by decide)) (fun _ => ?_)
    refine e_iconst (v := 4) d_X6_rank_126 (by decide) ?_
    refine e_gt d_X6_rank_127 ?_
    exact e_iret d_X6_rank_131 rfl (rfl) (⟨by decide, rfl⟩)
  · refine e_tab d_X6_rank_1 105 106 (by decide) (by decide) (by decide) (by decide) ?_
    refine e_iconst (v := 5) d_X6_rank_106 (by decide) ?_
    exact e_iret d_X6_rank_107 rfl (rfl) (⟨by decide, rfl⟩)
  · refine e_tab d_X6_rank_1 105 106 (by decide) (by decide) (by decide) (by decide) ?_
    refine e_iconst (v := 5) d_X6_rank_106 (by decide) ?_
    exact e_iret d_X6_rank_107 rfl (rfl) (⟨by decide, rfl⟩)
  · refine e_tab d_X6_rank_1 107 108 (by decide) (by decide) (by decide) (by decide) ?_
    refine e_bipush (v := 6) d_X6_rank_108 (by decide) ?_
    exact e_iret d_X6_rank_110 rfl (rfl) (⟨by decide, rfl⟩)
  · refine e_tab d_X6_rank_1 107 108 (by decide) (by decide) (by decide) (by decide) ?_
    refine e_bipush (v := 6) d_X6_rank_108 (by decide) ?_
    exact e_iret d_X6_rank_110 rfl (rfl) (⟨by decide, rfl⟩)
  · refine e_tab d_X6_rank_1 110 111 (by decide) (by decide) (by decide) (by decide) ?_
    refine e_bipush (v := 7) d_X6_rank_111 (by decide) ?_
    exact e_iret d_X6_rank_113 rfl (rfl) (⟨by decide, rfl⟩)

theorem s_X6_push {h : AH} {tp x : Nat} {L sta kin op br : Nat} {at_ st tk : Int32} {sA cm : Bool} {ws : List Nat} (hR : RdW h tp L at_ st tk sta kin sA cm ws op br) (hl : ws.length < 32) : Sp M_X6_push (0, 0) h [.ref 22, .int (nI x)] (rV (fun h' => RdW h' tp L at_ st tk sta kin sA cm (x :: ws) op br ∧ Fr [22, 23] h h')) := by
  refine ⟨Nat.le_of_ble_eq_true rfl, ?_⟩
  show E _ _ _ 0 h [some (.ref 22), some (.int (nI x))] []
  obtain ⟨wt, H_re, H_rw, hwl, hws⟩ := id hR
  refine e_aloadn d_X6_push_0 rfl ?_
  refine e_get d_X6_push_1 f_X6_91 H_re rfl ?_
  refine e_aloadn d_X6_push_4 rfl ?_
  refine e_get d_X6_push_5 f_X6_9 H_re rfl ?_
  refine e_alenL (v := 32) d_X6_push_8 H_rw rfl ?_
  refine e_icmp_ge d_X6_push_9 (fun z => by first | exact absurd (fun z => absurd (i_le (a := 32) (by decide) (by omega) z) (by omega)) z | exact absurd z (fun z => absurd (i_le (a := 32) (by decide) (by omega) z) (by omega))) (fun _ => ?_)
  refine e_aloadn d_X6_push_12 rfl ?_
  refine e_get d_X6_push_13 f_X6_9 H_re rfl ?_
  refine e_aloadn d_X6_push_16 rfl ?_
  refine e_get d_X6_push_17 f_X6_91 H_re rfl ?_
  refine e_iloadn d_X6_push_20 rfl ?_
  refine e_iastN (k := ws.length) d_X6_push_21 H_rw rfl (by omega) (by omega) ?_
  refine e_aloadn d_X6_push_22 rfl ?_
  refine e_dup d_X6_push_23 rfl ?_
  refine e_get d_X6_push_24 f_X6_91 (H_re.n (by decide)) rfl ?_
  refine e_iconst (v := 1) d_X6_push_27 (by decide) ?_
  refine e_iadd d_X6_push_28 ?_
  rw [nI_1]
  refine e_puti d_X6_push_29 f_X6_91 (H_re.n (by decide)) (Nat.le_of_ble_eq_true rfl) ?_
  exact e_vret d_X6_push_32 rfl (⟨rfl, ⟨_, ((H_re.n (by decide)).s), (H_rw.s.n (by decide)), by simp; omega, va_up_self _ _ _, hws.up (Nat.le_refl _)⟩, ((Fr.refl _ _).up (by decide)).up (by decide)⟩)

theorem s_X6_settle {h : AH} {r : Nat} {tp nc : Nat} {kd : Nat → Nat} {cd : Nat → List Nat} {my ne : Int32} {L sta kin op br : Nat} {at_ st tk : Int32} {sA cm : Bool} {ws : List Nat} (hR : RdW h tp L at_ st tk sta kin sA cm ws op br) (hT : TxW h tp nc kd cd my ne) (h0 : 0 < nc) (ht : tot cd nc + ws.length ≤ 300) (hx : ∀ x, x ∈ ws → x < 100) (ho : cnO ws ≤ op) (hr : r < 100) : Sp M_X6_settle (0, 0) h [.ref 22, .int (nI r)] (rV (fun h' => RdW h' tp L at_ st tk sta kin sA cm (sdr r ws) (op - cnO (stk r ws)) br ∧ TxW h' tp nc kd (cdA cd nc (stk r ws)) my ne ∧ Fr [22, 23, 42 + 4 * tp, 43 + 4 * tp, 44 + 4 * tp, 45 + 4 * tp] h h')) := by
  refine ⟨Nat.le_of_ble_eq_true rfl, ?_⟩
  show E _ _ _ 0 h [some (.ref 22), some (.int (nI r)), none] []
  suffices hA : ∀ (ws1 : List Nat) (k : AH) (cd1 : Nat → List Nat) (op1 : Nat), RdW k tp L at_ st tk sta kin sA cm ws1 op1 br → TxW k tp nc kd cd1 my ne → tot cd1 nc + ws1.length ≤ 300 → (∀ x, x ∈ ws1 → x < 100) → cnO ws1 ≤ op1 → sdr r ws1 = sdr r ws → cdA cd1 nc (stk r ws1) = cdA cd nc (stk r ws) → op1 - cnO (stk r ws1) = op - cnO (stk r ws) → Fr [22, 23, 42 + 4 * tp, 43 + 4 * tp, 44 + 4 * tp, 45 + 4 * tp] h k → E M_X6_settle (0, 0) (rV (fun h' => RdW h' tp L at_ st tk sta kin sA cm (sdr r ws) (op - cnO (stk r ws)) br ∧ TxW h' tp nc kd (cdA cd nc (stk r ws)) my ne ∧ Fr [22, 23, 42 + 4 * tp, 43 + 4 * tp, 44 + 4 * tp, 45 + 4 * tp] h h')) 0 k [some (.ref 22), some (.int (nI r)), none] [] from hA ws h cd op hR hT ht hx ho rfl rfl rfl (Fr.refl _ _)
  intro ws1
  induction ws1 with
  | nil =>
    intro k cd1 op1 hR hT ht hx ho e1 e2 e3 hF
    obtain ⟨wt, H_re, H_rw, hwl, hws⟩ := id hR
    refine e_aloadn d_X6_settle_0 rfl ?_
    refine e_get d_X6_settle_1 f_X6_91 H_re rfl ?_
    refine e_if_le d_X6_settle_4 (fun _ => ?_) (fun z => by first | exact absurd ((by decide : nI ([] : List Nat).length ≤ 0)) z | exact absurd z ((by decide : nI ([] : List Nat).length ≤ 0)))
    exact e_vret d_X6_settle_82 rfl (⟨rfl, by rw [← e1, ← e3]; exact hR, by rw [← e2, show stk r [] = [] from rfl, cdA_nil]; exact hT, hF⟩)
  | cons x w ih =>
    intro k cd1 op1 hR hT ht hx ho e1 e2 e3 hF
    obtain ⟨wt, H_re, H_rw, hwl, hws⟩ := id hR
    obtain ⟨hnc, kinds, edges, code, H_tx, H_tkk, H_te, H_tco, hkd, hed, hco, htot⟩ := id hT
    have hx1 := hx x List.mem_cons_self
    have hrk := rkc_le x hx1
    have hwx := hws.1
    have hwl2 : w.length + 1 ≤ 32 := hwl
    refine e_aloadn d_X6_settle_0 rfl ?_
    refine e_get d_X6_settle_1 f_X6_91 H_re rfl ?_
    refine e_if_le d_X6_settle_4 (fun z => by first | exact absurd (fun z => absurd (i_np (by simp at hwl ⊢; omega) z) (by simp)) z | exact absurd z (fun z => absurd (i_np (by simp at hwl ⊢; omega) z) (by simp))) (fun _ => ?_)
    refine e_aloadn d_X6_settle_7 rfl ?_
    refine e_get d_X6_settle_8 f_X6_9 H_re rfl ?_
    refine e_aloadn d_X6_settle_11 rfl ?_
    refine e_get d_X6_settle_12 f_X6_91 H_re rfl ?_
    refine e_iconst (v := 1) d_X6_settle_15 (by decide) ?_
    refine e_isub d_X6_settle_16 ?_
    rw [show nI (x :: w).length - 1 = nI w.length from nI_m]
    refine e_ialdN (k := w.length) d_X6_settle_17 H_rw (rfl) (by omega) (by omega) ?_
    rw [hwx]
    refine e_callSI d_X6_settle_18 l_X6_settle_137 (s_X6_rank hx1) rfl rfl (Nat.le_of_ble_eq_true rfl) ?_
    refine e_iloadn d_X6_settle_21 rfl ?_
    refine e_icmp_lt d_X6_settle_22 (fun c22 => ?_) (fun c22 => ?_)
    · have c22 := i_lt (by omega) (by omega) c22
      have hst : stk r (x :: w) = [] ∧ sdr r (x :: w) = x :: w := by
        simp only [stk, sdr, List.takeWhile_cons, List.dropWhile_cons]
        rw [decide_eq_false (by omega)]
        exact ⟨rfl, rfl⟩
      exact e_vret d_X6_settle_82 rfl (⟨rfl, by rw [← e1, ← e3, hst.1, hst.2]; exact hR, by rw [← e2, hst.1, cdA_nil]; exact hT, hF⟩)
    · have c22 := i_nlt (by omega) (by omega) c22
      have hst : stk r (x :: w) = x :: stk r w ∧ sdr r (x :: w) = sdr r w := by
        simp only [stk, sdr, List.takeWhile_cons, List.dropWhile_cons]
        rw [decide_eq_true c22]
        exact ⟨rfl, rfl⟩
      refine e_aloadn d_X6_settle_25 rfl ?_
      refine e_dup d_X6_settle_26 rfl ?_
      refine e_get d_X6_settle_27 f_X6_91 H_re rfl ?_
      refine e_iconst (v := 1) d_X6_settle_30 (by decide) ?_
      refine e_isub d_X6_settle_31 ?_
      rw [show nI (x :: w).length - 1 = nI w.length from nI_m]
      refine e_puti d_X6_settle_32 f_X6_91 H_re (Nat.le_of_ble_eq_true rfl) ?_
      refine e_aloadn d_X6_settle_35 rfl ?_
      refine e_get d_X6_settle_36 f_X6_9 H_re.s rfl ?_
      refine e_aloadn d_X6_settle_39 rfl ?_
      refine e_get d_X6_settle_40 f_X6_91 H_re.s rfl ?_
      refine e_ialdN (k := w.length) d_X6_settle_43 (H_rw.n (by decide)) (rfl) (by omega) (by omega) ?_
      rw [hwx]
      refine e_istoren d_X6_settle_44 (by decide) rfl ?_
      refine e_aloadn d_X6_settle_45 rfl ?_
      refine e_dup d_X6_settle_46 rfl ?_
      refine e_get d_X6_settle_47 f_X6_94 H_re.s rfl ?_
      refine e_iloadn d_X6_settle_50 rfl ?_
      refine e_bipush (v := 11) d_X6_settle_51 (by decide) ?_
      refine e_icmp_eq d_X6_settle_53 (fun c53 => ?_) (fun c53 => ?_)
      · have c53 := i_eq (b := 11) (by omega) (by decide) c53
        have hop1 : nI op1 - 1 = nI (op1 - (if x = 11 ∨ x = 31 then 1 else 0)) := by rw [if_pos (Or.inl c53)]; exact nI_subN (b := 1) (by simp only [cnO] at ho; rw [if_pos (Or.inl c53)] at ho; omega)
        refine e_iconst (v := 1) d_X6_settle_62 (by decide) ?_
        refine e_gt d_X6_settle_63 ?_
        refine e_isub d_X6_settle_67 ?_
        rw [hop1]
        refine e_puti d_X6_settle_68 f_X6_94 H_re.s (Nat.le_of_ble_eq_true rfl) ?_
        refine e_aloadn d_X6_settle_71 rfl ?_
        refine e_get d_X6_settle_72 f_X6_40 H_re.s.s rfl ?_
        refine e_iloadn d_X6_settle_75 rfl ?_
        refine e_callRVV d_X6_settle_76 l_X6_settle_122 ((H_tx.n (by omega)).n (by omega)) rfl rfl (s_X8_emit (t := x) (TxW.fr hT (((Fr.refl [22, 23] _).up (by decide)).up (by decide)) (by simp)) h0 (by simp at ht; omega)) rfl rfl (Nat.le_of_ble_eq_true rfl) (fun h_76 q_76 s_76 => ?_)
        obtain ⟨hT2, fr_76⟩ := q_76
        have H_re := fr_76.hs H_re.s.s (by first | decide | (simp; omega))
        have H_rw := fr_76.hs ((H_rw.n (by decide)).n (by decide)) (by first | decide | (simp; omega))
        refine e_gt d_X6_settle_79 ?_
        refine e_drop1 2 ?_
        refine ih h_76 (cdA cd1 nc [x]) (op1 - (if x = 11 ∨ x = 31 then 1 else 0)) ⟨wt, H_re, H_rw, by simp at hwl; omega, hws.2⟩ hT2 (by rw [tot_N h0]; simp at ht ⊢; omega) (fun y hy => hx y (List.mem_cons_of_mem _ hy)) (by simp only [cnO] at ho; omega) (by rw [← e1, hst.2]) (by rw [← e2, hst.1, cdA_app]; rfl) (by rw [← e3, hst.1]; simp only [cnO]; omega) ?_
        exact hF.trans ((((Fr.refl _ _).up (by simp)).up (by simp)).trans (fr_76.mono (by simp)))
      · have c53 : ¬ x = 11 := fun z => c53 (by rw [z]; rfl)
        refine e_iloadn d_X6_settle_56 rfl ?_
        refine e_bipush (v := 31) d_X6_settle_57 (by decide) ?_
        refine e_icmp_ne d_X6_settle_59 (fun c59 => ?_) (fun c59 => ?_)
        · have c59 : ¬ x = 31 := fun z => c59 (by rw [z]; rfl)
          have hop1 : nI op1 - 0 = nI (op1 - (if x = 11 ∨ x = 31 then 1 else 0)) := by rw [if_neg (by omega), Nat.sub_zero]; simp
          refine e_iconst (v := 0) d_X6_settle_66 (by decide) ?_
          refine e_isub d_X6_settle_67 ?_
          rw [hop1]
          refine e_puti d_X6_settle_68 f_X6_94 H_re.s (Nat.le_of_ble_eq_true rfl) ?_
          refine e_aloadn d_X6_settle_71 rfl ?_
          refine e_get d_X6_settle_72 f_X6_40 H_re.s.s rfl ?_
          refine e_iloadn d_X6_settle_75 rfl ?_
          refine e_callRVV d_X6_settle_76 l_X6_settle_122 ((H_tx.n (by omega)).n (by omega)) rfl rfl (s_X8_emit (t := x) (TxW.fr hT (((Fr.refl [22, 23] _).up (by decide)).up (by decide)) (by simp)) h0 (by simp at ht; omega)) rfl rfl (Nat.le_of_ble_eq_true rfl) (fun h_76 q_76 s_76 => ?_)
          obtain ⟨hT2, fr_76⟩ := q_76
          have H_re := fr_76.hs H_re.s.s (by first | decide | (simp; omega))
          have H_rw := fr_76.hs ((H_rw.n (by decide)).n (by decide)) (by first | decide | (simp; omega))
          refine e_gt d_X6_settle_79 ?_
          refine e_drop1 2 ?_
          refine ih h_76 (cdA cd1 nc [x]) (op1 - (if x = 11 ∨ x = 31 then 1 else 0)) ⟨wt, H_re, H_rw, by simp at hwl; omega, hws.2⟩ hT2 (by rw [tot_N h0]; simp at ht ⊢; omega) (fun y hy => hx y (List.mem_cons_of_mem _ hy)) (by simp only [cnO] at ho; omega) (by rw [← e1, hst.2]) (by rw [← e2, hst.1, cdA_app]; rfl) (by rw [← e3, hst.1]; simp only [cnO]; omega) ?_
          exact hF.trans ((((Fr.refl _ _).up (by simp)).up (by simp)).trans (fr_76.mono (by simp)))
        · have c59 := i_eq (b := 31) (by omega) (by decide) c59
          have hop1 : nI op1 - 1 = nI (op1 - (if x = 11 ∨ x = 31 then 1 else 0)) := by rw [if_pos (Or.inr c59)]; exact nI_subN (b := 1) (by simp only [cnO] at ho; rw [if_pos (Or.inr c59)] at ho; omega)
          refine e_iconst (v := 1) d_X6_settle_62 (by decide) ?_
          refine e_gt d_X6_settle_63 ?_
          refine e_isub d_X6_settle_67 ?_
          rw [hop1]
          refine e_puti d_X6_settle_68 f_X6_94 H_re.s (Nat.le_of_ble_eq_true rfl) ?_
          refine e_aloadn d_X6_settle_71 rfl ?_
          refine e_get d_X6_settle_72 f_X6_40 H_re.s.s rfl ?_
          refine e_iloadn d_X6_settle_75 rfl ?_
          refine e_callRVV d_X6_settle_76 l_X6_settle_122 ((H_tx.n (by omega)).n (by omega)) rfl rfl (s_X8_emit (t := x) (TxW.fr hT (((Fr.refl [22, 23] _).up (by decide)).up (by decide)) (by simp)) h0 (by simp at ht; omega)) rfl rfl (Nat.le_of_ble_eq_true rfl) (fun h_76 q_76 s_76 => ?_)
          obtain ⟨hT2, fr_76⟩ := q_76
          have H_re := fr_76.hs H_re.s.s (by first | decide | (simp; omega))
          have H_rw := fr_76.hs ((H_rw.n (by decide)).n (by decide)) (by first | decide | (simp; omega))
          refine e_gt d_X6_settle_79 ?_
          refine e_drop1 2 ?_
          refine ih h_76 (cdA cd1 nc [x]) (op1 - (if x = 11 ∨ x = 31 then 1 else 0)) ⟨wt, H_re, H_rw, by simp at hwl; omega, hws.2⟩ hT2 (by rw [tot_N h0]; simp at ht ⊢; omega) (fun y hy => hx y (List.mem_cons_of_mem _ hy)) (by simp only [cnO] at ho; omega) (by rw [← e1, hst.2]) (by rw [← e2, hst.1, cdA_app]; rfl) (by rw [← e3, hst.1]; simp only [cnO]; omega) ?_
          exact hF.trans ((((Fr.refl _ _).up (by simp)).up (by simp)).trans (fr_76.mono (by simp)))
