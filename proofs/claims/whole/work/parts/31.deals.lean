/-! DEALS: the class's -/
/-- CHILDREN as the class has them: N of them, ca: their SEX, WIT, HOME, WORKS -/
def ChC (h : AH) (N : Nat) (ca : Nat → Nat → Nat) (co ha : Int32) : Prop := N ≤ 14 ∧ (∀ c k, c < N → k < 4 → ca c k ≤ 99) ∧ ∃ sexes wits homes works : Nat → Int32, Hs h 1 (oCh (nI N) co ha) ∧ Hs h 2 (aI 14 sexes) ∧ Hs h 3 (aI 14 wits) ∧ Hs h 4 (aI 14 homes) ∧ Hs h 5 (aI 14 works) ∧ ∀ c, c < N → sexes c = nI (ca c 0) ∧ wits c = nI (ca c 1) ∧ homes c = nI (ca c 2) ∧ works c = nI (ca c 3)
theorem ChC.fr {S : List Nat} {h h' : AH} {N : Nat} {ca : Nat → Nat → Nat} {co ha : Int32} (T : ChC h N ca co ha) (F : Fr S h h') (hS : 1 ∉ S ∧ 2 ∉ S ∧ 3 ∉ S ∧ 4 ∉ S ∧ 5 ∉ S) : ChC h' N ca co ha := by
  obtain ⟨h0, h9, a, b, c, d, h1, h2, h3, h4, h5, h6⟩ := T
  exact ⟨h0, h9, a, b, c, d, F.hs h1 hS.1, F.hs h2 hS.2.1, F.hs h3 hS.2.2.1, F.hs h4 hS.2.2.2.1, F.hs h5 hS.2.2.2.2, h6⟩
def seeN (f : Nat → Int32) (o : Nat) (a b c d : Int32) : Nat → Int32 := va_up (va_up (va_up (va_up f o a) (o + 1) b) (o + 2) c) (o + 3) d
theorem seeN_out {f : Nat → Int32} {o t : Nat} {a b c d : Int32} (h : t < o ∨ o + 4 ≤ t) : seeN f o a b c d t = f t := by
  simp only [seeN]
  rw [va_up_ne _ _ (by omega), va_up_ne _ _ (by omega), va_up_ne _ _ (by omega), va_up_ne _ _ (by omega)]
theorem seeN_in {f : Nat → Int32} {o t : Nat} {a b c d : Int32} {g : Nat → Nat} (h0 : a = nI (g 0)) (h1 : b = nI (g 1)) (h2 : c = nI (g 2)) (h3 : d = nI (g 3)) (h : t < 4) : seeN f o a b c d (o + t) = nI (g t) := by
  simp only [seeN]
  have : t = 0 ∨ t = 1 ∨ t = 2 ∨ t = 3 := by omega
  rcases this with rfl | rfl | rfl | rfl
  · rw [va_up_ne _ _ (by omega), va_up_ne _ _ (by omega), va_up_ne _ _ (by omega), Nat.add_zero, va_up_self]; exact h0
  · rw [va_up_ne _ _ (by omega), va_up_ne _ _ (by omega), va_up_self]; exact h1
  · rw [va_up_ne _ _ (by omega), va_up_self]; exact h2
  · rw [va_up_self]; exact h3
/-- the names of one CHILD and another -/
def nm2 (ca : Nat → Nat → Nat) (c d : Nat) : Nat → Int := fun t => if t < 4 then (ca c t : Int) else if t < 8 then (ca d (t - 4) : Int) else 0
def nm1 (ca : Nat → Nat → Nat) (c : Nat) : Nat → Int := fun t => if t < 4 then (ca c t : Int) else 0
/-- what a TEXT's codes may ask: a clause that deals asks no life -/
def okC (k : Nat) (c : List Nat) : Prop := (k = 17 ∨ k = 18 → ∀ t, t ∈ c → t < 11 → t < 8) ∧ (k = 19 → ∀ t, t ∈ c → t < 11 → t < 4) ∧ (k = 16 ∨ k = 20 → ∀ t, t ∈ c → t < 11 → t < 4 ∨ 8 ≤ t) ∧ (16 ≤ k → tyS c [] = some [decide (k ≠ 16)])
def okT (nc : Nat) (kd : Nat → Nat) (cd : Nat → List Nat) : Prop := ∀ i, i < nc → okC (kd i) (cd i)
def wN (ca : Nat → Nat → Nat) (nc : Nat) (kd : Nat → Nat) (cd : Nat → List Nat) (k one : Nat) (o : Nat) : Bool := decide (one < o) && isS (nm2 ca one o) nc kd cd k
theorem bs_zero {P : Nat → Bool} : ∀ {k : Nat}, (∀ c, c < k → P c = false) → bs P k = 0
  | 0, _ => rfl
  | k + 1, h => by rw [bs, bs_zero (fun c hc => h c (by omega)), h k (by omega)]; simp
theorem wN_zero {ca : Nat → Nat → Nat} {nc : Nat} {kd : Nat → Nat} {cd : Nat → List Nat} {k one : Nat} : bs (wN ca nc kd cd k one) (one + 1) = 0 := bs_zero (fun c hc => by simp [wN]; omega)
theorem bs_or {P : Nat → Bool} {i : Nat} {x z : Int32} (hi : i ≤ 14) (hx : x = nI (bs P i)) (hz : (bI (P i = true) = 0 ∧ z = 0) ∨ (¬ bI (P i = true) = 0 ∧ z = (1 : Int32) <<< (nI i &&& 31))) : x ||| z = nI (bs P (i + 1)) := by
  rw [hx, bs, ← nI_or]
  congr 1
  rcases hz with ⟨q, e⟩ | ⟨q, e⟩
  · rw [e, if_neg (bI_0.mp q)]; rfl
  · rw [e, pw14 i hi, if_pos (bI_1.mp (bI_z.resolve_left q))]
theorem wN_gt {ca : Nat → Nat → Nat} {nc : Nat} {kd : Nat → Nat} {cd : Nat → List Nat} {k i j : Nat} (h : i < j) : wN ca nc kd cd k i j = isS (nm2 ca i j) nc kd cd k := by simp [wN, h]
/-- by how much the WIT of those in S is unlike that of the others -/
def uS (ca : Nat → Nat → Nat) (S : Nat) : Nat → Int
  | 0 => 0
  | c + 1 => uS ca S c + (if bt S c then (ca c 1 : Int) else -(ca c 1 : Int))
theorem uS_in {ca : Nat → Nat → Nat} {S : Nat} : ∀ {n : Nat}, (∀ c k, c < n → k < 4 → ca c k ≤ 99) → -(99 * (n : Int)) ≤ uS ca S n ∧ uS ca S n ≤ 99 * (n : Int)
  | 0, _ => by simp [uS]
  | n + 1, h => by
    have := uS_in (S := S) (fun c k hc hk => h c k (Nat.lt_succ_of_lt hc) hk)
    have := h n 1 (by omega) (by omega)
    rw [uS]
    split <;> omega
def okS (w a S c : Nat) : Bool := if bt S c then decide (sd w S = 0 ∧ a &&& S = 0) else decide (w &&& S = 0 ∧ sd a S = 0)
def okA (ca : Nat → Nat → Nat) (N nc : Nat) (kd : Nat → Nat) (cd : Nat → List Nat) (S c : Nat) : Bool := okS (bs (wN ca nc kd cd 17 c) N) (bs (wN ca nc kd cd 18 c) N) S c
def allN (P : Nat → Bool) : Nat → Bool
  | 0 => true
  | k + 1 => allN P k && P k
theorem allN_t {P : Nat → Bool} : ∀ {n : Nat}, (∀ i, i < n → P i = true) → allN P n = true
  | 0, _ => rfl
  | n + 1, h => by rw [allN, allN_t (fun i hi => h i (by omega)), h n (by omega)]; rfl
theorem allN_f {P : Nat → Bool} {i : Nat} : ∀ {n : Nat}, i < n → P i = false → allN P n = false
  | 0, h, _ => by omega
  | n + 1, hi, h => by
    rw [allN]
    by_cases e : i = n
    · subst e; simp [h]
    · rw [allN_f (by omega) h]; rfl
/-- whether a set is a DEAL, ahead of OVER -/
def fitB (ca : Nat → Nat → Nat) (N nc : Nat) (kd : Nat → Nat) (cd : Nat → List Nat) (many near : Int32) (S : Nat) : Bool :=
  decide (many = -1 ∨ nI (pc S 14) = many) && (decide (near = -1 ∨ nI (uS ca S N).natAbs ≤ near) && allN (okA ca N nc kd cd S) N)
def ovN (ca : Nat → Nat → Nat) (N nc : Nat) (kd : Nat → Nat) (cd : Nat → List Nat) : Nat := bs (fun c => isS (nm1 ca c) nc kd cd 19) N
def DL (fit : Nat → Bool) (over : Nat) (n : Nat) : List Nat := ((List.range n).filter fit).map (fun s => sd s over)
theorem DL_0 {fit : Nat → Bool} {over : Nat} : DL fit over 0 = [] := rfl
theorem DL_succ {fit : Nat → Bool} {over n : Nat} : DL fit over (n + 1) = DL fit over n ++ (if fit n then [sd n over] else []) := by
  simp only [DL, List.range_succ, List.filter_append, List.map_append]
  congr 1
  by_cases h : fit n <;> simp [h]
theorem DL_len {fit : Nat → Bool} {over : Nat} : ∀ n, (DL fit over n).length ≤ n
  | 0 => Nat.le_refl _
  | n + 1 => by
    have := DL_len (fit := fit) (over := over) n
    rw [DL_succ]
    split <;> simp <;> omega
theorem DL_lt {fit : Nat → Bool} {over n : Nat} : ∀ x, x ∈ DL fit over n → x < n := by
  intro x hx
  simp only [DL, List.mem_map, List.mem_filter, List.mem_range] at hx
  obtain ⟨s, ⟨h1, -⟩, rfl⟩ := hx
  exact Nat.lt_of_le_of_lt (sd_le _ _) h1
/-- the DEALS of a TEXT -/
def DLs (ca : Nat → Nat → Nat) (N nc : Nat) (kd : Nat → Nat) (cd : Nat → List Nat) (many near : Int32) : List Nat := DL (fitB ca N nc kd cd many near) (ovN ca N nc kd cd) (2 ^ N)
/-- the row holds a list -/
def RwL (row : Nat → Int32) (L : List Nat) : Prop := ∀ (j v : Nat), L[j]? = some v → row j = nI v
theorem RwL.push {row : Nat → Int32} {L : List Nat} {v : Nat} {x : Int32} (h : RwL row L) (hx : x = nI v) : RwL (va_up row L.length x) (L ++ [v]) := by
  intro j w hj
  by_cases e : j = L.length
  · subst e
    rw [va_up_self]
    simp at hj
    rw [hx, hj]
  · rw [va_up_ne _ _ e]
    have hl : j < (L ++ [v]).length := (List.getElem?_eq_some_iff.mp hj).1
    simp at hl
    rw [List.getElem?_append_left (by omega)] at hj
    exact h j w hj
/-- Dealings' cells: whose TEXT's, how long its row is, the DEALS -/
def DeX (h : AH) (dtext : Int32) (drn : Nat) (L : List Nat) : Prop := ∃ (drow : Nat) (row w a : Nat → Int32), Hs h 27 (oDe drow (nI L.length) dtext) ∧ Hs h 28 (aI 14 w) ∧ Hs h 29 (aI 14 a) ∧ Hs h drow (aI drn row) ∧ (drow = 30 ∨ 92 < drow) ∧ L.length ≤ drn ∧ L.length ≤ 16384 ∧ drn ≤ 16384 ∧ RwL row L ∧ ∀ x, x ∈ L → x < 16384
theorem DeX.fr {S : List Nat} {h h' : AH} {dtext : Int32} {drn : Nat} {L : List Nat} (T : DeX h dtext drn L) (F : Fr S h h') (hS : 27 ∉ S ∧ 28 ∉ S ∧ 29 ∉ S ∧ ∀ k, k ∈ S → k ≤ 92 ∧ k ≠ 30) : DeX h' dtext drn L := by
  obtain ⟨drow, row, w, a, h1, h2, h3, h4, h5⟩ := T
  exact ⟨drow, row, w, a, F.hs h1 hS.1, F.hs h2 hS.2.1, F.hs h3 hS.2.2.1, F.hs h4 (fun z => by have := hS.2.2.2 _ z; omega), h5⟩
/-- the list as a row -/
def dlF (L : List Nat) (i : Nat) : Nat := L.getD i 0
theorem DeX.ok {h : AH} {dtext : Int32} {drn : Nat} {L : List Nat} (T : DeX h dtext drn L) : DeOK h L.length (dlF L) := by
  obtain ⟨drow, row, w, a, h1, h2, h3, h4, h5, h6, h7, h8, h9, h10⟩ := T
  refine ⟨drow, dtext, drn, row, h1, h4, h5, h6, h7, by omega, fun i hi => ?_⟩
  have e : L[i]? = some (dlF L i) := by rw [dlF, List.getD_eq_getElem?_getD, List.getElem?_eq_getElem hi]; rfl
  exact ⟨h9 i _ e, h10 _ (List.mem_of_getElem? e)⟩
theorem nI_nn (x : Int32) : (x ^^^ (-1)) ^^^ (-1) = x := by
  rw [← Int32.toBitVec_inj]
  simp [BitVec.xor_assoc]
theorem nI_z {a : Nat} (h : a < 2 ^ 31) : ¬ nI a = 0 ↔ ¬ a = 0 := ⟨fun c z => c (by rw [z]; rfl), fun c z => c ((nI_eq (b := 0) h (by decide)).mp z)⟩
theorem e_callKVV {M N : MD} {κ : Nat × Nat} {Q : Option Value → AH → Prop} {pc pc2 idx n : Nat} {h : AH} {ls : List (Option Value)} {st av rest : List Value} {b ci : Nat} {fs : List Value} {q : vw_C} {P : AH → Prop} (hd : decode M.2.1 pc = .ok (.invokevirtual idx, 3) ∧ pc2 = pc + 3) (hL : LcV M idx N n) (hb : Hs h b (.inr (ci, fs))) (hq : vwCl[ci]? = some q) (hqn : q.1 = N.1.cls) (hsp : Sp N κ h (.ref b :: av) (rV P)) (hn : av.length = n) (hst : st = av.reverse ++ .ref b :: rest) (hw : (rest.map fun v => v.category).sum ≤ 8)
    (k : ∀ h', P h' → h'.1 = h.1 → E M (0, 0) Q pc2 h' ls rest) : E M κ Q pc h ls st := by
  refine e_virtual hd hL hb hq hqn hsp hn hst hw ⟨Nat.le_refl _, Nat.le_refl _⟩ (fun v h' hQ hs => ?_)
  obtain ⟨rfl, hP⟩ := hQ
  rw [Nat.sub_self, Nat.sub_self]
  exact k h' hP hs
theorem e_mono {M : MD} {κ κ' : Nat × Nat} {Q : Option Value → AH → Prop} {pc : Nat} {h : AH} {ls : List (Option Value)} {st : List Value} (h1 : κ.1 ≤ κ'.1) (h2 : κ.2 ≤ κ'.2) (k : E M κ Q pc h ls st) : E M κ' Q pc h ls st := by
  intro p l e R s m args below meth c g Z mc ms hC hmc hms hret H locs cells slots lsA hk hs hW hS hl
  exact k p l e R s m args below meth c g Z (cells + κ.1) (slots + κ.2) hC (by omega) (by omega) (fun pc' v h' H' locs' cells' slots' ls' a1 a2 a3 a4 a5 => hret pc' v h' H' locs' cells' slots' ls' a1 a2 a3 (by omega) (by omega)) H locs cells slots lsA rfl rfl hW hS hl
theorem Sp.mono {M : MD} {κ κ' : Nat × Nat} {h : AH} {av : List Value} {Q : Option Value → AH → Prop} (H : Sp M κ h av Q) (h1 : κ.1 ≤ κ'.1) (h2 : κ.2 ≤ κ'.2) : Sp M κ' h av Q := ⟨H.1, e_mono h1 h2 H.2⟩

theorem nI_p0 (n : Nat) : nI n + 0 = nI n := by grind
theorem nI_2 (n : Nat) : nI n + 2 = nI (n + 2) := by simp only [fa_lit, nI_add]
theorem nI_3 (n : Nat) : nI n + 3 = nI (n + 3) := by simp only [fa_lit, nI_add]
theorem s_X3_see {h : AH} {N : Nat} {ca : Nat → Nat → Nat} {co ha : Int32} {nms : Nat → Int32} {C o : Nat} (hC : ChC h N ca co ha) (hJ : JuC h nms) (hCN : C < N) (ho : o ≤ 4) : Sp M_X3_see (0, 0) h [.ref 24, .ref 1, .int (nI C), .int (nI o)] (rV (fun h' => ∃ nms', JuC h' nms' ∧ (∀ t, t < 4 → nms' (o + t) = nI (ca C t)) ∧ (∀ t, t < o ∨ o + 4 ≤ t → nms' t = nms t) ∧ Fr [25] h h')) := by
  refine ⟨Nat.le_of_ble_eq_true rfl, ?_⟩
  show E _ _ _ 0 h [some (.ref 24), some (.ref 1), some (.int (nI C)), some (.int (nI o))] []
  obtain ⟨hN, hca, sexes, wits, homes, works, H_ch, H_sx, H_wt, H_hm, H_wk, hc4⟩ := hC
  obtain ⟨H_ju, H_jn, stk, H_js⟩ := hJ
  have hs := hc4 C hCN
  refine e_aloadn d_X3_see_0 rfl ?_
  refine e_iloadn d_X3_see_1 rfl ?_
  refine e_callVI d_X3_see_2 l_X3_see_18 H_ch rfl rfl (s_X0_has2 H_ch) rfl rfl (Nat.le_of_ble_eq_true rfl) ?_
  have hx : (0 : Int32) ≤ nI C ∧ nI C < nI N := ⟨(nI_leI (a := 0) (by decide) (by omega)).mpr (by omega), (nI_ltI (by omega) (by omega)).mpr hCN⟩
  refine e_if_eq d_X3_see_5 (fun z => by first | exact absurd (fun z => bI_0.mp z hx) z | exact absurd z (fun z => bI_0.mp z hx)) (fun _ => ?_)
  refine e_iloadn d_X3_see_8 rfl ?_
  refine e_if_lt d_X3_see_9 (fun z => by first | exact absurd (fun z => absurd (i_lt (b := 0) (by omega) (by decide) z) (by omega)) z | exact absurd z (fun z => absurd (i_lt (b := 0) (by omega) (by decide) z) (by omega))) (fun _ => ?_)
  refine e_iloadn d_X3_see_12 rfl ?_
  refine e_iconst (v := 4) d_X3_see_13 (by decide) ?_
  refine e_icmp_le d_X3_see_14 (fun _ => ?_) (fun z => by first | exact absurd ((nI_leI (b := 4) (by omega) (by decide)).mpr (by omega)) z | exact absurd z ((nI_leI (b := 4) (by omega) (by decide)).mpr (by omega)))
  refine e_aloadn d_X3_see_18 rfl ?_
  refine e_get d_X3_see_19 f_X3_9 H_ju rfl ?_
  refine e_iloadn d_X3_see_22 rfl ?_
  refine e_iconst (v := 0) d_X3_see_23 (by decide) ?_
  refine e_iadd d_X3_see_24 ?_
  refine e_aloadn d_X3_see_25 rfl ?_
  refine e_get d_X3_see_26 f_X3_24 H_ch rfl ?_
  refine e_iloadn d_X3_see_29 rfl ?_
  refine e_ialdN (k := C) d_X3_see_30 H_sx rfl (by omega) (by omega) ?_
  refine e_iastN (k := o) d_X3_see_31 H_jn (nI_p0 o) (by omega) (by omega) ?_
  refine e_aloadn d_X3_see_32 rfl ?_
  refine e_get d_X3_see_33 f_X3_9 (H_ju.n (by decide)) rfl ?_
  refine e_iloadn d_X3_see_36 rfl ?_
  refine e_iconst (v := 1) d_X3_see_37 (by decide) ?_
  refine e_iadd d_X3_see_38 ?_
  refine e_aloadn d_X3_see_39 rfl ?_
  refine e_get d_X3_see_40 f_X3_27 (H_ch.n (by decide)) rfl ?_
  refine e_iloadn d_X3_see_43 rfl ?_
  refine e_ialdN (k := C) d_X3_see_44 (H_wt.n (by decide)) rfl (by omega) (by omega) ?_
  refine e_iastN (k := o + 1) d_X3_see_45 H_jn.s (nI_1 o) (by omega) (by omega) ?_
  refine e_aloadn d_X3_see_46 rfl ?_
  refine e_get d_X3_see_47 f_X3_9 ((H_ju.n (by decide)).n (by decide)) rfl ?_
  refine e_iloadn d_X3_see_50 rfl ?_
  refine e_iconst (v := 2) d_X3_see_51 (by decide) ?_
  refine e_iadd d_X3_see_52 ?_
  refine e_aloadn d_X3_see_53 rfl ?_
  refine e_get d_X3_see_54 f_X3_30 ((H_ch.n (by decide)).n (by decide)) rfl ?_
  refine e_iloadn d_X3_see_57 rfl ?_
  refine e_ialdN (k := C) d_X3_see_58 ((H_hm.n (by decide)).n (by decide)) rfl (by omega) (by omega) ?_
  refine e_iastN (k := o + 2) d_X3_see_59 H_jn.s.s (nI_2 o) (by omega) (by omega) ?_
  refine e_aloadn d_X3_see_60 rfl ?_
  refine e_get d_X3_see_61 f_X3_9 (((H_ju.n (by decide)).n (by decide)).n (by decide)) rfl ?_
  refine e_iloadn d_X3_see_64 rfl ?_
  refine e_iconst (v := 3) d_X3_see_65 (by decide) ?_
  refine e_iadd d_X3_see_66 ?_
  refine e_aloadn d_X3_see_67 rfl ?_
  refine e_get d_X3_see_68 f_X3_33 (((H_ch.n (by decide)).n (by decide)).n (by decide)) rfl ?_
  refine e_iloadn d_X3_see_71 rfl ?_
  refine e_ialdN (k := C) d_X3_see_72 (((H_wk.n (by decide)).n (by decide)).n (by decide)) rfl (by omega) (by omega) ?_
  refine e_iastN (k := o + 3) d_X3_see_73 H_jn.s.s.s (nI_3 o) (by omega) (by omega) ?_
  exact e_vret d_X3_see_74 rfl (⟨rfl, seeN nms o (sexes C) (wits C) (homes C) (works C), ⟨by simp only [up_up]; exact H_ju.n (by decide), by simp only [up_up]; exact H_jn.s, stk, by simp only [up_up]; exact H_js.n (by decide)⟩, fun t ht => seeN_in (g := ca C) hs.1 hs.2.1 hs.2.2.1 hs.2.2.2 ht, fun t ht => seeN_out ht, by simp only [up_up]; exact (Fr.refl _ _).up (by decide)⟩)

theorem s_X3_seeLife {h : AH} {nms : Nat → Int32} {x y z : Int32} (H_ju : Hs h 24 oJu) (H_jn : Hs h 25 (aI 11 nms)) : Sp M_X3_seeLife (0, 0) h [.ref 24, .int x, .int y, .int z] (pV (up h 25 (aI 11 (va_up (va_up (va_up nms 8 x) 9 y) 10 z)))) := by
  refine ⟨Nat.le_of_ble_eq_true rfl, ?_⟩
  show E _ _ _ 0 h [some (.ref 24), some (.int x), some (.int y), some (.int z)] []
  refine e_aloadn d_X3_seeLife_0 rfl ?_
  refine e_get d_X3_seeLife_1 f_X3_9 H_ju rfl ?_
  refine e_bipush (v := 8) d_X3_seeLife_4 (by decide) ?_
  refine e_iloadn d_X3_seeLife_6 rfl ?_
  refine e_iastN (k := 8) d_X3_seeLife_7 H_jn rfl (by omega) (by omega) ?_
  refine e_aloadn d_X3_seeLife_8 rfl ?_
  refine e_get d_X3_seeLife_9 f_X3_9 (H_ju.n (by decide)) rfl ?_
  refine e_bipush (v := 9) d_X3_seeLife_12 (by decide) ?_
  refine e_iloadn d_X3_seeLife_14 rfl ?_
  refine e_iastN (k := 9) d_X3_seeLife_15 H_jn.s rfl (by omega) (by omega) ?_
  refine e_aloadn d_X3_seeLife_16 rfl ?_
  refine e_get d_X3_seeLife_17 f_X3_9 ((H_ju.n (by decide)).n (by decide)) rfl ?_
  refine e_bipush (v := 10) d_X3_seeLife_20 (by decide) ?_
  refine e_iloadn d_X3_seeLife_22 rfl ?_
  refine e_iastN (k := 10) d_X3_seeLife_23 H_jn.s.s rfl (by omega) (by omega) ?_
  exact e_vret d_X3_seeLife_24 rfl (⟨rfl, by simp only [up_up]⟩)

theorem s_X1_over {h : AH} {tp nc : Nat} {kd : Nat → Nat} {cd : Nat → List Nat} {many near : Int32} {nms : Nat → Int32} {N : Nat} {ca : Nat → Nat → Nat} {co ha : Int32} (hC : ChC h N ca co ha) (hT : TxC h tp nc kd cd many near) (hJ : JuC h nms) (hok : okT nc kd cd) : Sp M_X1_over (0, 0) h [.ref (42 + 4 * tp), .ref 1, .ref 24] (rI (fun x h' => x = nI (ovN ca N nc kd cd) ∧ (∃ nms', JuC h' nms') ∧ Fr [25, 26] h h')) := by
  refine ⟨Nat.le_of_ble_eq_true rfl, ?_⟩
  show E _ _ _ 0 h [some (.ref (42 + 4 * tp)), some (.ref 1), some (.ref 24), none, none] []
  have hC9 := hC
  obtain ⟨hN, hca, sexes, wits, homes, works, H_ch, H_sx, H_wt, H_hm, H_wk, hc4⟩ := hC9
  have H_ju := hJ.1
  refine e_iconst (v := 0) d_X1_over_0 (by decide) ?_
  refine e_istoren d_X1_over_1 (by decide) rfl ?_
  refine e_iconst (v := 0) d_X1_over_2 (by decide) ?_
  refine e_istore d_X1_over_3 (by decide) rfl ?_
  have hA_5 : ∀ i, i ≤ N → ∀ (k : AH) (F : Unit) (J : Unit) (x : Int32) (y : Int32), (Fr [25, 26] h k) → (∃ nms, JuC k nms) → (x = nI (bs (fun c => isS (nm1 ca c) nc kd cd 19) i)) → (y = nI i) → E M_X1_over (0, 0) (rI (fun x h' => x = nI (ovN ca N nc kd cd) ∧ (∃ nms', JuC h' nms') ∧ Fr [25, 26] h h')) 5 (k) [some (.ref (42 + 4 * tp)), some (.ref 1), some (.ref 24), some (.int x), some (.int y)] [] := by
    refine loop_ind (n := N) ?_
    intro i hi_i ih_5 k F J x y h_F h_J h_x h_y
    subst h_y
    have hC := ChC.fr hC h_F (by decide)
    have hT := TxC.fr hT h_F (by decide)
    have h_J9 := h_J
    obtain ⟨nms, hJ⟩ := h_J9
    have hJ1 := hJ.1
    have H_ch := h_F.hs H_ch (by decide)
    have H_sx := h_F.hs H_sx (by decide)
    have H_wt := h_F.hs H_wt (by decide)
    have H_hm := h_F.hs H_hm (by decide)
    have H_wk := h_F.hs H_wk (by decide)
    have H_ju := hJ1
    refine e_iload d_X1_over_5 rfl ?_
    refine e_aloadn d_X1_over_7 rfl ?_
    refine e_get d_X1_over_8 f_X1_33 H_ch rfl ?_
    refine e_icmp_ge d_X1_over_11 (fun c => ?_) (fun c => ?_)
    · have c := i_le (by omega) (by omega) c
      obtain rfl : N = i := by omega
      refine e_iloadn d_X1_over_49 rfl ?_
      exact e_iret d_X1_over_50 rfl (rfl) (⟨_, rfl, h_x, h_J, h_F⟩)
    · have c := i_nle (by omega) (by omega) c
      refine e_aloadn d_X1_over_14 rfl ?_
      refine e_aloadn d_X1_over_15 rfl ?_
      refine e_iload d_X1_over_16 rfl ?_
      refine e_iconst (v := 0) d_X1_over_18 (by decide) ?_
      refine e_callRVV d_X1_over_19 l_X1_over_43 H_ju rfl rfl (s_X3_see (C := i) (o := 0) hC hJ (by omega) (by decide)) rfl rfl (Nat.le_of_ble_eq_true rfl) (fun h_19 q_19 s_19 => ?_)
      obtain ⟨nms2, q_19⟩ := q_19
      have H_ch := q_19.2.2.2.hs H_ch (by first | decide | (simp; omega))
      have H_sx := q_19.2.2.2.hs H_sx (by first | decide | (simp; omega))
      have H_wt := q_19.2.2.2.hs H_wt (by first | decide | (simp; omega))
      have H_hm := q_19.2.2.2.hs H_hm (by first | decide | (simp; omega))
      have H_wk := q_19.2.2.2.hs H_wk (by first | decide | (simp; omega))
      have H_ju := q_19.2.2.2.hs H_ju (by first | decide | (simp; omega))
      refine e_iloadn d_X1_over_22 rfl ?_
      refine e_aloadn d_X1_over_23 rfl ?_
      refine e_aloadn d_X1_over_24 rfl ?_
      refine e_bipush (v := 19) d_X1_over_25 (by decide) ?_
      refine e_callRVI d_X1_over_27 l_X1_over_49 H_ju rfl rfl (s_X3_some (kk := 19) (nm := nm1 ca i) (hT.fr q_19.2.2.2 (by decide)) q_19.1 (by decide) (fun j hj hk => ⟨fun t ht ht2 => ⟨by have h4 := ((hok j hj).2.1 hk t ht ht2); have e := q_19.2.1 t h4; rw [Nat.zero_add] at e; rw [e]; simp [nm1, h4]; rfl, by simp [nm1]; have h4 := ((hok j hj).2.1 hk t ht ht2); rw [if_pos h4]; have := hca i t c h4; omega⟩, _, (hok j hj).2.2.2 (by omega)⟩)) rfl rfl (Nat.le_of_ble_eq_true rfl) (fun x_27 h_27 q_27 s_27 => ?_)
      obtain ⟨rfl, q_27⟩ := q_27
      refine e_dia 41 (0) ((1 : Int32) <<< (nI i &&& 31)) (fun kt kf => e_if_eq d_X1_over_30 kt kf) (fun c_30 K_30 => ?_) (fun c_30 K_30 => ?_) (fun z_30 hz_30 => ?_)
      · refine e_iconst (v := 0) d_X1_over_40 (by decide) ?_
        exact K_30
      · refine e_iconst (v := 1) d_X1_over_33 (by decide) ?_
        refine e_iload d_X1_over_34 rfl ?_
        refine e_ishl d_X1_over_36 ?_
        refine e_gt d_X1_over_37 ?_
        exact K_30
      · refine e_ior d_X1_over_41 ?_
        refine e_istoren d_X1_over_42 (by decide) rfl ?_
        refine e_iincw (w := 1) d_X1_over_43 rfl (by decide) (by decide) rfl ?_
        refine e_gt d_X1_over_46 ?_
        refine ih_5 (i + 1) (by omega) (by omega) _ () () _ _ ?_ ?_ ?_ ?_
        · exact (h_F.trans (q_19.2.2.2.mono (by decide))).trans (q_27.2.mono (by decide))
        · exact ⟨_, q_27.1⟩
        · exact bs_or (P := fun c => isS (nm1 ca c) nc kd cd 19) (by omega) h_x hz_30
        · exact nI_1 i
  exact hA_5 0 (by omega) _ () () _ _ (Fr.refl _ _) (⟨_, hJ⟩) (rfl) (rfl)

theorem nm2_ok {f : Nat → Int32} {ca : Nat → Nat → Nat} {N i j t : Nat} (hca : ∀ c k, c < N → k < 4 → ca c k ≤ 99) (hi : i < N) (hj : j < N) (h0 : ∀ t, t < 4 → f t = nI (ca i t)) (h4 : ∀ t, t < 4 → f (4 + t) = nI (ca j t)) (ht : t < 8) : f t = Int32.ofInt (nm2 ca i j t) ∧ -1000000 ≤ nm2 ca i j t ∧ nm2 ca i j t ≤ 1000000 := by
  by_cases h : t < 4
  · have := hca i t hi h
    simp only [nm2, if_pos h]
    exact ⟨h0 t h, by omega, by omega⟩
  · have := hca j (t - 4) hj (by omega)
    simp only [nm2, if_neg h, if_pos ht]
    have e := h4 (t - 4) (by omega)
    rw [show 4 + (t - 4) = t by omega] at e
    exact ⟨e, by omega, by omega⟩
theorem s_X1_bind {h : AH} {tp nc : Nat} {kd : Nat → Nat} {cd : Nat → List Nat} {many near : Int32} {nms : Nat → Int32} {N : Nat} {ca : Nat → Nat → Nat} {co ha : Int32} {drow : Nat} {dcnt dtext : Int32} {w0 a0 : Nat → Int32} (hC : ChC h N ca co ha) (hT : TxC h tp nc kd cd many near) (hJ : JuC h nms) (hok : okT nc kd cd) (H_de : Hs h 27 (oDe drow dcnt dtext)) (H_dw : Hs h 28 (aI 14 w0)) (H_da : Hs h 29 (aI 14 a0)) : Sp M_X1_bind (0, 0) h [.ref 27, .ref (42 + 4 * tp), .ref 1, .ref 24] (rV (fun h' => (∃ nms', JuC h' nms') ∧ Fr [25, 26, 28, 29] h h' ∧ ∃ w a, Hs h' 28 (aI 14 w) ∧ Hs h' 29 (aI 14 a) ∧ ∀ c, c < N → w c = nI (bs (wN ca nc kd cd 17 c) N) ∧ a c = nI (bs (wN ca nc kd cd 18 c) N))) := by
  refine ⟨Nat.le_of_ble_eq_true rfl, ?_⟩
  show E _ _ _ 0 h [some (.ref 27), some (.ref (42 + 4 * tp)), some (.ref 1), some (.ref 24), none, none] []
  have hC9 := hC
  obtain ⟨hN, hca, sexes, wits, homes, works, H_ch, H_sx, H_wt, H_hm, H_wk, hc4⟩ := hC9
  have H_ju := hJ.1
  refine e_iconst (v := 0) d_X1_bind_0 (by decide) ?_
  refine e_istore d_X1_bind_1 (by decide) rfl ?_
  have hA_3 : ∀ i, i ≤ N → ∀ (k : AH) (F : Unit) (J : Unit) (w : Nat → Int32) (a : Nat → Int32) (u : Unit) (y : Int32), (Fr [25, 26, 28, 29] h k) → (∃ nms, JuC k nms) → (Hs k 28 (aI 14 w)) → (Hs k 29 (aI 14 a)) → (∀ c, c < i → w c = nI (bs (wN ca nc kd cd 17 c) N) ∧ a c = nI (bs (wN ca nc kd cd 18 c) N)) → (y = nI i) → E M_X1_bind (0, 0) (rV (fun h' => (∃ nms', JuC h' nms') ∧ Fr [25, 26, 28, 29] h h' ∧ ∃ w a, Hs h' 28 (aI 14 w) ∧ Hs h' 29 (aI 14 a) ∧ ∀ c, c < N → w c = nI (bs (wN ca nc kd cd 17 c) N) ∧ a c = nI (bs (wN ca nc kd cd 18 c) N))) 3 (k) [some (.ref 27), some (.ref (42 + 4 * tp)), some (.ref 1), some (.ref 24), some (.int y), none] [] := by
    refine loop_ind (n := N) ?_
    intro i hi_i ih_3 k F J w a u y h_F h_J h_w h_a h_u h_y
    subst h_y
    have hC := ChC.fr hC h_F (by decide)
    have hT := TxC.fr hT h_F (by decide)
    have h_J9 := h_J
    obtain ⟨nms, hJ⟩ := h_J9
    have H_ch := h_F.hs H_ch (by decide)
    have H_sx := h_F.hs H_sx (by decide)
    have H_wt := h_F.hs H_wt (by decide)
    have H_hm := h_F.hs H_hm (by decide)
    have H_wk := h_F.hs H_wk (by decide)
    have H_de := h_F.hs H_de (by decide)
    have G_ch := H_ch
    have G_sx := H_sx
    have G_wt := H_wt
    have G_hm := H_hm
    have G_wk := H_wk
    have G_de := H_de
    have H_ju := hJ.1
    have H_dw := h_w
    have H_da := h_a
    refine e_iload d_X1_bind_3 rfl ?_
    refine e_aloadn d_X1_bind_5 rfl ?_
    refine e_get d_X1_bind_6 f_X1_33 H_ch rfl ?_
    refine e_icmp_ge d_X1_bind_9 (fun c => ?_) (fun c => ?_)
    · have c := i_le (by omega) (by omega) c
      obtain rfl : N = i := by omega
      exact e_vret d_X1_bind_127 rfl (⟨rfl, h_J, h_F, w, a, h_w, h_a, h_u⟩)
    · have c := i_nle (by omega) (by omega) c
      refine e_aloadn d_X1_bind_12 rfl ?_
      refine e_get d_X1_bind_13 f_X1_9 H_de rfl ?_
      refine e_iload d_X1_bind_16 rfl ?_
      refine e_iconst (v := 0) d_X1_bind_18 (by decide) ?_
      refine e_iastN (k := i) d_X1_bind_19 H_dw rfl (by omega) (by omega) ?_
      refine e_aloadn d_X1_bind_20 rfl ?_
      refine e_get d_X1_bind_21 f_X1_15 (H_de.n (by decide)) rfl ?_
      refine e_iload d_X1_bind_24 rfl ?_
      refine e_iconst (v := 0) d_X1_bind_26 (by decide) ?_
      refine e_iastN (k := i) d_X1_bind_27 (H_da.n (by decide)) rfl (by omega) (by omega) ?_
      refine e_aloadn d_X1_bind_28 rfl ?_
      refine e_aloadn d_X1_bind_29 rfl ?_
      refine e_iload d_X1_bind_30 rfl ?_
      refine e_iconst (v := 0) d_X1_bind_32 (by decide) ?_
      have fr0 : Fr [28, 29] k _ := ((Fr.refl [28, 29] k).up (k := 28) (c := aI 14 (va_up w i 0)) (by decide)).up (k := 29) (c := aI 14 (va_up a i 0)) (by decide)
      refine e_callRVV d_X1_bind_33 l_X1_bind_43 ((H_ju.n (by decide)).n (by decide)) rfl rfl (s_X3_see (C := i) (o := 0) (ChC.fr hC fr0 (by decide)) (JuC.fr hJ fr0 (by decide)) (by omega) (by decide)) rfl rfl (Nat.le_of_ble_eq_true rfl) (fun h_33 q_33 s_33 => ?_)
      obtain ⟨nms2, hJ_33, hn_33, -, fr_33⟩ := q_33
      have H_ch := fr_33.hs ((H_ch.n (by decide)).n (by decide)) (by first | decide | (simp; omega))
      have H_sx := fr_33.hs ((H_sx.n (by decide)).n (by decide)) (by first | decide | (simp; omega))
      have H_wt := fr_33.hs ((H_wt.n (by decide)).n (by decide)) (by first | decide | (simp; omega))
      have H_hm := fr_33.hs ((H_hm.n (by decide)).n (by decide)) (by first | decide | (simp; omega))
      have H_wk := fr_33.hs ((H_wk.n (by decide)).n (by decide)) (by first | decide | (simp; omega))
      have H_ju := fr_33.hs ((H_ju.n (by decide)).n (by decide)) (by first | decide | (simp; omega))
      have H_de := fr_33.hs ((H_de.n (by decide)).n (by decide)) (by first | decide | (simp; omega))
      have H_dw := fr_33.hs (H_dw.s.n (by decide)) (by first | decide | (simp; omega))
      have H_da := fr_33.hs ((H_da.n (by decide)).s) (by first | decide | (simp; omega))
      refine e_iload d_X1_bind_36 rfl ?_
      refine e_iconst (v := 1) d_X1_bind_38 (by decide) ?_
      refine e_iadd d_X1_bind_39 ?_
      refine e_istore d_X1_bind_40 (by decide) rfl ?_
      have hA_42 : ∀ j, j ≤ N → ∀ (m : AH) (G : Unit) (K : Unit) (v : Nat → Int32) (b : Nat → Int32) (s : Unit) (t : Unit) (x : Unit) (z : Int32), (Fr [25, 26, 28, 29] k m) → (∃ nms, JuC m nms ∧ ∀ t, t < 4 → nms t = nI (ca i t)) → (Hs m 28 (aI 14 v)) → (Hs m 29 (aI 14 b)) → (∀ c, c < i → v c = nI (bs (wN ca nc kd cd 17 c) N) ∧ b c = nI (bs (wN ca nc kd cd 18 c) N)) → (v i = nI (bs (wN ca nc kd cd 17 i) j) ∧ b i = nI (bs (wN ca nc kd cd 18 i) j)) → (i < j) → (z = nI j) → E M_X1_bind (0, 0) (rV (fun h' => (∃ nms', JuC h' nms') ∧ Fr [25, 26, 28, 29] h h' ∧ ∃ w a, Hs h' 28 (aI 14 w) ∧ Hs h' 29 (aI 14 a) ∧ ∀ c, c < N → w c = nI (bs (wN ca nc kd cd 17 c) N) ∧ a c = nI (bs (wN ca nc kd cd 18 c) N))) 42 (m) [some (.ref 27), some (.ref (42 + 4 * tp)), some (.ref 1), some (.ref 24), some (.int (nI i)), some (.int z)] [] := by
        refine loop_ind (n := N) ?_
        intro j hi_j ih_42 m G K v b s t x z h_G h_K h_v h_b h_s h_t h_x h_z
        subst h_z
        have hC := ChC.fr hC h_G (by decide)
        have hT := TxC.fr hT h_G (by decide)
        have h_K9 := h_K
        obtain ⟨nms, hJ, hn0⟩ := h_K9
        have H_ch := h_G.hs G_ch (by decide)
        have H_sx := h_G.hs G_sx (by decide)
        have H_wt := h_G.hs G_wt (by decide)
        have H_hm := h_G.hs G_hm (by decide)
        have H_wk := h_G.hs G_wk (by decide)
        have H_de := h_G.hs G_de (by decide)
        have H_ju := hJ.1
        have H_dw := h_v
        have H_da := h_b
        refine e_iload d_X1_bind_42 rfl ?_
        refine e_aloadn d_X1_bind_44 rfl ?_
        refine e_get d_X1_bind_45 f_X1_33 H_ch rfl ?_
        refine e_icmp_ge d_X1_bind_48 (fun c2 => ?_) (fun c2 => ?_)
        · have c2 := i_le (by omega) (by omega) c2
          obtain rfl : N = j := by omega
          refine e_iincw (w := 1) d_X1_bind_121 rfl (by decide) (by decide) rfl ?_
          refine e_gt d_X1_bind_124 ?_
          refine e_drop1 5 ?_
          refine ih_3 (i + 1) (by omega) (by omega) _ () () v b () _ ?_ ?_ ?_ ?_ ?_ ?_
          · exact h_F.trans (h_G.mono (by decide))
          · exact h_K.elim fun n q => ⟨n, q.1⟩
          · exact h_v
          · exact h_b
          · intro c9 hc9
            by_cases e9 : c9 = i
            · subst e9; exact h_t
            · have := h_s c9 (by omega); exact this
          · exact nI_1 i
        · have c2 := i_nle (by omega) (by omega) c2
          refine e_aloadn d_X1_bind_51 rfl ?_
          refine e_aloadn d_X1_bind_52 rfl ?_
          refine e_iload d_X1_bind_53 rfl ?_
          refine e_iconst (v := 4) d_X1_bind_55 (by decide) ?_
          refine e_callRVV d_X1_bind_56 l_X1_bind_43 H_ju rfl rfl (s_X3_see (C := j) (o := 4) hC hJ (by omega) (by decide)) rfl rfl (Nat.le_of_ble_eq_true rfl) (fun h_56 q_56 s_56 => ?_)
          obtain ⟨nms3, hJ_56, hn_56, hm_56, fr_56⟩ := q_56
          have H_ch := fr_56.hs H_ch (by first | decide | (simp; omega))
          have H_sx := fr_56.hs H_sx (by first | decide | (simp; omega))
          have H_wt := fr_56.hs H_wt (by first | decide | (simp; omega))
          have H_hm := fr_56.hs H_hm (by first | decide | (simp; omega))
          have H_wk := fr_56.hs H_wk (by first | decide | (simp; omega))
          have H_ju := fr_56.hs H_ju (by first | decide | (simp; omega))
          have H_de := fr_56.hs H_de (by first | decide | (simp; omega))
          have H_dw := fr_56.hs H_dw (by first | decide | (simp; omega))
          have H_da := fr_56.hs H_da (by first | decide | (simp; omega))
          have hN0 : ∀ t, t < 4 → nms3 t = nI (ca i t) := fun t ht => (hm_56 t (Or.inl ht)).trans (hn0 t ht)
          refine e_aloadn d_X1_bind_59 rfl ?_
          refine e_get d_X1_bind_60 f_X1_9 H_de rfl ?_
          refine e_iload d_X1_bind_63 rfl ?_
          refine e_dup2 d_X1_bind_65 rfl rfl ?_
          refine e_ialdN (k := i) d_X1_bind_66 H_dw rfl (by omega) (by omega) ?_
          refine e_aloadn d_X1_bind_67 rfl ?_
          refine e_aloadn d_X1_bind_68 rfl ?_
          refine e_bipush (v := 17) d_X1_bind_69 (by decide) ?_
          refine e_callRVI d_X1_bind_71 l_X1_bind_49 H_ju rfl rfl (s_X3_some (kk := 17) (nm := nm2 ca i j) (hT.fr fr_56 (by decide)) hJ_56 (by decide) (fun m hm hk => ⟨fun t ht ht2 => nm2_ok hca (by omega) c2 hN0 hn_56 ((hok m hm).1 (by omega) t ht ht2), _, (hok m hm).2.2.2 (by omega)⟩)) rfl rfl (Nat.le_of_ble_eq_true rfl) (fun x_71 h_71 q_71 s_71 => ?_)
          obtain ⟨rfl, hJ_71, fr_71⟩ := q_71
          have H_ch := fr_71.hs H_ch (by first | decide | (simp; omega))
          have H_sx := fr_71.hs H_sx (by first | decide | (simp; omega))
          have H_wt := fr_71.hs H_wt (by first | decide | (simp; omega))
          have H_hm := fr_71.hs H_hm (by first | decide | (simp; omega))
          have H_wk := fr_71.hs H_wk (by first | decide | (simp; omega))
          have H_ju := fr_71.hs H_ju (by first | decide | (simp; omega))
          have H_de := fr_71.hs H_de (by first | decide | (simp; omega))
          have H_dw := fr_71.hs H_dw (by first | decide | (simp; omega))
          have H_da := fr_71.hs H_da (by first | decide | (simp; omega))
          refine e_dia 85 (0) ((1 : Int32) <<< (nI j &&& 31)) (fun kt kf => e_if_eq d_X1_bind_74 kt kf) (fun c_74 K_74 => ?_) (fun c_74 K_74 => ?_) (fun z_74 hz_74 => ?_)
          · refine e_iconst (v := 0) d_X1_bind_84 (by decide) ?_
            exact K_74
          · refine e_iconst (v := 1) d_X1_bind_77 (by decide) ?_
            refine e_iload d_X1_bind_78 rfl ?_
            refine e_ishl d_X1_bind_80 ?_
            refine e_gt d_X1_bind_81 ?_
            exact K_74
          · refine e_ior d_X1_bind_85 ?_
            refine e_iastN (k := i) d_X1_bind_86 H_dw rfl (by omega) (by omega) ?_
            refine e_aloadn d_X1_bind_87 rfl ?_
            refine e_get d_X1_bind_88 f_X1_15 (H_de.n (by decide)) rfl ?_
            refine e_iload d_X1_bind_91 rfl ?_
            refine e_dup2 d_X1_bind_93 rfl rfl ?_
            refine e_ialdN (k := i) d_X1_bind_94 (H_da.n (by decide)) rfl (by omega) (by omega) ?_
            refine e_aloadn d_X1_bind_95 rfl ?_
            refine e_aloadn d_X1_bind_96 rfl ?_
            refine e_bipush (v := 18) d_X1_bind_97 (by decide) ?_
            have fr85 : Fr [25, 26, 28] m _ := ((fr_56.mono (by decide)).trans (fr_71.mono (by decide))).up (k := 28) (c := aI 14 (va_up v i (v i ||| z_74))) (by decide)
            refine e_callRVI d_X1_bind_99 l_X1_bind_49 (H_ju.n (by decide)) rfl rfl (s_X3_some (kk := 18) (nm := nm2 ca i j) (hT.fr fr85 (by decide)) (JuC.fr hJ_71 ((Fr.refl [28] _).up (k := 28) (by decide)) (by decide)) (by decide) (fun m hm hk => ⟨fun t ht ht2 => nm2_ok hca (by omega) c2 hN0 hn_56 ((hok m hm).1 (by omega) t ht ht2), _, (hok m hm).2.2.2 (by omega)⟩)) rfl rfl (Nat.le_of_ble_eq_true rfl) (fun x_99 h_99 q_99 s_99 => ?_)
            obtain ⟨rfl, hJ_99, fr_99⟩ := q_99
            have H_ch := fr_99.hs (H_ch.n (by decide)) (by first | decide | (simp; omega))
            have H_sx := fr_99.hs (H_sx.n (by decide)) (by first | decide | (simp; omega))
            have H_wt := fr_99.hs (H_wt.n (by decide)) (by first | decide | (simp; omega))
            have H_hm := fr_99.hs (H_hm.n (by decide)) (by first | decide | (simp; omega))
            have H_wk := fr_99.hs (H_wk.n (by decide)) (by first | decide | (simp; omega))
            have H_ju := fr_99.hs (H_ju.n (by decide)) (by first | decide | (simp; omega))
            have H_de := fr_99.hs (H_de.n (by decide)) (by first | decide | (simp; omega))
            have H_dw := fr_99.hs H_dw.s (by first | decide | (simp; omega))
            have H_da := fr_99.hs (H_da.n (by decide)) (by first | decide | (simp; omega))
            refine e_dia 113 (0) ((1 : Int32) <<< (nI j &&& 31)) (fun kt kf => e_if_eq d_X1_bind_102 kt kf) (fun c_102 K_102 => ?_) (fun c_102 K_102 => ?_) (fun z_102 hz_102 => ?_)
            · refine e_iconst (v := 0) d_X1_bind_112 (by decide) ?_
              exact K_102
            · refine e_iconst (v := 1) d_X1_bind_105 (by decide) ?_
              refine e_iload d_X1_bind_106 rfl ?_
              refine e_ishl d_X1_bind_108 ?_
              refine e_gt d_X1_bind_109 ?_
              exact K_102
            · refine e_ior d_X1_bind_113 ?_
              refine e_iastN (k := i) d_X1_bind_114 H_da rfl (by omega) (by omega) ?_
              refine e_iincw (w := 1) d_X1_bind_115 rfl (by decide) (by decide) rfl ?_
              refine e_gt d_X1_bind_118 ?_
              refine ih_42 (j + 1) (by omega) (by omega) _ () () (va_up v i (v i ||| z_74)) (va_up b i (b i ||| z_102)) () () () _ ?_ ?_ ?_ ?_ ?_ ?_ ?_ ?_
              · exact (((((h_G.trans (fr_56.mono (by decide))).trans (fr_71.mono (by decide))).up (by decide)).trans (fr_99.mono (by decide))).up (by decide))
              · exact ⟨_, JuC.fr hJ_99 ((Fr.refl [29] _).up (by decide)) (by decide), fun t ht => by first | exact hN0 t ht⟩
              · exact (Hs.n (Fr.hs fr_99 (Hs.s (Fr.hs fr_71 (Fr.hs fr_56 h_v (by decide)) (by decide))) (by decide)) (by decide))
              · exact Hs.s H_da
              · intro c9 hc9
                rw [va_up_ne _ _ (by omega), va_up_ne _ _ (by omega)]; exact h_s c9 hc9
              · rw [va_up_self, va_up_self]
                exact ⟨bs_or (by omega) h_t.1 (by rw [wN_gt h_x]; exact hz_74), bs_or (by omega) h_t.2 (by rw [wN_gt h_x]; exact hz_102)⟩
              · omega
              · exact nI_1 j
      exact hA_42 (i + 1) (by omega) _ () () _ _ () () () _ (((((Fr.refl _ _).up (by decide)).up (by decide)).trans (fr_33.mono (by decide)))) (⟨_, hJ_33, fun t ht => by have := hn_33 t ht; rwa [Nat.zero_add] at this⟩) (H_dw) (H_da) (fun c9 hc9 => by rw [va_up_ne _ _ (by omega), va_up_ne _ _ (by omega)]; exact h_u c9 hc9) (by rw [va_up_self, va_up_self, wN_zero, wN_zero]; exact ⟨rfl, rfl⟩) (Nat.lt_succ_self i) (nI_1 i)
  exact hA_3 0 (by omega) _ () () _ _ () _ (Fr.refl _ _) (⟨_, hJ⟩) (H_dw) (H_da) (fun c hc => absurd hc (by omega)) (rfl)

theorem abs_N {x : Int} (h : -1386 ≤ x ∧ x ≤ 1386) : (if Int32.ofInt x < 0 then -(Int32.ofInt x) else Int32.ofInt x) = nI x.natAbs := by
  have e := i32_ofInt (z := x) (by omega) (by omega)
  have hlt : Int32.ofInt x < 0 ↔ x < 0 := by rw [Int32.lt_iff_toInt_lt, e]; simp
  by_cases hx : x < 0
  · rw [if_pos (hlt.mpr hx), ← Int32.ofInt_neg, nI_int]; congr 1; omega
  · rw [if_neg (fun z => hx (hlt.mp z)), nI_int]; congr 1; omega
theorem s_X1_unlikeness {h : AH} {N : Nat} {ca : Nat → Nat → Nat} {co ha : Int32} {S : Nat} (hC : ChC h N ca co ha) (hS : S < 16384) : Sp M_X1_unlikeness (0, 0) h [.int (nI S), .ref 1] (pI (nI (uS ca S N).natAbs) h) := by
  refine ⟨Nat.le_of_ble_eq_true rfl, ?_⟩
  show E _ _ _ 0 h [some (.int (nI S)), some (.ref 1), none, none] []
  obtain ⟨hN, hca, sexes, wits, homes, works, H_ch, H_sx, H_wt, H_hm, H_wk, hc4⟩ := hC
  have hu := uS_in (S := S) hca
  have hu : -1386 ≤ uS ca S N ∧ uS ca S N ≤ 1386 := by omega
  refine e_iconst (v := 0) d_X1_unlikeness_0 (by decide) ?_
  refine e_istoren d_X1_unlikeness_1 (by decide) rfl ?_
  refine e_iconst (v := 0) d_X1_unlikeness_2 (by decide) ?_
  refine e_istoren d_X1_unlikeness_3 (by decide) rfl ?_
  have hA_4 : ∀ i, i ≤ N → ∀ (x : Int32) (y : Int32), (x = Int32.ofInt (uS ca S i)) → (y = nI i) → E M_X1_unlikeness (0, 0) (pI (nI (uS ca S N).natAbs) h) 4 (h) [some (.int (nI S)), some (.ref 1), some (.int x), some (.int y)] [] := by
    refine loop_ind (n := N) ?_
    intro i hi_i ih_4 x y h_x h_y
    subst h_y
    refine e_iloadn d_X1_unlikeness_4 rfl ?_
    refine e_aloadn d_X1_unlikeness_5 rfl ?_
    refine e_get d_X1_unlikeness_6 f_X1_33 H_ch rfl ?_
    refine e_icmp_ge d_X1_unlikeness_9 (fun c => ?_) (fun c => ?_)
    · have c := i_le (by omega) (by omega) c
      obtain rfl : N = i := by omega
      refine e_iloadn d_X1_unlikeness_46 rfl ?_
      rw [h_x]
      refine e_callSI d_X1_unlikeness_47 l_X1_unlikeness_74 (s_J9_abs_0f7a4) rfl rfl (Nat.le_of_ble_eq_true rfl) ?_
      exact e_iret d_X1_unlikeness_50 rfl (rfl) (⟨by rw [abs_N hu], rfl⟩)
    · have c := i_nle (by omega) (by omega) c
      refine e_iloadn d_X1_unlikeness_12 rfl ?_
      refine e_iloadn d_X1_unlikeness_13 rfl ?_
      refine e_iloadn d_X1_unlikeness_14 rfl ?_
      refine e_ishr d_X1_unlikeness_15 ?_
      refine e_iconst (v := 1) d_X1_unlikeness_16 (by decide) ?_
      refine e_iand d_X1_unlikeness_17 ?_
      refine e_iconst (v := 1) d_X1_unlikeness_18 (by decide) ?_
      refine e_dia 38 (-(wits i)) (wits i) (fun kt kf => e_icmp_ne d_X1_unlikeness_19 kt kf) (fun c_19 K_19 => ?_) (fun c_19 K_19 => ?_) (fun z_19 hz_19 => ?_)
      · refine e_aloadn d_X1_unlikeness_31 rfl ?_
        refine e_get d_X1_unlikeness_32 f_X1_71 H_ch rfl ?_
        refine e_iloadn d_X1_unlikeness_35 rfl ?_
        refine e_ialdN (k := i) d_X1_unlikeness_36 H_wt rfl (by omega) (by omega) ?_
        refine e_ineg d_X1_unlikeness_37 ?_
        exact K_19
      · refine e_aloadn d_X1_unlikeness_22 rfl ?_
        refine e_get d_X1_unlikeness_23 f_X1_71 H_ch rfl ?_
        refine e_iloadn d_X1_unlikeness_26 rfl ?_
        refine e_ialdN (k := i) d_X1_unlikeness_27 H_wt rfl (by omega) (by omega) ?_
        refine e_gt d_X1_unlikeness_28 ?_
        exact K_19
      · refine e_iadd d_X1_unlikeness_38 ?_
        refine e_istoren d_X1_unlikeness_39 (by decide) rfl ?_
        refine e_iincw (w := 1) d_X1_unlikeness_40 rfl (by decide) (by decide) rfl ?_
        refine e_gt d_X1_unlikeness_43 ?_
        refine ih_4 (i + 1) (by omega) (by omega) _ _ ?_ ?_
        · rw [h_x, uS]
          rcases hz_19 with ⟨q, rfl⟩ | ⟨q, rfl⟩
          · have hb := bit0 (by omega) (by omega) q
            rw [if_neg (by rw [hb]; decide), (hc4 i c).2.1, Int32.ofInt_add, Int32.ofInt_neg]; rfl
          · have hb := (bit1 (by omega) (by omega)).mp q
            rw [if_pos hb, (hc4 i c).2.1, Int32.ofInt_add]; rfl
        · exact nI_1 i
  exact hA_4 0 (by omega) _ _ (rfl) (rfl)

theorem s_X1_fits {h : AH} {tp nc : Nat} {kd : Nat → Nat} {cd : Nat → List Nat} {tcl many near : Int32} {N : Nat} {ca : Nat → Nat → Nat} {co ha : Int32} {drow S : Nat} {dcnt dtext : Int32} {w a : Nat → Int32} (hC : ChC h N ca co ha) (H_tx : Hs h (42 + 4 * tp) (oTx tp tcl many near)) (H_de : Hs h 27 (oDe drow dcnt dtext)) (H_dw : Hs h 28 (aI 14 w)) (H_da : Hs h 29 (aI 14 a)) (hS : S < 16384) (hwa : ∀ c, c < N → w c = nI (bs (wN ca nc kd cd 17 c) N) ∧ a c = nI (bs (wN ca nc kd cd 18 c) N)) : Sp M_X1_fits (0, 0) h [.ref 27, .int (nI S), .ref (42 + 4 * tp), .ref 1] (pI (bI (fitB ca N nc kd cd many near S = true)) h) := by
  refine ⟨Nat.le_of_ble_eq_true rfl, ?_⟩
  show E _ _ _ 0 h [some (.ref 27), some (.int (nI S)), some (.ref (42 + 4 * tp)), some (.ref 1), none, none] []
  have hC9 := hC
  obtain ⟨hN, hca, sexes, wits, homes, works, H_ch, H_sx, H_wt, H_hm, H_wk, hc4⟩ := hC9
  refine e_aloadn d_X1_fits_0 rfl ?_
  refine e_get d_X1_fits_1 f_X1_53 H_tx rfl ?_
  refine e_iconst (v := -1) d_X1_fits_4 (by decide) ?_
  refine e_icmp_eq d_X1_fits_5 (fun c_5 => ?_) (fun c_5 => ?_)
  · have hm : many = -1 ∨ nI (pc S 14) = many := Or.inl c_5
    refine e_aloadn d_X1_fits_21 rfl ?_
    refine e_get d_X1_fits_22 f_X1_64 H_tx rfl ?_
    refine e_iconst (v := -1) d_X1_fits_25 (by decide) ?_
    refine e_icmp_eq d_X1_fits_26 (fun c_26 => ?_) (fun c_26 => ?_)
    · have hn : near = -1 ∨ nI (uS ca S N).natAbs ≤ near := Or.inl c_26
      refine e_iconst (v := 0) d_X1_fits_43 (by decide) ?_
      refine e_istore d_X1_fits_44 (by decide) rfl ?_
      have hA_46 : ∀ i, i ≤ N → ∀ (u : Unit) (y : Int32), (∀ c, c < i → (okA ca N nc kd cd S) c = true) → (y = nI i) → E M_X1_fits (0, 0) (pI (bI (fitB ca N nc kd cd many near S = true)) h) 46 (h) [some (.ref 27), some (.int (nI S)), some (.ref (42 + 4 * tp)), some (.ref 1), some (.int y), none] [] := by
        refine loop_ind (n := N) ?_
        intro i hi_i ih_46 u y h_u h_y
        subst h_y
        refine e_iload d_X1_fits_46 rfl ?_
        refine e_aloadn d_X1_fits_48 rfl ?_
        refine e_get d_X1_fits_49 f_X1_33 H_ch rfl ?_
        refine e_icmp_ge d_X1_fits_52 (fun c => ?_) (fun c => ?_)
        · have c := i_le (by omega) (by omega) c
          obtain rfl : N = i := by omega
          refine e_iconst (v := 1) d_X1_fits_110 (by decide) ?_
          exact e_iret d_X1_fits_111 rfl (rfl) (⟨by rw [show fitB ca N nc kd cd many near S = true by simp only [fitB]; rw [allN_t h_u, decide_eq_true hm, decide_eq_true hn]; rfl]; rfl, rfl⟩)
        · have c := i_nle (by omega) (by omega) c
          refine e_iloadn d_X1_fits_55 rfl ?_
          refine e_iload d_X1_fits_56 rfl ?_
          refine e_ishr d_X1_fits_58 ?_
          refine e_iconst (v := 1) d_X1_fits_59 (by decide) ?_
          refine e_iand d_X1_fits_60 ?_
          refine e_iconst (v := 1) d_X1_fits_61 (by decide) ?_
          refine e_dia 72 (nI S ^^^ (-1)) (nI S) (fun kt kf => e_icmp_ne d_X1_fits_62 kt kf) (fun c_62 K_62 => ?_) (fun c_62 K_62 => ?_) (fun z_62 hz_62 => ?_)
          · refine e_iloadn d_X1_fits_69 rfl ?_
            refine e_iconst (v := -1) d_X1_fits_70 (by decide) ?_
            refine e_ixor d_X1_fits_71 ?_
            exact K_62
          · refine e_iloadn d_X1_fits_65 rfl ?_
            refine e_gt d_X1_fits_66 ?_
            exact K_62
          · have hw2 := bs_14 (wN ca nc kd cd 17 i) hN
            have ha2 := bs_14 (wN ca nc kd cd 18 i) hN
            have hside : (nI (bs (wN ca nc kd cd 17 i) N) &&& (z_62 ^^^ (-1)) = 0 ∧ nI (bs (wN ca nc kd cd 18 i) N) &&& z_62 = 0) ↔ (okA ca N nc kd cd S) i = true := by
              have g1 := sd_le (bs (wN ca nc kd cd 17 i) N) S
              have g2 := sd_le (bs (wN ca nc kd cd 18 i) N) S
              have g3 := and_l (bs (wN ca nc kd cd 17 i) N) S
              have g4 := and_l (bs (wN ca nc kd cd 18 i) N) S
              rcases hz_62 with ⟨q, rfl⟩ | ⟨q, rfl⟩
              · have hb := bit0 (by omega) (by omega) q
                rw [nI_nn, nI_and, nI_sdx, show (0 : Int32) = nI 0 from rfl, nI_eq (by omega) (by decide), nI_eq (by omega) (by decide)]
                simp [okA, okS, hb]
              · have hb := (bit1 (by omega) (by omega)).mp q
                rw [nI_and, nI_sdx, show (0 : Int32) = nI 0 from rfl, nI_eq (by omega) (by decide), nI_eq (by omega) (by decide)]
                simp [okA, okS, hb]
            refine e_istore d_X1_fits_72 (by decide) rfl ?_
            refine e_aloadn d_X1_fits_74 rfl ?_
            refine e_get d_X1_fits_75 f_X1_9 H_de rfl ?_
            refine e_iload d_X1_fits_78 rfl ?_
            refine e_ialdN (k := i) d_X1_fits_80 H_dw rfl (by omega) (by omega) ?_
            refine e_iload d_X1_fits_81 rfl ?_
            refine e_iconst (v := -1) d_X1_fits_83 (by decide) ?_
            refine e_ixor d_X1_fits_84 ?_
            refine e_iand d_X1_fits_85 ?_
            rw [(hwa i c).1]
            refine e_if_ne d_X1_fits_86 (fun c_86 => ?_) (fun c_86 => ?_)
            · have hb : (okA ca N nc kd cd S) i = false := Bool.eq_false_iff.mpr (fun z => c_86 (hside.mpr z).1)
              refine e_iconst (v := 0) d_X1_fits_102 (by decide) ?_
              exact e_iret d_X1_fits_103 rfl (rfl) (⟨by rw [show fitB ca N nc kd cd many near S = false by simp only [fitB]; rw [allN_f c hb, Bool.and_false, Bool.and_false]]; rfl, rfl⟩)
            · refine e_aloadn d_X1_fits_89 rfl ?_
              refine e_get d_X1_fits_90 f_X1_15 H_de rfl ?_
              refine e_iload d_X1_fits_93 rfl ?_
              refine e_ialdN (k := i) d_X1_fits_95 H_da rfl (by omega) (by omega) ?_
              refine e_iload d_X1_fits_96 rfl ?_
              refine e_iand d_X1_fits_98 ?_
              rw [(hwa i c).2]
              refine e_if_eq d_X1_fits_99 (fun c_99 => ?_) (fun c_99 => ?_)
              · have hb : (okA ca N nc kd cd S) i = true := hside.mp ⟨c_86, c_99⟩
                refine e_iincw (w := 1) d_X1_fits_104 rfl (by decide) (by decide) rfl ?_
                refine e_gt d_X1_fits_107 ?_
                refine e_drop1 5 ?_
                refine ih_46 (i + 1) (by omega) (by omega) () _ ?_ ?_
                · intro c9 hc9
                  by_cases e9 : c9 = i
                  · subst e9; exact hb
                  · exact h_u c9 (by omega)
                · exact nI_1 i
              · have hb : (okA ca N nc kd cd S) i = false := Bool.eq_false_iff.mpr (fun z => c_99 (hside.mpr z).2)
                refine e_iconst (v := 0) d_X1_fits_102 (by decide) ?_
                exact e_iret d_X1_fits_103 rfl (rfl) (⟨by rw [show fitB ca N nc kd cd many near S = false by simp only [fitB]; rw [allN_f c hb, Bool.and_false, Bool.and_false]]; rfl, rfl⟩)
      exact hA_46 0 (by omega) () _ (fun c hc => absurd hc (by omega)) (rfl)
    · refine e_iloadn d_X1_fits_29 rfl ?_
      refine e_aloadn d_X1_fits_30 rfl ?_
      refine e_callSI d_X1_fits_31 l_X1_fits_67 (s_X1_unlikeness hC hS) rfl rfl (Nat.le_of_ble_eq_true rfl) ?_
      refine e_aloadn d_X1_fits_34 rfl ?_
      refine e_get d_X1_fits_35 f_X1_64 H_tx rfl ?_
      refine e_icmp_le d_X1_fits_38 (fun c_38 => ?_) (fun c_38 => ?_)
      · have hn : near = -1 ∨ nI (uS ca S N).natAbs ≤ near := Or.inr c_38
        refine e_iconst (v := 0) d_X1_fits_43 (by decide) ?_
        refine e_istore d_X1_fits_44 (by decide) rfl ?_
        have hA_46 : ∀ i, i ≤ N → ∀ (u : Unit) (y : Int32), (∀ c, c < i → (okA ca N nc kd cd S) c = true) → (y = nI i) → E M_X1_fits (0, 0) (pI (bI (fitB ca N nc kd cd many near S = true)) h) 46 (h) [some (.ref 27), some (.int (nI S)), some (.ref (42 + 4 * tp)), some (.ref 1), some (.int y), none] [] := by
          refine loop_ind (n := N) ?_
          intro i hi_i ih_46 u y h_u h_y
          subst h_y
          refine e_iload d_X1_fits_46 rfl ?_
          refine e_aloadn d_X1_fits_48 rfl ?_
          refine e_get d_X1_fits_49 f_X1_33 H_ch rfl ?_
          refine e_icmp_ge d_X1_fits_52 (fun c => ?_) (fun c => ?_)
          · have c := i_le (by omega) (by omega) c
            obtain rfl : N = i := by omega
            refine e_iconst (v := 1) d_X1_fits_110 (by decide) ?_
            exact e_iret d_X1_fits_111 rfl (rfl) (⟨by rw [show fitB ca N nc kd cd many near S = true by simp only [fitB]; rw [allN_t h_u, decide_eq_true hm, decide_eq_true hn]; rfl]; rfl, rfl⟩)
          · have c := i_nle (by omega) (by omega) c
            refine e_iloadn d_X1_fits_55 rfl ?_
            refine e_iload d_X1_fits_56 rfl ?_
            refine e_ishr d_X1_fits_58 ?_
            refine e_iconst (v := 1) d_X1_fits_59 (by decide) ?_
            refine e_iand d_X1_fits_60 ?_
            refine e_iconst (v := 1) d_X1_fits_61 (by decide) ?_
            refine e_dia 72 (nI S ^^^ (-1)) (nI S) (fun kt kf => e_icmp_ne d_X1_fits_62 kt kf) (fun c_62 K_62 => ?_) (fun c_62 K_62 => ?_) (fun z_62 hz_62 => ?_)
            · refine e_iloadn d_X1_fits_69 rfl ?_
              refine e_iconst (v := -1) d_X1_fits_70 (by decide) ?_
              refine e_ixor d_X1_fits_71 ?_
              exact K_62
            · refine e_iloadn d_X1_fits_65 rfl ?_
              refine e_gt d_X1_fits_66 ?_
              exact K_62
            · have hw2 := bs_14 (wN ca nc kd cd 17 i) hN
              have ha2 := bs_14 (wN ca nc kd cd 18 i) hN
              have hside : (nI (bs (wN ca nc kd cd 17 i) N) &&& (z_62 ^^^ (-1)) = 0 ∧ nI (bs (wN ca nc kd cd 18 i) N) &&& z_62 = 0) ↔ (okA ca N nc kd cd S) i = true := by
                have g1 := sd_le (bs (wN ca nc kd cd 17 i) N) S
                have g2 := sd_le (bs (wN ca nc kd cd 18 i) N) S
                have g3 := and_l (bs (wN ca nc kd cd 17 i) N) S
                have g4 := and_l (bs (wN ca nc kd cd 18 i) N) S
                rcases hz_62 with ⟨q, rfl⟩ | ⟨q, rfl⟩
                · have hb := bit0 (by omega) (by omega) q
                  rw [nI_nn, nI_and, nI_sdx, show (0 : Int32) = nI 0 from rfl, nI_eq (by omega) (by decide), nI_eq (by omega) (by decide)]
                  simp [okA, okS, hb]
                · have hb := (bit1 (by omega) (by omega)).mp q
                  rw [nI_and, nI_sdx, show (0 : Int32) = nI 0 from rfl, nI_eq (by omega) (by decide), nI_eq (by omega) (by decide)]
                  simp [okA, okS, hb]
              refine e_istore d_X1_fits_72 (by decide) rfl ?_
              refine e_aloadn d_X1_fits_74 rfl ?_
              refine e_get d_X1_fits_75 f_X1_9 H_de rfl ?_
              refine e_iload d_X1_fits_78 rfl ?_
              refine e_ialdN (k := i) d_X1_fits_80 H_dw rfl (by omega) (by omega) ?_
              refine e_iload d_X1_fits_81 rfl ?_
              refine e_iconst (v := -1) d_X1_fits_83 (by decide) ?_
              refine e_ixor d_X1_fits_84 ?_
              refine e_iand d_X1_fits_85 ?_
              rw [(hwa i c).1]
              refine e_if_ne d_X1_fits_86 (fun c_86 => ?_) (fun c_86 => ?_)
              · have hb : (okA ca N nc kd cd S) i = false := Bool.eq_false_iff.mpr (fun z => c_86 (hside.mpr z).1)
                refine e_iconst (v := 0) d_X1_fits_102 (by decide) ?_
                exact e_iret d_X1_fits_103 rfl (rfl) (⟨by rw [show fitB ca N nc kd cd many near S = false by simp only [fitB]; rw [allN_f c hb, Bool.and_false, Bool.and_false]]; rfl, rfl⟩)
              · refine e_aloadn d_X1_fits_89 rfl ?_
                refine e_get d_X1_fits_90 f_X1_15 H_de rfl ?_
                refine e_iload d_X1_fits_93 rfl ?_
                refine e_ialdN (k := i) d_X1_fits_95 H_da rfl (by omega) (by omega) ?_
                refine e_iload d_X1_fits_96 rfl ?_
                refine e_iand d_X1_fits_98 ?_
                rw [(hwa i c).2]
                refine e_if_eq d_X1_fits_99 (fun c_99 => ?_) (fun c_99 => ?_)
                · have hb : (okA ca N nc kd cd S) i = true := hside.mp ⟨c_86, c_99⟩
                  refine e_iincw (w := 1) d_X1_fits_104 rfl (by decide) (by decide) rfl ?_
                  refine e_gt d_X1_fits_107 ?_
                  refine e_drop1 5 ?_
                  refine ih_46 (i + 1) (by omega) (by omega) () _ ?_ ?_
                  · intro c9 hc9
                    by_cases e9 : c9 = i
                    · subst e9; exact hb
                    · exact h_u c9 (by omega)
                  · exact nI_1 i
                · have hb : (okA ca N nc kd cd S) i = false := Bool.eq_false_iff.mpr (fun z => c_99 (hside.mpr z).2)
                  refine e_iconst (v := 0) d_X1_fits_102 (by decide) ?_
                  exact e_iret d_X1_fits_103 rfl (rfl) (⟨by rw [show fitB ca N nc kd cd many near S = false by simp only [fitB]; rw [allN_f c hb, Bool.and_false, Bool.and_false]]; rfl, rfl⟩)
        exact hA_46 0 (by omega) () _ (fun c hc => absurd hc (by omega)) (rfl)
      · have hf : fitB ca N nc kd cd many near S = false := by simp only [fitB]; rw [decide_eq_false (show ¬ (near = -1 ∨ nI (uS ca S N).natAbs ≤ near) by grind), Bool.false_and, Bool.and_false]
        refine e_iconst (v := 0) d_X1_fits_41 (by decide) ?_
        exact e_iret d_X1_fits_42 rfl (rfl) (⟨by rw [hf]; rfl, rfl⟩)
  · refine e_iloadn d_X1_fits_8 rfl ?_
    refine e_callSI d_X1_fits_9 l_X1_fits_58 (s_J6_bitCount_0f7a4) rfl rfl (Nat.le_of_ble_eq_true rfl) ?_
    rw [bitC_pc hS]
    refine e_aloadn d_X1_fits_12 rfl ?_
    refine e_get d_X1_fits_13 f_X1_53 H_tx rfl ?_
    refine e_icmp_eq d_X1_fits_16 (fun c_16 => ?_) (fun c_16 => ?_)
    · have hm : many = -1 ∨ nI (pc S 14) = many := Or.inr c_16
      refine e_aloadn d_X1_fits_21 rfl ?_
      refine e_get d_X1_fits_22 f_X1_64 H_tx rfl ?_
      refine e_iconst (v := -1) d_X1_fits_25 (by decide) ?_
      refine e_icmp_eq d_X1_fits_26 (fun c_26 => ?_) (fun c_26 => ?_)
      · have hn : near = -1 ∨ nI (uS ca S N).natAbs ≤ near := Or.inl c_26
        refine e_iconst (v := 0) d_X1_fits_43 (by decide) ?_
        refine e_istore d_X1_fits_44 (by decide) rfl ?_
        have hA_46 : ∀ i, i ≤ N → ∀ (u : Unit) (y : Int32), (∀ c, c < i → (okA ca N nc kd cd S) c = true) → (y = nI i) → E M_X1_fits (0, 0) (pI (bI (fitB ca N nc kd cd many near S = true)) h) 46 (h) [some (.ref 27), some (.int (nI S)), some (.ref (42 + 4 * tp)), some (.ref 1), some (.int y), none] [] := by
          refine loop_ind (n := N) ?_
          intro i hi_i ih_46 u y h_u h_y
          subst h_y
          refine e_iload d_X1_fits_46 rfl ?_
          refine e_aloadn d_X1_fits_48 rfl ?_
          refine e_get d_X1_fits_49 f_X1_33 H_ch rfl ?_
          refine e_icmp_ge d_X1_fits_52 (fun c => ?_) (fun c => ?_)
          · have c := i_le (by omega) (by omega) c
            obtain rfl : N = i := by omega
            refine e_iconst (v := 1) d_X1_fits_110 (by decide) ?_
            exact e_iret d_X1_fits_111 rfl (rfl) (⟨by rw [show fitB ca N nc kd cd many near S = true by simp only [fitB]; rw [allN_t h_u, decide_eq_true hm, decide_eq_true hn]; rfl]; rfl, rfl⟩)
          · have c := i_nle (by omega) (by omega) c
            refine e_iloadn d_X1_fits_55 rfl ?_
            refine e_iload d_X1_fits_56 rfl ?_
            refine e_ishr d_X1_fits_58 ?_
            refine e_iconst (v := 1) d_X1_fits_59 (by decide) ?_
            refine e_iand d_X1_fits_60 ?_
            refine e_iconst (v := 1) d_X1_fits_61 (by decide) ?_
            refine e_dia 72 (nI S ^^^ (-1)) (nI S) (fun kt kf => e_icmp_ne d_X1_fits_62 kt kf) (fun c_62 K_62 => ?_) (fun c_62 K_62 => ?_) (fun z_62 hz_62 => ?_)
            · refine e_iloadn d_X1_fits_69 rfl ?_
              refine e_iconst (v := -1) d_X1_fits_70 (by decide) ?_
              refine e_ixor d_X1_fits_71 ?_
              exact K_62
            · refine e_iloadn d_X1_fits_65 rfl ?_
              refine e_gt d_X1_fits_66 ?_
              exact K_62
            · have hw2 := bs_14 (wN ca nc kd cd 17 i) hN
              have ha2 := bs_14 (wN ca nc kd cd 18 i) hN
              have hside : (nI (bs (wN ca nc kd cd 17 i) N) &&& (z_62 ^^^ (-1)) = 0 ∧ nI (bs (wN ca nc kd cd 18 i) N) &&& z_62 = 0) ↔ (okA ca N nc kd cd S) i = true := by
                have g1 := sd_le (bs (wN ca nc kd cd 17 i) N) S
                have g2 := sd_le (bs (wN ca nc kd cd 18 i) N) S
                have g3 := and_l (bs (wN ca nc kd cd 17 i) N) S
                have g4 := and_l (bs (wN ca nc kd cd 18 i) N) S
                rcases hz_62 with ⟨q, rfl⟩ | ⟨q, rfl⟩
                · have hb := bit0 (by omega) (by omega) q
                  rw [nI_nn, nI_and, nI_sdx, show (0 : Int32) = nI 0 from rfl, nI_eq (by omega) (by decide), nI_eq (by omega) (by decide)]
                  simp [okA, okS, hb]
                · have hb := (bit1 (by omega) (by omega)).mp q
                  rw [nI_and, nI_sdx, show (0 : Int32) = nI 0 from rfl, nI_eq (by omega) (by decide), nI_eq (by omega) (by decide)]
                  simp [okA, okS, hb]
              refine e_istore d_X1_fits_72 (by decide) rfl ?_
              refine e_aloadn d_X1_fits_74 rfl ?_
              refine e_get d_X1_fits_75 f_X1_9 H_de rfl ?_
              refine e_iload d_X1_fits_78 rfl ?_
              refine e_ialdN (k := i) d_X1_fits_80 H_dw rfl (by omega) (by omega) ?_
              refine e_iload d_X1_fits_81 rfl ?_
              refine e_iconst (v := -1) d_X1_fits_83 (by decide) ?_
              refine e_ixor d_X1_fits_84 ?_
              refine e_iand d_X1_fits_85 ?_
              rw [(hwa i c).1]
              refine e_if_ne d_X1_fits_86 (fun c_86 => ?_) (fun c_86 => ?_)
              · have hb : (okA ca N nc kd cd S) i = false := Bool.eq_false_iff.mpr (fun z => c_86 (hside.mpr z).1)
                refine e_iconst (v := 0) d_X1_fits_102 (by decide) ?_
                exact e_iret d_X1_fits_103 rfl (rfl) (⟨by rw [show fitB ca N nc kd cd many near S = false by simp only [fitB]; rw [allN_f c hb, Bool.and_false, Bool.and_false]]; rfl, rfl⟩)
              · refine e_aloadn d_X1_fits_89 rfl ?_
                refine e_get d_X1_fits_90 f_X1_15 H_de rfl ?_
                refine e_iload d_X1_fits_93 rfl ?_
                refine e_ialdN (k := i) d_X1_fits_95 H_da rfl (by omega) (by omega) ?_
                refine e_iload d_X1_fits_96 rfl ?_
                refine e_iand d_X1_fits_98 ?_
                rw [(hwa i c).2]
                refine e_if_eq d_X1_fits_99 (fun c_99 => ?_) (fun c_99 => ?_)
                · have hb : (okA ca N nc kd cd S) i = true := hside.mp ⟨c_86, c_99⟩
                  refine e_iincw (w := 1) d_X1_fits_104 rfl (by decide) (by decide) rfl ?_
                  refine e_gt d_X1_fits_107 ?_
                  refine e_drop1 5 ?_
                  refine ih_46 (i + 1) (by omega) (by omega) () _ ?_ ?_
                  · intro c9 hc9
                    by_cases e9 : c9 = i
                    · subst e9; exact hb
                    · exact h_u c9 (by omega)
                  · exact nI_1 i
                · have hb : (okA ca N nc kd cd S) i = false := Bool.eq_false_iff.mpr (fun z => c_99 (hside.mpr z).2)
                  refine e_iconst (v := 0) d_X1_fits_102 (by decide) ?_
                  exact e_iret d_X1_fits_103 rfl (rfl) (⟨by rw [show fitB ca N nc kd cd many near S = false by simp only [fitB]; rw [allN_f c hb, Bool.and_false, Bool.and_false]]; rfl, rfl⟩)
        exact hA_46 0 (by omega) () _ (fun c hc => absurd hc (by omega)) (rfl)
      · refine e_iloadn d_X1_fits_29 rfl ?_
        refine e_aloadn d_X1_fits_30 rfl ?_
        refine e_callSI d_X1_fits_31 l_X1_fits_67 (s_X1_unlikeness hC hS) rfl rfl (Nat.le_of_ble_eq_true rfl) ?_
        refine e_aloadn d_X1_fits_34 rfl ?_
        refine e_get d_X1_fits_35 f_X1_64 H_tx rfl ?_
        refine e_icmp_le d_X1_fits_38 (fun c_38 => ?_) (fun c_38 => ?_)
        · have hn : near = -1 ∨ nI (uS ca S N).natAbs ≤ near := Or.inr c_38
          refine e_iconst (v := 0) d_X1_fits_43 (by decide) ?_
          refine e_istore d_X1_fits_44 (by decide) rfl ?_
          have hA_46 : ∀ i, i ≤ N → ∀ (u : Unit) (y : Int32), (∀ c, c < i → (okA ca N nc kd cd S) c = true) → (y = nI i) → E M_X1_fits (0, 0) (pI (bI (fitB ca N nc kd cd many near S = true)) h) 46 (h) [some (.ref 27), some (.int (nI S)), some (.ref (42 + 4 * tp)), some (.ref 1), some (.int y), none] [] := by
            refine loop_ind (n := N) ?_
            intro i hi_i ih_46 u y h_u h_y
            subst h_y
            refine e_iload d_X1_fits_46 rfl ?_
            refine e_aloadn d_X1_fits_48 rfl ?_
            refine e_get d_X1_fits_49 f_X1_33 H_ch rfl ?_
            refine e_icmp_ge d_X1_fits_52 (fun c => ?_) (fun c => ?_)
            · have c := i_le (by omega) (by omega) c
              obtain rfl : N = i := by omega
              refine e_iconst (v := 1) d_X1_fits_110 (by decide) ?_
              exact e_iret d_X1_fits_111 rfl (rfl) (⟨by rw [show fitB ca N nc kd cd many near S = true by simp only [fitB]; rw [allN_t h_u, decide_eq_true hm, decide_eq_true hn]; rfl]; rfl, rfl⟩)
            · have c := i_nle (by omega) (by omega) c
              refine e_iloadn d_X1_fits_55 rfl ?_
              refine e_iload d_X1_fits_56 rfl ?_
              refine e_ishr d_X1_fits_58 ?_
              refine e_iconst (v := 1) d_X1_fits_59 (by decide) ?_
              refine e_iand d_X1_fits_60 ?_
              refine e_iconst (v := 1) d_X1_fits_61 (by decide) ?_
              refine e_dia 72 (nI S ^^^ (-1)) (nI S) (fun kt kf => e_icmp_ne d_X1_fits_62 kt kf) (fun c_62 K_62 => ?_) (fun c_62 K_62 => ?_) (fun z_62 hz_62 => ?_)
              · refine e_iloadn d_X1_fits_69 rfl ?_
                refine e_iconst (v := -1) d_X1_fits_70 (by decide) ?_
                refine e_ixor d_X1_fits_71 ?_
                exact K_62
              · refine e_iloadn d_X1_fits_65 rfl ?_
                refine e_gt d_X1_fits_66 ?_
                exact K_62
              · have hw2 := bs_14 (wN ca nc kd cd 17 i) hN
                have ha2 := bs_14 (wN ca nc kd cd 18 i) hN
                have hside : (nI (bs (wN ca nc kd cd 17 i) N) &&& (z_62 ^^^ (-1)) = 0 ∧ nI (bs (wN ca nc kd cd 18 i) N) &&& z_62 = 0) ↔ (okA ca N nc kd cd S) i = true := by
                  have g1 := sd_le (bs (wN ca nc kd cd 17 i) N) S
                  have g2 := sd_le (bs (wN ca nc kd cd 18 i) N) S
                  have g3 := and_l (bs (wN ca nc kd cd 17 i) N) S
                  have g4 := and_l (bs (wN ca nc kd cd 18 i) N) S
                  rcases hz_62 with ⟨q, rfl⟩ | ⟨q, rfl⟩
                  · have hb := bit0 (by omega) (by omega) q
                    rw [nI_nn, nI_and, nI_sdx, show (0 : Int32) = nI 0 from rfl, nI_eq (by omega) (by decide), nI_eq (by omega) (by decide)]
                    simp [okA, okS, hb]
                  · have hb := (bit1 (by omega) (by omega)).mp q
                    rw [nI_and, nI_sdx, show (0 : Int32) = nI 0 from rfl, nI_eq (by omega) (by decide), nI_eq (by omega) (by decide)]
                    simp [okA, okS, hb]
                refine e_istore d_X1_fits_72 (by decide) rfl ?_
                refine e_aloadn d_X1_fits_74 rfl ?_
                refine e_get d_X1_fits_75 f_X1_9 H_de rfl ?_
                refine e_iload d_X1_fits_78 rfl ?_
                refine e_ialdN (k := i) d_X1_fits_80 H_dw rfl (by omega) (by omega) ?_
                refine e_iload d_X1_fits_81 rfl ?_
                refine e_iconst (v := -1) d_X1_fits_83 (by decide) ?_
                refine e_ixor d_X1_fits_84 ?_
                refine e_iand d_X1_fits_85 ?_
                rw [(hwa i c).1]
                refine e_if_ne d_X1_fits_86 (fun c_86 => ?_) (fun c_86 => ?_)
                · have hb : (okA ca N nc kd cd S) i = false := Bool.eq_false_iff.mpr (fun z => c_86 (hside.mpr z).1)
                  refine e_iconst (v := 0) d_X1_fits_102 (by decide) ?_
                  exact e_iret d_X1_fits_103 rfl (rfl) (⟨by rw [show fitB ca N nc kd cd many near S = false by simp only [fitB]; rw [allN_f c hb, Bool.and_false, Bool.and_false]]; rfl, rfl⟩)
                · refine e_aloadn d_X1_fits_89 rfl ?_
                  refine e_get d_X1_fits_90 f_X1_15 H_de rfl ?_
                  refine e_iload d_X1_fits_93 rfl ?_
                  refine e_ialdN (k := i) d_X1_fits_95 H_da rfl (by omega) (by omega) ?_
                  refine e_iload d_X1_fits_96 rfl ?_
                  refine e_iand d_X1_fits_98 ?_
                  rw [(hwa i c).2]
                  refine e_if_eq d_X1_fits_99 (fun c_99 => ?_) (fun c_99 => ?_)
                  · have hb : (okA ca N nc kd cd S) i = true := hside.mp ⟨c_86, c_99⟩
                    refine e_iincw (w := 1) d_X1_fits_104 rfl (by decide) (by decide) rfl ?_
                    refine e_gt d_X1_fits_107 ?_
                    refine e_drop1 5 ?_
                    refine ih_46 (i + 1) (by omega) (by omega) () _ ?_ ?_
                    · intro c9 hc9
                      by_cases e9 : c9 = i
                      · subst e9; exact hb
                      · exact h_u c9 (by omega)
                    · exact nI_1 i
                  · have hb : (okA ca N nc kd cd S) i = false := Bool.eq_false_iff.mpr (fun z => c_99 (hside.mpr z).2)
                    refine e_iconst (v := 0) d_X1_fits_102 (by decide) ?_
                    exact e_iret d_X1_fits_103 rfl (rfl) (⟨by rw [show fitB ca N nc kd cd many near S = false by simp only [fitB]; rw [allN_f c hb, Bool.and_false, Bool.and_false]]; rfl, rfl⟩)
          exact hA_46 0 (by omega) () _ (fun c hc => absurd hc (by omega)) (rfl)
        · have hf : fitB ca N nc kd cd many near S = false := by simp only [fitB]; rw [decide_eq_false (show ¬ (near = -1 ∨ nI (uS ca S N).natAbs ≤ near) by grind), Bool.false_and, Bool.and_false]
          refine e_iconst (v := 0) d_X1_fits_41 (by decide) ?_
          exact e_iret d_X1_fits_42 rfl (rfl) (⟨by rw [hf]; rfl, rfl⟩)
    · have hf : fitB ca N nc kd cd many near S = false := by simp only [fitB]; rw [decide_eq_false (by grind), Bool.false_and]
      refine e_iconst (v := 0) d_X1_fits_19 (by decide) ?_
      exact e_iret d_X1_fits_20 rfl (rfl) (⟨by rw [hf]; rfl, rfl⟩)
