/-! MORNINGCOIN'S methods that deal -/
def FSd : List Nat := [25, 26, 27, 28, 29, 30]
def FSl : List Nat := [25, 26, 27, 28, 29, 30, 31, 32, 33, 34]
def FSp : List Nat := [25, 26, 27, 28, 29, 30, 31, 32, 33, 34, 39]
def FSg : List Nat := [25, 26, 27, 28, 29, 30, 31, 32, 33, 34, 35, 36, 37, 38]
/-- what a method that deals leaves: the DEALS of TEXT tp -/
def Dd (Z : List Nat) (h h' : AH) (tp drn : Nat) (L : List Nat) : Prop := (∃ nms', JuC h' nms') ∧ DeX h' (nI tp) drn L ∧ Fz Z h h'
theorem Dd.fr {Z S : List Nat} {h h1 h2 : AH} {tp drn : Nat} {L : List Nat} (D : Dd Z h h1 tp drn L) (F : Fr S h1 h2) (hS : ∀ k, k ∈ S → 31 ≤ k ∧ k ≤ 39 ∧ k ∈ Z) : Dd Z h h2 tp drn L := by
  obtain ⟨⟨nms, hJ⟩, hD, hz⟩ := D
  exact ⟨⟨nms, hJ.fr F ⟨fun z => by have := hS _ z; omega, fun z => by have := hS _ z; omega, fun z => by have := hS _ z; omega⟩⟩, hD.fr F ⟨fun z => by have := hS _ z; omega, fun z => by have := hS _ z; omega, fun z => by have := hS _ z; omega, fun k hk => by have := hS k hk; omega⟩, hz.trans (F.z.mono (fun k hk => (hS k hk).2.2))⟩
theorem nI_neg1 {v : Nat} (h : v < 2147483648) : ¬ nI v = -1 := by
  intro z
  have h1 : (nI v).toInt = (v : Int) := i32_ofInt (z := (v : Int)) (by omega) (by omega)
  rw [z] at h1
  have : (-1 : Int32).toInt = -1 := by decide
  omega
def oddsA (f w : Int32) (D : Nat) : Int32 := if f = -1 then -1 else if 1 ≤ w - 1000 ∧ w - 1000 ≤ 1000 then bI (stC f (w - 1000) D = true) else if w = 0 then f else f * 1000 / nI D
def fewA (f : Int32) (o : Option Nat) (w : Int32) : Int32 := if f = -1 then -1 else match o with
  | none => -1
  | some s => if w = 0 then nI (pc s 14) else oI (lowO (if w = 1 then s else rl s))
theorem or_lt14 {a b : Nat} (ha : a < 14) (hb : b < 14) : 2 ^ a ||| 2 ^ b < 16384 := by
  have h1 : 2 ^ a < 2 ^ 14 := Nat.pow_lt_pow_right (by decide) ha
  have h2 : 2 ^ b < 2 ^ 14 := Nat.pow_lt_pow_right (by decide) hb
  exact Nat.or_lt_two_pow h1 h2
theorem fewS_lt {st : Nat → Bool} {N s : Nat} (hN : N ≤ 14) (h : fewS st N = some s) : s < 16384 := by
  unfold fewS at h
  split at h
  · cases h; decide
  · split at h
    · rename_i a ha
      cases h
      have := List.mem_of_find?_eq_some ha
      rw [List.mem_range] at this
      exact Nat.pow_lt_pow_right (by decide) (show a < 14 by omega)
    · split at h
      · cases h
      · rename_i a ha
        have h1 := List.mem_of_find?_eq_some ha
        rw [List.mem_range] at h1
        rw [Option.map_eq_some_iff] at h
        obtain ⟨b, hb, rfl⟩ := h
        have h2 := List.mem_of_find?_eq_some hb
        rw [List.mem_range] at h2
        exact or_lt14 (by omega) (by omega)
theorem rl_lt {s : Nat} (h : s < 16384) : rl s < 16384 := Nat.lt_of_le_of_lt Nat.and_le_left h
theorem farC_D {ans less : Nat → Int32} {A T S0 : Nat} {dl : Nat → Nat} : farC ans less A dl T S0 0 = -1 := by rw [farC, if_pos (Or.inr rfl)]
/-- who counts for a difference -/
def dfA (ca : Nat → Nat → Nat) (N : Nat) (s : Int32) : Nat := if s = 2 then 2 ^ N - 1 else bs (fun c => decide (nI (ca c 0) = s)) N
def dfX (U : Int) (L : Nat) (w : Int32) : Int32 := if L = 0 then -1000000 else if w = 2 then Int32.ofInt ((U * 1000).tdiv (L : Int)) else if w = 0 then Int32.ofInt U else nI L
/-- an ANSWER for the bounds -/
def lV (ans less : Nat → Int32) (T S0 : Nat) (mo : Bool) (c : Nat) : Nat := if ans (T * 14 + c) = -1 then (if bt S0 c = mo then 99 else 0) else cV ans less T c
def loS (ans less : Nat → Int32) (T S0 : Nat) (mo : Bool) (N : Nat) : Nat := sm (fun c => if bt S0 c = true then lV ans less T S0 mo c else 0) N
def loR (ans less : Nat → Int32) (T S0 : Nat) (mo : Bool) (N : Nat) : Nat := sm (fun c => if bt S0 c = true then 0 else lV ans less T S0 mo c) N
def loA (ans less : Nat → Int32) (T S0 : Nat) (mo : Bool) (N : Nat) : Int32 := if pc S0 14 = 0 ∨ N - pc S0 14 = 0 then -1000000 else Int32.ofInt ((((loS ans less T S0 mo N * (N - pc S0 14) : Nat) : Int) - ((loR ans less T S0 mo N * pc S0 14 : Nat) : Int)) * 1000 |>.tdiv ((pc S0 14 * (N - pc S0 14) : Nat) : Int))
theorem lV_99 {ans less : Nat → Int32} {T S0 : Nat} {mo : Bool} {c : Nat} (hV : ans (T * 14 + c) = -1 ∨ ∃ v, v ≤ 99 ∧ ans (T * 14 + c) = nI v) : lV ans less T S0 mo c ≤ 99 := by
  unfold lV
  split
  · split <;> omega
  · rename_i h
    rcases hV with e | ⟨v, hv, e⟩
    · exact absurd e h
    · simp only [cV, e, clamp99 hv]; split <;> omega
theorem pc_14N {S N : Nat} (hS : S < 2 ^ N) (hN : N ≤ 14) : pc S 14 ≤ N := by
  have h1 : ∀ k, N + k ≤ 14 → pc S (N + k) = pc S N := by
    intro k
    induction k with
    | zero => intro _; rfl
    | succ k ih =>
      intro hk
      rw [← Nat.add_assoc, pc, ih (by omega), bt_ge hS (by omega)]; simp
  have := h1 (14 - N) (by omega)
  rw [show N + (14 - N) = 14 by omega] at this
  rw [this]; exact pc_le S N
/-- through a land: the least and the greatest -/
def mnI (x y : Int) : Int := if y < x then y else x
def mxI (x y : Int) : Int := if x < y then y else x
def thr (lo hi : Nat → Int) (d : Int) : Nat → Int × Int
  | 0 => (d, d)
  | i + 1 => (mnI (mnI (((thr lo hi d i).1 * lo i).tdiv 100) (((thr lo hi d i).1 * hi i).tdiv 100)) (mnI (((thr lo hi d i).2 * lo i).tdiv 100) (((thr lo hi d i).2 * hi i).tdiv 100)),
      mxI (mxI (((thr lo hi d i).1 * lo i).tdiv 100) (((thr lo hi d i).1 * hi i).tdiv 100)) (mxI (((thr lo hi d i).2 * lo i).tdiv 100) (((thr lo hi d i).2 * hi i).tdiv 100)))
theorem td_in {x w b : Int} (hx : -b ≤ x ∧ x ≤ b) (hw : -200 ≤ w ∧ w ≤ 200) : -(2 * b) ≤ (x * w).tdiv 100 ∧ (x * w).tdiv 100 ≤ 2 * b := by
  have h1 : x.natAbs * w.natAbs ≤ b.natAbs * 200 := Nat.mul_le_mul (by omega) (by omega)
  rw [← Int.natAbs_mul] at h1
  have h2 : (x * w).natAbs / 100 ≤ 2 * b.natAbs := by omega
  have h3 : ((x * w).tdiv 100).natAbs = (x * w).natAbs / 100 := Int.natAbs_tdiv _ _
  omega
theorem mn_in {x y b : Int} (hx : -b ≤ x ∧ x ≤ b) (hy : -b ≤ y ∧ y ≤ b) : -b ≤ mnI x y ∧ mnI x y ≤ b := by unfold mnI; split <;> assumption
theorem mx_in {x y b : Int} (hx : -b ≤ x ∧ x ≤ b) (hy : -b ≤ y ∧ y ≤ b) : -b ≤ mxI x y ∧ mxI x y ≤ b := by unfold mxI; split <;> assumption
theorem thr_in {lo hi : Nat → Int} {d b : Int} (hd : -b ≤ d ∧ d ≤ b) : ∀ {i : Nat}, (∀ j, j < i → (-200 ≤ lo j ∧ lo j ≤ 200) ∧ -200 ≤ hi j ∧ hi j ≤ 200) → (-(2 ^ i * b) ≤ (thr lo hi d i).1 ∧ (thr lo hi d i).1 ≤ 2 ^ i * b) ∧ -(2 ^ i * b) ≤ (thr lo hi d i).2 ∧ (thr lo hi d i).2 ≤ 2 ^ i * b
  | 0, _ => by simp only [thr, Int.pow_zero, Int.one_mul]; exact ⟨hd, hd⟩
  | i + 1, h => by
    have ih := thr_in hd (fun j hj => h j (Nat.lt_succ_of_lt hj))
    obtain ⟨h1, h2⟩ := h i (Nat.lt_succ_self i)
    have e : (2 : Int) ^ (i + 1) * b = 2 * (2 ^ i * b) := by rw [Int.pow_succ, Int.mul_comm (2 ^ i) 2, Int.mul_assoc]
    rw [e]
    simp only [thr]
    exact ⟨mn_in (mn_in (td_in ih.1 h1) (td_in ih.1 h2)) (mn_in (td_in ih.2 h1) (td_in ih.2 h2)), mx_in (mx_in (td_in ih.1 h1) (td_in ih.1 h2)) (mx_in (td_in ih.2 h1) (td_in ih.2 h2))⟩
theorem thr_b {lo hi : Nat → Int} {d : Int} {n i : Nat} (hd : -4851000 ≤ d ∧ d ≤ 4851000) (hi9 : i ≤ n) (hn : n ≤ 8) (h : ∀ j, j < n → (-200 ≤ lo j ∧ lo j ≤ 200) ∧ -200 ≤ hi j ∧ hi j ≤ 200) : (-1241856000 ≤ (thr lo hi d i).1 ∧ (thr lo hi d i).1 ≤ 1241856000) ∧ -1241856000 ≤ (thr lo hi d i).2 ∧ (thr lo hi d i).2 ≤ 1241856000 := by
  have h1 := thr_in (lo := lo) (hi := hi) (b := 4851000) hd (fun j (hj : j < i) => h j (by omega))
  have h2 : (2 : Int) ^ i ≤ 256 := by
    have h3 : 2 ^ i ≤ 2 ^ 8 := Nat.pow_le_pow_right (by decide) (by omega)
    have : ((2 ^ i : Nat) : Int) ≤ ((2 ^ 8 : Nat) : Int) := by omega
    simpa using this
  omega
theorem td64 {x w : Int} {v : Int32} (hx : -1241856000 ≤ x ∧ x ≤ 1241856000) (hw : -200 ≤ w ∧ w ≤ 200) (hv : v = Int32.ofInt w) : Int64.ofInt x * v.toInt64 / 100 = Int64.ofInt ((x * w).tdiv 100) := by
  have h1 : x.natAbs * w.natAbs ≤ 1241856000 * 200 := Nat.mul_le_mul (by omega) (by omega)
  rw [← Int.natAbs_mul] at h1
  rw [hv, i64_of32 (by omega) (by omega), ← Int64.ofInt_mul, show (100 : Int64) = Int64.ofInt 100 from rfl, i64_div (by omega) (by omega)]
theorem mn64 {x y : Int} (hx : -1000000000000000 ≤ x ∧ x ≤ 1000000000000000) (hy : -1000000000000000 ≤ y ∧ y ≤ 1000000000000000) : (if Int64.ofInt y < Int64.ofInt x then Int64.ofInt y else Int64.ofInt x) = Int64.ofInt (mnI x y) := by
  unfold mnI
  by_cases h : y < x
  · rw [if_pos ((i64_lt hy hx).mpr h), if_pos h]
  · rw [if_neg (fun z => h ((i64_lt hy hx).mp z)), if_neg h]
theorem mx64 {x y : Int} (hx : -1000000000000000 ≤ x ∧ x ≤ 1000000000000000) (hy : -1000000000000000 ≤ y ∧ y ≤ 1000000000000000) : (if Int64.ofInt x < Int64.ofInt y then Int64.ofInt y else Int64.ofInt x) = Int64.ofInt (mxI x y) := by
  unfold mxI
  by_cases h : x < y
  · rw [if_pos ((i64_lt hx hy).mpr h), if_pos h]
  · rw [if_neg (fun z => h ((i64_lt hx hy).mp z)), if_neg h]
theorem thC_in {ans less : Nat → Int32} {A T S0 : Nat} (hV : ∀ c, c < 14 → ans (T * 14 + c) = -1 ∨ ∃ v, v ≤ 99 ∧ ans (T * 14 + c) = nI v) : -4851000 ≤ thC ans less A T S0 ∧ thC ans less A T S0 ≤ 4851000 := by
  have h := dU_bnd (F := cF ans T A) (V := cV ans less T) (S := S0) (k := 14) (by decide) (cV_99 hV)
  unfold thC
  split
  · omega
  · have := Int.natAbs_tdiv_le_natAbs (dU (cF ans T A) (cV ans less T) S0 14 * 1000) ((dN (cF ans T A) S0 14 * dM (cF ans T A) S0 14 : Nat) : Int)
    omega
theorem i32_eq {a b : Int} (ha : -2147483648 ≤ a ∧ a < 2147483648) (hb : -2147483648 ≤ b ∧ b < 2147483648) : Int32.ofInt a = Int32.ofInt b ↔ a = b := by
  rw [← Int32.toInt_inj, i32_ofInt ha.1 ha.2, i32_ofInt hb.1 hb.2]

theorem s_X10_difference {h : AH} {N : Nat} {ca : Nat → Nat → Nat} {co : Int32} {S0 T : Nat} {tc tl lf lp cost s w : Int32} {n : Nat} {less ans : Nat → Int32} (H_mc : Hs h 0 (oMC tc tl lf lp cost)) (hC : ChC h N ca co (nI S0)) (H_th : Hs h 6 (oTh (nI n))) (H_tl_ : Hs h 9 (aZ 12 less)) (H_an : Hs h 11 (aI 168 ans)) (hn : n ≤ 12) (hV : ∀ t, t < 12 → ∀ c, c < 14 → ans (t * 14 + c) = -1 ∨ ∃ v, v ≤ 99 ∧ ans (t * 14 + c) = nI v) (hTa : TaOK h) (hS0 : S0 < 2 ^ N) (hTn : T < n) (hs2 : 0 ≤ s ∧ s ≤ 2) (hw2 : 0 ≤ w ∧ w ≤ 2) : Sp M_X10_difference (0, 0) h [.ref 0, .int (nI T), .int s, .int w] (rI (fun x h' => x = dfX (dU (cF ans T (dfA ca N s)) (cV ans less T) S0 14) (dN (cF ans T (dfA ca N s)) S0 14 * dM (cF ans T (dfA ca N s)) S0 14) w ∧ TaOK h' ∧ Fr [31, 32, 33, 34] h h')) := by
  refine ⟨Nat.le_of_ble_eq_true rfl, ?_⟩
  show E _ _ _ 0 h [some (.ref 0), some (.int (nI T)), some (.int s), some (.int w), none, none] []
  have hC9 := hC
  obtain ⟨hN, hca, sexes, wits, homes, works, H_ch, H_sx, H_wt, H_hm, H_wk, hc4⟩ := hC9
  have hS1 : S0 < 16384 := Nat.lt_of_lt_of_le hS0 (pw_31 N hN)
  have hA2 : 2 ^ N - 1 < 2 ^ 31 := by have := Nat.pow_le_pow_right (n := 2) (by decide) hN; omega
  obtain ⟨wta, q1, q2, q3, H_ta, H_al, H_ah, H_am, h_l, h_h⟩ := hTa
  refine e_aloadn d_X10_difference_0 rfl ?_
  refine e_get d_X10_difference_1 f_X10_19 H_mc rfl ?_
  refine e_iloadn d_X10_difference_4 rfl ?_
  refine e_callVI d_X10_difference_5 l_X10_difference_124 H_th rfl rfl (s_X9_has H_th) rfl rfl (Nat.le_of_ble_eq_true rfl) ?_
  refine e_if_eq d_X10_difference_8 (fun z => by first | exact absurd (fun z => bI_0.mp z ⟨(nI_leI (a := 0) (by decide) (by omega)).mpr (by omega), (nI_ltI (by omega) (by omega)).mpr (by omega)⟩) z | exact absurd z (fun z => bI_0.mp z ⟨(nI_leI (a := 0) (by decide) (by omega)).mpr (by omega), (nI_ltI (by omega) (by omega)).mpr (by omega)⟩)) (fun _ => ?_)
  refine e_iloadn d_X10_difference_11 rfl ?_
  refine e_iconst (v := 2) d_X10_difference_12 (by decide) ?_
  refine e_callSI d_X10_difference_13 l_X10_difference_99 (s_X10_within) rfl rfl (Nat.le_of_ble_eq_true rfl) ?_
  refine e_if_eq d_X10_difference_16 (fun z => by first | exact absurd (fun z => bI_0.mp z hs2) z | exact absurd z (fun z => bI_0.mp z hs2)) (fun _ => ?_)
  refine e_iloadn d_X10_difference_19 rfl ?_
  refine e_iconst (v := 2) d_X10_difference_20 (by decide) ?_
  refine e_callSI d_X10_difference_21 l_X10_difference_99 (s_X10_within) rfl rfl (Nat.le_of_ble_eq_true rfl) ?_
  refine e_if_ne d_X10_difference_24 (fun _ => ?_) (fun z => by first | exact absurd (fun z => bI_0.mp z hw2) z | exact absurd z (fun z => bI_0.mp z hw2))
  refine e_aloadn d_X10_difference_30 rfl ?_
  refine e_get d_X10_difference_31 f_X10_81 H_mc rfl ?_
  refine e_aloadn d_X10_difference_34 rfl ?_
  refine e_get d_X10_difference_35 f_X10_19 H_mc rfl ?_
  refine e_iloadn d_X10_difference_38 rfl ?_
  refine e_iloadn d_X10_difference_39 rfl ?_
  refine e_iconst (v := 2) d_X10_difference_40 (by decide) ?_
  refine e_dia 62 (nI (bs (fun c => decide (sexes c = s)) N)) (nI (2 ^ N - 1)) (fun kt kf => e_icmp_ne d_X10_difference_41 kt kf) (fun c_41 K_41 => ?_) (fun c_41 K_41 => ?_) (fun z_41 hz_41 => ?_)
  · refine e_aloadn d_X10_difference_54 rfl ?_
    refine e_get d_X10_difference_55 f_X10_10 H_mc rfl ?_
    refine e_iloadn d_X10_difference_58 rfl ?_
    refine e_callVI d_X10_difference_59 l_X10_difference_138 H_ch rfl rfl (s_X0_ofSex H_ch H_sx hN) rfl rfl (Nat.le_of_ble_eq_true rfl) ?_
    exact K_41
  · refine e_aloadn d_X10_difference_44 rfl ?_
    refine e_get d_X10_difference_45 f_X10_10 H_mc rfl ?_
    refine e_callVI d_X10_difference_48 l_X10_difference_134 H_ch rfl rfl (s_X0_all2 H_ch ) rfl rfl (Nat.le_of_ble_eq_true rfl) ?_
    rw [al_14 N hN]
    refine e_gt d_X10_difference_51 ?_
    exact K_41
  · have hz : z_41 = nI (dfA ca N s) := by
      rcases hz_41 with ⟨q, rfl⟩ | ⟨q, rfl⟩
      · rw [dfA, if_neg q]
        congr 1
        exact bs_cong (fun c hc => by rw [(hc4 c hc).1])
      · rw [dfA, if_pos q]
    subst hz
    have hA3 : (dfA ca N s) < 2 ^ 31 := by
      rw [dfA]
      split
      · exact hA2
      · have := bs_14 (fun c => decide (nI (ca c 0) = s)) hN; omega
    refine e_callRVV d_X10_difference_62 l_X10_difference_142 H_ta rfl rfl (s_X7_load_a H_th H_tl_ H_an H_ta H_al H_ah h_l h_h hTn hn hA3 (hV _ (by omega))) rfl rfl (Nat.le_of_ble_eq_true rfl) (fun h1 q1 s1 => ?_)
    obtain ⟨g1, g2, rfl, hTB⟩ := q1
    refine e_aloadn d_X10_difference_65 rfl ?_
    refine e_get d_X10_difference_66 f_X10_81 (((H_mc.n (by decide)).n (by decide)).n (by decide)) rfl ?_
    refine e_aloadn d_X10_difference_69 rfl ?_
    refine e_get d_X10_difference_70 f_X10_10 (((H_mc.n (by decide)).n (by decide)).n (by decide)) rfl ?_
    refine e_get d_X10_difference_73 f_X10_117 (((H_ch.n (by decide)).n (by decide)).n (by decide)) rfl ?_
    refine e_callVI d_X10_difference_76 l_X10_difference_146 (((H_ta.n (by decide)).n (by decide)).s) rfl rfl (s_X7_lower_a (((H_ta.n (by decide)).n (by decide)).s) ((H_al.s.n (by decide)).n (by decide)) (((H_ah.n (by decide)).s).n (by decide)) hTB hS1 (hV _ (by omega))) rfl rfl (Nat.le_of_ble_eq_true rfl) ?_
    refine e_istore d_X10_difference_79 (by decide) rfl ?_
    refine e_iload d_X10_difference_81 rfl ?_
    have hbU := dU_bnd (F := (cF ans T (dfA ca N s))) (V := cV ans less T) (S := S0) (k := 14) (by decide) (cV_99 (hV _ (by omega)))
    have hbL := dNM_mul (F := (cF ans T (dfA ca N s))) (S := S0) (k := 14) (by decide)
    refine e_if_ne d_X10_difference_83 (fun c_83 => ?_) (fun c_83 => ?_)
    · have hz : ¬ (dN (cF ans T (dfA ca N s)) S0 14 * dM (cF ans T (dfA ca N s)) S0 14) = 0 := fun z => c_83 (by rw [z]; rfl)
      refine e_aloadn d_X10_difference_89 rfl ?_
      refine e_get d_X10_difference_90 f_X10_81 (((H_mc.n (by decide)).n (by decide)).n (by decide)) rfl ?_
      refine e_aloadn d_X10_difference_93 rfl ?_
      refine e_get d_X10_difference_94 f_X10_10 (((H_mc.n (by decide)).n (by decide)).n (by decide)) rfl ?_
      refine e_get d_X10_difference_97 f_X10_117 (((H_ch.n (by decide)).n (by decide)).n (by decide)) rfl ?_
      refine e_callVI d_X10_difference_100 l_X10_difference_149 (((H_ta.n (by decide)).n (by decide)).s) rfl rfl (s_X7_upper_a (((H_ta.n (by decide)).n (by decide)).s) ((H_al.s.n (by decide)).n (by decide)) (((H_ah.n (by decide)).s).n (by decide)) hTB hS1 (hV _ (by omega))) rfl rfl (Nat.le_of_ble_eq_true rfl) ?_
      refine e_istore d_X10_difference_103 (by decide) rfl ?_
      refine e_iloadn d_X10_difference_105 rfl ?_
      refine e_iconst (v := 2) d_X10_difference_106 (by decide) ?_
      refine e_icmp_ne d_X10_difference_107 (fun c_107 => ?_) (fun c_107 => ?_)
      · refine e_iloadn d_X10_difference_120 rfl ?_
        refine e_if_ne d_X10_difference_121 (fun c_121 => ?_) (fun c_121 => ?_)
        · refine e_iload d_X10_difference_129 rfl ?_
          exact e_iret d_X10_difference_131 rfl (rfl) (⟨_, rfl, by first | (rw [dfX, if_neg hz, if_neg c_107, if_pos c_121]; done) | (rw [dfX, if_neg hz, if_neg c_107, if_neg c_121]; done), ⟨_, g1, g2, q3, (((H_ta.n (by decide)).n (by decide)).s), ((H_al.s.n (by decide)).n (by decide)), (((H_ah.n (by decide)).s).n (by decide)), (((H_am.n (by decide)).n (by decide)).n (by decide)), (TB_0 hTB).1, (TB_0 hTB).2⟩, (((Fr.refl _ _).up (by decide)).up (by decide)).up (by decide)⟩)
        · refine e_iload d_X10_difference_124 rfl ?_
          refine e_gt d_X10_difference_126 ?_
          exact e_iret d_X10_difference_131 rfl (rfl) (⟨_, rfl, by first | (rw [dfX, if_neg hz, if_neg c_107, if_pos c_121]; done) | (rw [dfX, if_neg hz, if_neg c_107, if_neg c_121]; done), ⟨_, g1, g2, q3, (((H_ta.n (by decide)).n (by decide)).s), ((H_al.s.n (by decide)).n (by decide)), (((H_ah.n (by decide)).s).n (by decide)), (((H_am.n (by decide)).n (by decide)).n (by decide)), (TB_0 hTB).1, (TB_0 hTB).2⟩, (((Fr.refl _ _).up (by decide)).up (by decide)).up (by decide)⟩)
      · refine e_iload d_X10_difference_110 rfl ?_
        refine e_sipush (v := 1000) d_X10_difference_112 (by decide) ?_
        refine e_imul d_X10_difference_115 ?_
        refine e_iload d_X10_difference_116 rfl ?_
        refine e_idiv d_X10_difference_118 (fun z => hz ((nI_eq (b := 0) (by omega) (by decide)).mp z)) ?_
        exact e_iret d_X10_difference_119 rfl (rfl) (⟨_, rfl, by rw [dfX, if_neg hz, if_pos c_107, ← i32_div (by omega) (by omega), Int32.ofInt_mul]; rfl, ⟨_, g1, g2, q3, (((H_ta.n (by decide)).n (by decide)).s), ((H_al.s.n (by decide)).n (by decide)), (((H_ah.n (by decide)).s).n (by decide)), (((H_am.n (by decide)).n (by decide)).n (by decide)), (TB_0 hTB).1, (TB_0 hTB).2⟩, (((Fr.refl _ _).up (by decide)).up (by decide)).up (by decide)⟩)
    · have hz : (dN (cF ans T (dfA ca N s)) S0 14 * dM (cF ans T (dfA ca N s)) S0 14) = 0 := (nI_eq (b := 0) (by omega) (by decide)).mp c_83
      refine e_ldc d_X10_difference_86 v_X10_133 ?_
      exact e_iret d_X10_difference_88 rfl (rfl) (⟨_, rfl, by rw [dfX, if_pos hz], ⟨_, g1, g2, q3, (((H_ta.n (by decide)).n (by decide)).s), ((H_al.s.n (by decide)).n (by decide)), (((H_ah.n (by decide)).s).n (by decide)), (((H_am.n (by decide)).n (by decide)).n (by decide)), (TB_0 hTB).1, (TB_0 hTB).2⟩, (((Fr.refl _ _).up (by decide)).up (by decide)).up (by decide)⟩)

theorem s_X10_odds {h : AH} {κ : Nat × Nat} {tp nc : Nat} {kd : Nat → Nat} {cd : Nat → List Nat} {many near : Int32} {nms : Nat → Int32} {N : Nat} {ca : Nat → Nat → Nat} {co : Int32} {S0 tcn : Nat} {tl lf lp cost dtext : Int32} {texts : Nat → Option Nat} {drn : Nat} {L0 : List Nat} {T : Nat} {w : Int32} {n : Nat} {less ans : Nat → Int32} (H_mc : Hs h 0 (oMC (nI tcn) tl lf lp cost)) (H_txs : Hs h 20 (aT 6 texts)) (htx : ∀ t, t < 6 → texts t = some (42 + 4 * t)) (hC : ChC h N ca co (nI S0)) (hT : TxC h tp nc kd cd many near) (hJ : JuC h nms) (hok : okT nc kd cd) (hD : DeX h dtext drn L0) (hL0 : dtext = nI tp → L0 = (DLs ca N nc kd cd many near)) (htp : tp < tcn) (htc : tcn ≤ 6) (hsz : 92 < h.2.1) (hS0 : S0 < 2 ^ N) (hκ : ¬ dtext = nI tp → drn < 2 ^ N → 1 ≤ κ.1 ∧ 2 ^ N ≤ κ.2) (H_th : Hs h 6 (oTh (nI n))) (H_tl_ : Hs h 9 (aZ 12 less)) (H_an : Hs h 11 (aI 168 ans)) (hn : n ≤ 12) (hV : ∀ t, t < 12 → ∀ c, c < 14 → ans (t * 14 + c) = -1 ∨ ∃ v, v ≤ 99 ∧ ans (t * 14 + c) = nI v) (hTa : TaOK h) (hTn : T < n) (hw : (0 ≤ w ∧ w ≤ 1) ∨ (1 ≤ w - 1000 ∧ w - 1000 ≤ 1000)) : Sp M_X10_odds κ h [.ref 0, .int (nI tp), .int (nI T), .int w] (rI (fun x h' => x = oddsA (farC ans less (2 ^ N - 1) (dlF (DLs ca N nc kd cd many near)) T S0 (DLs ca N nc kd cd many near).length) w (DLs ca N nc kd cd many near).length ∧ TaOK h' ∧ Dd FSl h h' tp (if dtext = nI tp then drn else max drn (2 ^ N)) (DLs ca N nc kd cd many near))) := by
  refine ⟨Nat.le_of_ble_eq_true rfl, ?_⟩
  show E _ _ _ 0 h [some (.ref 0), some (.int (nI tp)), some (.int (nI T)), some (.int w), none, none] []
  have hC9 := hC
  obtain ⟨hN, hca, sexes, wits, homes, works, H_ch, H_sx, H_wt, H_hm, H_wk, hc4⟩ := hC9
  have hS1 : S0 < 16384 := Nat.lt_of_lt_of_le hS0 (pw_31 N hN)
  have hA2 : 2 ^ N - 1 < 2 ^ 31 := by have := Nat.pow_le_pow_right (n := 2) (by decide) hN; omega
  obtain ⟨drow, row0, w0, a0, H_de, -⟩ := id hD
  refine e_iloadn d_X10_odds_0 rfl ?_
  refine e_sipush (v := 1000) d_X10_odds_1 (by decide) ?_
  refine e_isub d_X10_odds_4 ?_
  refine e_callSI d_X10_odds_5 l_X10_odds_182 (s_X10_isT) rfl rfl (Nat.le_of_ble_eq_true rfl) ?_
  refine e_istore d_X10_odds_8 (by decide) rfl ?_
  refine e_aloadn d_X10_odds_10 rfl ?_
  refine e_iloadn d_X10_odds_11 rfl ?_
  refine e_callVI d_X10_odds_12 l_X10_odds_172 H_mc rfl rfl (s_X10_isText H_mc) rfl rfl (Nat.le_of_ble_eq_true rfl) ?_
  refine e_if_eq d_X10_odds_15 (fun z => by first | exact absurd (fun z => bI_0.mp z ⟨(nI_leI (a := 0) (by decide) (by omega)).mpr (by omega), (nI_ltI (by omega) (by omega)).mpr (by omega)⟩) z | exact absurd z (fun z => bI_0.mp z ⟨(nI_leI (a := 0) (by decide) (by omega)).mpr (by omega), (nI_ltI (by omega) (by omega)).mpr (by omega)⟩)) (fun _ => ?_)
  refine e_aloadn d_X10_odds_18 rfl ?_
  refine e_get d_X10_odds_19 f_X10_19 H_mc rfl ?_
  refine e_iloadn d_X10_odds_22 rfl ?_
  refine e_callVI d_X10_odds_23 l_X10_odds_124 H_th rfl rfl (s_X9_has H_th) rfl rfl (Nat.le_of_ble_eq_true rfl) ?_
  refine e_if_eq d_X10_odds_26 (fun z => by first | exact absurd (fun z => bI_0.mp z ⟨(nI_leI (a := 0) (by decide) (by omega)).mpr (by omega), (nI_ltI (by omega) (by omega)).mpr (by omega)⟩) z | exact absurd z (fun z => bI_0.mp z ⟨(nI_leI (a := 0) (by decide) (by omega)).mpr (by omega), (nI_ltI (by omega) (by omega)).mpr (by omega)⟩)) (fun _ => ?_)
  refine e_iloadn d_X10_odds_29 rfl ?_
  refine e_iconst (v := 1) d_X10_odds_30 (by decide) ?_
  refine e_callSI d_X10_odds_31 l_X10_odds_99 (s_X10_within) rfl rfl (Nat.le_of_ble_eq_true rfl) ?_
  refine e_if_ne d_X10_odds_34 (fun c_34 => ?_) (fun c_34 => ?_)
  · refine e_aloadn d_X10_odds_44 rfl ?_
    refine e_iloadn d_X10_odds_45 rfl ?_
    refine e_callKVV d_X10_odds_46 l_X10_odds_175 H_mc rfl rfl (s_X10_deal H_mc H_txs htx hC hT hJ hok hD hL0 (by omega) hsz hκ) rfl rfl (Nat.le_of_ble_eq_true rfl) (fun h_d q_d s_d => ?_)
    obtain ⟨hJd, hDd, fzd⟩ := q_d
    have hDD : Dd FSl h h_d tp _ _ := ⟨hJd, hDd, fzd.mono (by decide)⟩
    have hDk := hDd.ok
    have hC := ChC.fz hC fzd (by decide)
    have hTa := TaOK.fz hTa fzd (by decide)
    have H_mc := fzd.hs H_mc (by decide)
    have H_txs := fzd.hs H_txs (by decide)
    have H_ch := fzd.hs H_ch (by decide)
    have H_sx := fzd.hs H_sx (by decide)
    have H_th := fzd.hs H_th (by decide)
    have H_tl_ := fzd.hs H_tl_ (by decide)
    have H_an := fzd.hs H_an (by decide)
    obtain ⟨drowd, rowd, wd, ad, H_de, H_dw, H_da, H_dr, hdrowd, hLd1, hLd2, hdrnd, hRwd, hLd3⟩ := id hDd
    refine e_aloadn d_X10_odds_49 rfl ?_
    refine e_iloadn d_X10_odds_50 rfl ?_
    refine e_aloadn d_X10_odds_51 rfl ?_
    refine e_get d_X10_odds_52 f_X10_10 H_mc rfl ?_
    refine e_callVI d_X10_odds_55 l_X10_odds_134 H_ch rfl rfl (s_X0_all2 H_ch ) rfl rfl (Nat.le_of_ble_eq_true rfl) ?_
    rw [al_14 N hN]
    refine e_aloadn d_X10_odds_58 rfl ?_
    refine e_get d_X10_odds_59 f_X10_10 H_mc rfl ?_
    refine e_get d_X10_odds_62 f_X10_117 H_ch rfl ?_
    refine e_callRVI d_X10_odds_65 l_X10_odds_185 H_mc rfl rfl (s_X10_asFar (T := T) (A := 2 ^ N - 1) H_mc H_th H_tl_ H_an hTa hDk hTn hn hS1 (by omega) (hV _ (by omega))) rfl rfl (Nat.le_of_ble_eq_true rfl) (fun x_65 h_65 q_65 s_65 => ?_)
    obtain ⟨rfl, hTa_65, fr_65⟩ := q_65
    have H_mc := fr_65.hs H_mc (by first | decide | (simp; omega))
    have H_txs := fr_65.hs H_txs (by first | decide | (simp; omega))
    have H_de := fr_65.hs H_de (by first | decide | (simp; omega))
    have H_ch := fr_65.hs H_ch (by first | decide | (simp; omega))
    have H_sx := fr_65.hs H_sx (by first | decide | (simp; omega))
    have H_th := fr_65.hs H_th (by first | decide | (simp; omega))
    have H_tl_ := fr_65.hs H_tl_ (by first | decide | (simp; omega))
    have H_an := fr_65.hs H_an (by first | decide | (simp; omega))
    have H_DE := DeOK.fr hDk fr_65 (by decide)
    have hDD := hDD.fr fr_65 (by decide)
    refine e_istore d_X10_odds_68 (by decide) rfl ?_
    refine e_iload d_X10_odds_70 rfl ?_
    refine e_iconst (v := -1) d_X10_odds_72 (by decide) ?_
    refine e_icmp_eq d_X10_odds_73 (fun c_73 => ?_) (fun c_73 => ?_)
    · refine e_iconst (v := -1) d_X10_odds_86 (by decide) ?_
      exact e_iret d_X10_odds_87 rfl (rfl) (⟨_, rfl, by first | (rw [oddsA, if_pos c_73]; done) | (rw [show (DLs ca N nc kd cd many near).length = 0 from (nI_eq (b := 0) (by omega) (by decide)).mp (by first | exact c_83 | exact Decidable.of_not_not c_83), farC_D]; rfl), hTa_65, hDD⟩)
    · refine e_aloadn d_X10_odds_76 rfl ?_
      refine e_get d_X10_odds_77 f_X10_74 H_mc rfl ?_
      refine e_get d_X10_odds_80 f_X10_178 H_de rfl ?_
      refine e_if_ne d_X10_odds_83 (fun c_83 => ?_) (fun c_83 => ?_)
      · have hD0 : ¬ (DLs ca N nc kd cd many near).length = 0 := fun z => c_83 (by rw [z]; rfl)
        refine e_iload d_X10_odds_88 rfl ?_
        refine e_if_eq d_X10_odds_90 (fun c_90 => ?_) (fun c_90 => ?_)
        · have ht : ¬ (1 ≤ w - 1000 ∧ w - 1000 ≤ 1000) := bI_0.mp c_90
          refine e_iloadn d_X10_odds_113 rfl ?_
          refine e_if_ne d_X10_odds_114 (fun c_114 => ?_) (fun c_114 => ?_)
          · refine e_iload d_X10_odds_122 rfl ?_
            refine e_sipush (v := 1000) d_X10_odds_124 (by decide) ?_
            refine e_imul d_X10_odds_127 ?_
            refine e_aloadn d_X10_odds_128 rfl ?_
            refine e_get d_X10_odds_129 f_X10_74 H_mc rfl ?_
            refine e_get d_X10_odds_132 f_X10_178 H_de rfl ?_
            refine e_idiv d_X10_odds_135 (fun z => hD0 ((nI_eq (b := 0) (by omega) (by decide)).mp z)) ?_
            exact e_iret d_X10_odds_136 rfl (rfl) (⟨_, rfl, by first | (rw [oddsA, if_neg c_73, if_neg ht, if_pos c_114]; done) | (rw [oddsA, if_neg c_73, if_neg ht, if_neg c_114]; done), hTa_65, hDD⟩)
          · refine e_iload d_X10_odds_117 rfl ?_
            refine e_gt d_X10_odds_119 ?_
            exact e_iret d_X10_odds_136 rfl (rfl) (⟨_, rfl, by first | (rw [oddsA, if_neg c_73, if_neg ht, if_pos c_114]; done) | (rw [oddsA, if_neg c_73, if_neg ht, if_neg c_114]; done), hTa_65, hDD⟩)
        · have ht : 1 ≤ w - 1000 ∧ w - 1000 ≤ 1000 := bI_1.mp (bI_z.resolve_left c_90)
          refine e_aloadn d_X10_odds_93 rfl ?_
          refine e_iload d_X10_odds_94 rfl ?_
          refine e_iloadn d_X10_odds_96 rfl ?_
          refine e_sipush (v := 1000) d_X10_odds_97 (by decide) ?_
          refine e_isub d_X10_odds_100 ?_
          refine e_callVI d_X10_odds_101 l_X10_odds_189 H_mc rfl rfl (s_X10_stands H_mc H_DE) rfl rfl (Nat.le_of_ble_eq_true rfl) ?_
          refine e_if_eq d_X10_odds_104 (fun c_104 => ?_) (fun c_104 => ?_)
          · have hs9 := bI_0.mp c_104
            refine e_iconst (v := 0) d_X10_odds_111 (by decide) ?_
            exact e_iret d_X10_odds_112 rfl (rfl) (⟨_, rfl, by first | (rw [oddsA, if_neg c_73, if_pos ht, bI_t hs9]; done) | (rw [oddsA, if_neg c_73, if_pos ht, bI_f hs9]; done), hTa_65, hDD⟩)
          · have hs9 := bI_1.mp (bI_z.resolve_left c_104)
            refine e_iconst (v := 1) d_X10_odds_107 (by decide) ?_
            refine e_gt d_X10_odds_108 ?_
            exact e_iret d_X10_odds_112 rfl (rfl) (⟨_, rfl, by first | (rw [oddsA, if_neg c_73, if_pos ht, bI_t hs9]; done) | (rw [oddsA, if_neg c_73, if_pos ht, bI_f hs9]; done), hTa_65, hDD⟩)
      · refine e_iconst (v := -1) d_X10_odds_86 (by decide) ?_
        exact e_iret d_X10_odds_87 rfl (rfl) (⟨_, rfl, by first | (rw [oddsA, if_pos c_73]; done) | (rw [show (DLs ca N nc kd cd many near).length = 0 from (nI_eq (b := 0) (by omega) (by decide)).mp (by first | exact c_83 | exact Decidable.of_not_not c_83), farC_D]; rfl), hTa_65, hDD⟩)
  · have hw1 : ¬ (0 ≤ w ∧ w ≤ 1) := bI_0.mp (by first | exact c_34 | exact c_34)
    refine e_iload d_X10_odds_37 rfl ?_
    refine e_if_ne d_X10_odds_39 (fun _ => ?_) (fun z => by first | exact absurd (fun z => (hw.resolve_left hw1) |> bI_0.mp z) z | exact absurd z (fun z => (hw.resolve_left hw1) |> bI_0.mp z))
    refine e_aloadn d_X10_odds_44 rfl ?_
    refine e_iloadn d_X10_odds_45 rfl ?_
    refine e_callKVV d_X10_odds_46 l_X10_odds_175 H_mc rfl rfl (s_X10_deal H_mc H_txs htx hC hT hJ hok hD hL0 (by omega) hsz hκ) rfl rfl (Nat.le_of_ble_eq_true rfl) (fun h_d q_d s_d => ?_)
    obtain ⟨hJd, hDd, fzd⟩ := q_d
    have hDD : Dd FSl h h_d tp _ _ := ⟨hJd, hDd, fzd.mono (by decide)⟩
    have hDk := hDd.ok
    have hC := ChC.fz hC fzd (by decide)
    have hTa := TaOK.fz hTa fzd (by decide)
    have H_mc := fzd.hs H_mc (by decide)
    have H_txs := fzd.hs H_txs (by decide)
    have H_ch := fzd.hs H_ch (by decide)
    have H_sx := fzd.hs H_sx (by decide)
    have H_th := fzd.hs H_th (by decide)
    have H_tl_ := fzd.hs H_tl_ (by decide)
    have H_an := fzd.hs H_an (by decide)
    obtain ⟨drowd, rowd, wd, ad, H_de, H_dw, H_da, H_dr, hdrowd, hLd1, hLd2, hdrnd, hRwd, hLd3⟩ := id hDd
    refine e_aloadn d_X10_odds_49 rfl ?_
    refine e_iloadn d_X10_odds_50 rfl ?_
    refine e_aloadn d_X10_odds_51 rfl ?_
    refine e_get d_X10_odds_52 f_X10_10 H_mc rfl ?_
    refine e_callVI d_X10_odds_55 l_X10_odds_134 H_ch rfl rfl (s_X0_all2 H_ch ) rfl rfl (Nat.le_of_ble_eq_true rfl) ?_
    rw [al_14 N hN]
    refine e_aloadn d_X10_odds_58 rfl ?_
    refine e_get d_X10_odds_59 f_X10_10 H_mc rfl ?_
    refine e_get d_X10_odds_62 f_X10_117 H_ch rfl ?_
    refine e_callRVI d_X10_odds_65 l_X10_odds_185 H_mc rfl rfl (s_X10_asFar (T := T) (A := 2 ^ N - 1) H_mc H_th H_tl_ H_an hTa hDk hTn hn hS1 (by omega) (hV _ (by omega))) rfl rfl (Nat.le_of_ble_eq_true rfl) (fun x_65 h_65 q_65 s_65 => ?_)
    obtain ⟨rfl, hTa_65, fr_65⟩ := q_65
    have H_mc := fr_65.hs H_mc (by first | decide | (simp; omega))
    have H_txs := fr_65.hs H_txs (by first | decide | (simp; omega))
    have H_de := fr_65.hs H_de (by first | decide | (simp; omega))
    have H_ch := fr_65.hs H_ch (by first | decide | (simp; omega))
    have H_sx := fr_65.hs H_sx (by first | decide | (simp; omega))
    have H_th := fr_65.hs H_th (by first | decide | (simp; omega))
    have H_tl_ := fr_65.hs H_tl_ (by first | decide | (simp; omega))
    have H_an := fr_65.hs H_an (by first | decide | (simp; omega))
    have H_DE := DeOK.fr hDk fr_65 (by decide)
    have hDD := hDD.fr fr_65 (by decide)
    refine e_istore d_X10_odds_68 (by decide) rfl ?_
    refine e_iload d_X10_odds_70 rfl ?_
    refine e_iconst (v := -1) d_X10_odds_72 (by decide) ?_
    refine e_icmp_eq d_X10_odds_73 (fun c_73 => ?_) (fun c_73 => ?_)
    · refine e_iconst (v := -1) d_X10_odds_86 (by decide) ?_
      exact e_iret d_X10_odds_87 rfl (rfl) (⟨_, rfl, by first | (rw [oddsA, if_pos c_73]; done) | (rw [show (DLs ca N nc kd cd many near).length = 0 from (nI_eq (b := 0) (by omega) (by decide)).mp (by first | exact c_83 | exact Decidable.of_not_not c_83), farC_D]; rfl), hTa_65, hDD⟩)
    · refine e_aloadn d_X10_odds_76 rfl ?_
      refine e_get d_X10_odds_77 f_X10_74 H_mc rfl ?_
      refine e_get d_X10_odds_80 f_X10_178 H_de rfl ?_
      refine e_if_ne d_X10_odds_83 (fun c_83 => ?_) (fun c_83 => ?_)
      · have hD0 : ¬ (DLs ca N nc kd cd many near).length = 0 := fun z => c_83 (by rw [z]; rfl)
        refine e_iload d_X10_odds_88 rfl ?_
        refine e_if_eq d_X10_odds_90 (fun c_90 => ?_) (fun c_90 => ?_)
        · have ht : ¬ (1 ≤ w - 1000 ∧ w - 1000 ≤ 1000) := bI_0.mp c_90
          refine e_iloadn d_X10_odds_113 rfl ?_
          refine e_if_ne d_X10_odds_114 (fun c_114 => ?_) (fun c_114 => ?_)
          · refine e_iload d_X10_odds_122 rfl ?_
            refine e_sipush (v := 1000) d_X10_odds_124 (by decide) ?_
            refine e_imul d_X10_odds_127 ?_
            refine e_aloadn d_X10_odds_128 rfl ?_
            refine e_get d_X10_odds_129 f_X10_74 H_mc rfl ?_
            refine e_get d_X10_odds_132 f_X10_178 H_de rfl ?_
            refine e_idiv d_X10_odds_135 (fun z => hD0 ((nI_eq (b := 0) (by omega) (by decide)).mp z)) ?_
            exact e_iret d_X10_odds_136 rfl (rfl) (⟨_, rfl, by first | (rw [oddsA, if_neg c_73, if_neg ht, if_pos c_114]; done) | (rw [oddsA, if_neg c_73, if_neg ht, if_neg c_114]; done), hTa_65, hDD⟩)
          · refine e_iload d_X10_odds_117 rfl ?_
            refine e_gt d_X10_odds_119 ?_
            exact e_iret d_X10_odds_136 rfl (rfl) (⟨_, rfl, by first | (rw [oddsA, if_neg c_73, if_neg ht, if_pos c_114]; done) | (rw [oddsA, if_neg c_73, if_neg ht, if_neg c_114]; done), hTa_65, hDD⟩)
        · have ht : 1 ≤ w - 1000 ∧ w - 1000 ≤ 1000 := bI_1.mp (bI_z.resolve_left c_90)
          refine e_aloadn d_X10_odds_93 rfl ?_
          refine e_iload d_X10_odds_94 rfl ?_
          refine e_iloadn d_X10_odds_96 rfl ?_
          refine e_sipush (v := 1000) d_X10_odds_97 (by decide) ?_
          refine e_isub d_X10_odds_100 ?_
          refine e_callVI d_X10_odds_101 l_X10_odds_189 H_mc rfl rfl (s_X10_stands H_mc H_DE) rfl rfl (Nat.le_of_ble_eq_true rfl) ?_
          refine e_if_eq d_X10_odds_104 (fun c_104 => ?_) (fun c_104 => ?_)
          · have hs9 := bI_0.mp c_104
            refine e_iconst (v := 0) d_X10_odds_111 (by decide) ?_
            exact e_iret d_X10_odds_112 rfl (rfl) (⟨_, rfl, by first | (rw [oddsA, if_neg c_73, if_pos ht, bI_t hs9]; done) | (rw [oddsA, if_neg c_73, if_pos ht, bI_f hs9]; done), hTa_65, hDD⟩)
          · have hs9 := bI_1.mp (bI_z.resolve_left c_104)
            refine e_iconst (v := 1) d_X10_odds_107 (by decide) ?_
            refine e_gt d_X10_odds_108 ?_
            exact e_iret d_X10_odds_112 rfl (rfl) (⟨_, rfl, by first | (rw [oddsA, if_neg c_73, if_pos ht, bI_t hs9]; done) | (rw [oddsA, if_neg c_73, if_pos ht, bI_f hs9]; done), hTa_65, hDD⟩)
      · refine e_iconst (v := -1) d_X10_odds_86 (by decide) ?_
        exact e_iret d_X10_odds_87 rfl (rfl) (⟨_, rfl, by first | (rw [oddsA, if_pos c_73]; done) | (rw [show (DLs ca N nc kd cd many near).length = 0 from (nI_eq (b := 0) (by omega) (by decide)).mp (by first | exact c_83 | exact Decidable.of_not_not c_83), farC_D]; rfl), hTa_65, hDD⟩)

theorem s_X10_few {h : AH} {κ : Nat × Nat} {tp nc : Nat} {kd : Nat → Nat} {cd : Nat → List Nat} {many near : Int32} {nms : Nat → Int32} {N : Nat} {ca : Nat → Nat → Nat} {co : Int32} {S0 tcn : Nat} {tl lf lp cost dtext : Int32} {texts : Nat → Option Nat} {drn : Nat} {L0 : List Nat} {T : Nat} {t w : Int32} {n : Nat} {less ans : Nat → Int32} (H_mc : Hs h 0 (oMC (nI tcn) tl lf lp cost)) (H_txs : Hs h 20 (aT 6 texts)) (htx : ∀ t, t < 6 → texts t = some (42 + 4 * t)) (hC : ChC h N ca co (nI S0)) (hT : TxC h tp nc kd cd many near) (hJ : JuC h nms) (hok : okT nc kd cd) (hD : DeX h dtext drn L0) (hL0 : dtext = nI tp → L0 = (DLs ca N nc kd cd many near)) (htp : tp < tcn) (htc : tcn ≤ 6) (hsz : 92 < h.2.1) (hS0 : S0 < 2 ^ N) (hκ : ¬ dtext = nI tp → drn < 2 ^ N → 1 ≤ κ.1 ∧ 2 ^ N ≤ κ.2) (H_th : Hs h 6 (oTh (nI n))) (H_tl_ : Hs h 9 (aZ 12 less)) (H_an : Hs h 11 (aI 168 ans)) (hn : n ≤ 12) (hV : ∀ t, t < 12 → ∀ c, c < 14 → ans (t * 14 + c) = -1 ∨ ∃ v, v ≤ 99 ∧ ans (t * 14 + c) = nI v) (hTa : TaOK h) (hTn : T < n) (ht1 : 1 ≤ t ∧ t ≤ 1000) (hw2 : 0 ≤ w ∧ w ≤ 2) : Sp M_X10_few κ h [.ref 0, .int (nI tp), .int (nI T), .int t, .int w] (rI (fun x h' => x = fewA (farC ans less (2 ^ N - 1) (dlF (DLs ca N nc kd cd many near)) T S0 (DLs ca N nc kd cd many near).length) (fewS (fun A => stC (farC ans less A (dlF (DLs ca N nc kd cd many near)) T S0 (DLs ca N nc kd cd many near).length) t (DLs ca N nc kd cd many near).length) N) w ∧ TaOK h' ∧ Dd FSl h h' tp (if dtext = nI tp then drn else max drn (2 ^ N)) (DLs ca N nc kd cd many near))) := by
  refine ⟨Nat.le_of_ble_eq_true rfl, ?_⟩
  show E _ _ _ 0 h [some (.ref 0), some (.int (nI tp)), some (.int (nI T)), some (.int t), some (.int w), none] []
  have hC9 := hC
  obtain ⟨hN, hca, sexes, wits, homes, works, H_ch, H_sx, H_wt, H_hm, H_wk, hc4⟩ := hC9
  have hS1 : S0 < 16384 := Nat.lt_of_lt_of_le hS0 (pw_31 N hN)
  have hA2 : 2 ^ N - 1 < 2 ^ 31 := by have := Nat.pow_le_pow_right (n := 2) (by decide) hN; omega
  obtain ⟨drow, row0, w0, a0, H_de, -⟩ := id hD
  refine e_aloadn d_X10_few_0 rfl ?_
  refine e_iloadn d_X10_few_1 rfl ?_
  refine e_callVI d_X10_few_2 l_X10_few_172 H_mc rfl rfl (s_X10_isText H_mc) rfl rfl (Nat.le_of_ble_eq_true rfl) ?_
  refine e_if_eq d_X10_few_5 (fun z => by first | exact absurd (fun z => bI_0.mp z ⟨(nI_leI (a := 0) (by decide) (by omega)).mpr (by omega), (nI_ltI (by omega) (by omega)).mpr (by omega)⟩) z | exact absurd z (fun z => bI_0.mp z ⟨(nI_leI (a := 0) (by decide) (by omega)).mpr (by omega), (nI_ltI (by omega) (by omega)).mpr (by omega)⟩)) (fun _ => ?_)
  refine e_aloadn d_X10_few_8 rfl ?_
  refine e_get d_X10_few_9 f_X10_19 H_mc rfl ?_
  refine e_iloadn d_X10_few_12 rfl ?_
  refine e_callVI d_X10_few_13 l_X10_few_124 H_th rfl rfl (s_X9_has H_th) rfl rfl (Nat.le_of_ble_eq_true rfl) ?_
  refine e_if_eq d_X10_few_16 (fun z => by first | exact absurd (fun z => bI_0.mp z ⟨(nI_leI (a := 0) (by decide) (by omega)).mpr (by omega), (nI_ltI (by omega) (by omega)).mpr (by omega)⟩) z | exact absurd z (fun z => bI_0.mp z ⟨(nI_leI (a := 0) (by decide) (by omega)).mpr (by omega), (nI_ltI (by omega) (by omega)).mpr (by omega)⟩)) (fun _ => ?_)
  refine e_iloadn d_X10_few_19 rfl ?_
  refine e_callSI d_X10_few_20 l_X10_few_182 (s_X10_isT) rfl rfl (Nat.le_of_ble_eq_true rfl) ?_
  refine e_if_eq d_X10_few_23 (fun z => by first | exact absurd (fun z => bI_0.mp z ht1) z | exact absurd z (fun z => bI_0.mp z ht1)) (fun _ => ?_)
  refine e_iload d_X10_few_26 rfl ?_
  refine e_iconst (v := 2) d_X10_few_28 (by decide) ?_
  refine e_callSI d_X10_few_29 l_X10_few_99 (s_X10_within) rfl rfl (Nat.le_of_ble_eq_true rfl) ?_
  refine e_if_ne d_X10_few_32 (fun _ => ?_) (fun z => by first | exact absurd (fun z => bI_0.mp z hw2) z | exact absurd z (fun z => bI_0.mp z hw2))
  refine e_aloadn d_X10_few_37 rfl ?_
  refine e_iloadn d_X10_few_38 rfl ?_
  refine e_callKVV d_X10_few_39 l_X10_few_175 H_mc rfl rfl (s_X10_deal H_mc H_txs htx hC hT hJ hok hD hL0 (by omega) hsz hκ) rfl rfl (Nat.le_of_ble_eq_true rfl) (fun h_d q_d s_d => ?_)
  obtain ⟨hJd, hDd, fzd⟩ := q_d
  have hDD : Dd FSl h h_d tp _ _ := ⟨hJd, hDd, fzd.mono (by decide)⟩
  have hDk := hDd.ok
  have hC := ChC.fz hC fzd (by decide)
  have hTa := TaOK.fz hTa fzd (by decide)
  have H_mc := fzd.hs H_mc (by decide)
  have H_txs := fzd.hs H_txs (by decide)
  have H_ch := fzd.hs H_ch (by decide)
  have H_sx := fzd.hs H_sx (by decide)
  have H_th := fzd.hs H_th (by decide)
  have H_tl_ := fzd.hs H_tl_ (by decide)
  have H_an := fzd.hs H_an (by decide)
  obtain ⟨drowd, rowd, wd, ad, H_de, H_dw, H_da, H_dr, hdrowd, hLd1, hLd2, hdrnd, hRwd, hLd3⟩ := id hDd
  refine e_aloadn d_X10_few_42 rfl ?_
  refine e_iloadn d_X10_few_43 rfl ?_
  refine e_aloadn d_X10_few_44 rfl ?_
  refine e_get d_X10_few_45 f_X10_10 H_mc rfl ?_
  refine e_callVI d_X10_few_48 l_X10_few_134 H_ch rfl rfl (s_X0_all2 H_ch ) rfl rfl (Nat.le_of_ble_eq_true rfl) ?_
  rw [al_14 N hN]
  refine e_aloadn d_X10_few_51 rfl ?_
  refine e_get d_X10_few_52 f_X10_10 H_mc rfl ?_
  refine e_get d_X10_few_55 f_X10_117 H_ch rfl ?_
  refine e_callRVI d_X10_few_58 l_X10_few_185 H_mc rfl rfl (s_X10_asFar (T := T) (A := 2 ^ N - 1) H_mc H_th H_tl_ H_an hTa hDk hTn hn hS1 (by omega) (hV _ (by omega))) rfl rfl (Nat.le_of_ble_eq_true rfl) (fun x_58 h_58 q_58 s_58 => ?_)
  obtain ⟨rfl, hTa_58, fr_58⟩ := q_58
  have H_mc := fr_58.hs H_mc (by first | decide | (simp; omega))
  have H_txs := fr_58.hs H_txs (by first | decide | (simp; omega))
  have H_de := fr_58.hs H_de (by first | decide | (simp; omega))
  have H_ch := fr_58.hs H_ch (by first | decide | (simp; omega))
  have H_sx := fr_58.hs H_sx (by first | decide | (simp; omega))
  have H_th := fr_58.hs H_th (by first | decide | (simp; omega))
  have H_tl_ := fr_58.hs H_tl_ (by first | decide | (simp; omega))
  have H_an := fr_58.hs H_an (by first | decide | (simp; omega))
  have H_DE := DeOK.fr hDk fr_58 (by decide)
  have hDD := hDD.fr fr_58 (by decide)
  refine e_iconst (v := -1) d_X10_few_61 (by decide) ?_
  refine e_icmp_ne d_X10_few_62 (fun c_62 => ?_) (fun c_62 => ?_)
  · refine e_aloadn d_X10_few_67 rfl ?_
    refine e_iloadn d_X10_few_68 rfl ?_
    refine e_iloadn d_X10_few_69 rfl ?_
    refine e_callRVI d_X10_few_70 l_X10_few_207 H_mc rfl rfl (s_X10_fewest (T := T) (t := t) H_mc H_ch H_th H_tl_ H_an hTa_58 H_DE hTn hN hn hS1 hV) rfl rfl (Nat.le_of_ble_eq_true rfl) (fun x_70 h_70 q_70 s_70 => ?_)
    obtain ⟨rfl, hTa_70, fr_70⟩ := q_70
    have H_mc := fr_70.hs H_mc (by first | decide | (simp; omega))
    have H_txs := fr_70.hs H_txs (by first | decide | (simp; omega))
    have H_de := fr_70.hs H_de (by first | decide | (simp; omega))
    have H_ch := fr_70.hs H_ch (by first | decide | (simp; omega))
    have H_sx := fr_70.hs H_sx (by first | decide | (simp; omega))
    have H_th := fr_70.hs H_th (by first | decide | (simp; omega))
    have H_tl_ := fr_70.hs H_tl_ (by first | decide | (simp; omega))
    have H_an := fr_70.hs H_an (by first | decide | (simp; omega))
    have H_DE := DeOK.fr H_DE fr_70 (by decide)
    have hDD := hDD.fr fr_70 (by decide)
    refine e_istore d_X10_few_73 (by decide) rfl ?_
    refine e_iload d_X10_few_75 rfl ?_
    refine e_iconst (v := -1) d_X10_few_77 (by decide) ?_
    refine e_icmp_ne d_X10_few_78 (fun c_78 => ?_) (fun c_78 => ?_)
    · obtain ⟨s9, hs9⟩ : ∃ s, fewS (fun A => stC (farC ans less A (dlF (DLs ca N nc kd cd many near)) T S0 (DLs ca N nc kd cd many near).length) t (DLs ca N nc kd cd many near).length) N = some s := by
        cases e : fewS (fun A => stC (farC ans less A (dlF (DLs ca N nc kd cd many near)) T S0 (DLs ca N nc kd cd many near).length) t (DLs ca N nc kd cd many near).length) N with
        | none => exact absurd (by rw [e]; rfl) c_78
        | some s => exact ⟨s, rfl⟩
      have hs8 := fewS_lt hN hs9
      rw [hs9]
      refine e_iload d_X10_few_83 rfl ?_
      refine e_if_ne d_X10_few_85 (fun c_85 => ?_) (fun c_85 => ?_)
      · refine e_iload d_X10_few_94 rfl ?_
        refine e_iconst (v := 1) d_X10_few_96 (by decide) ?_
        by_cases h1 : w = 1
        · refine e_icmp_ne d_X10_few_97 (fun z => by first | exact absurd (fun z => z h1) z | exact absurd z (fun z => z h1)) (fun _ => ?_)
          refine e_iload d_X10_few_100 rfl ?_
          refine e_gt d_X10_few_102 ?_
          refine e_callSI d_X10_few_112 l_X10_few_210 (s_X10_lowest hs8) rfl rfl (Nat.le_of_ble_eq_true rfl) ?_
          exact e_iret d_X10_few_115 rfl (rfl) (⟨_, rfl, by rw [fewA, if_neg c_62]; rw [if_neg c_85, if_pos h1], hTa_70, hDD⟩)
        · refine e_icmp_ne d_X10_few_97 (fun _ => ?_) (fun z => by first | exact absurd (h1) z | exact absurd z (h1))
          refine e_iload d_X10_few_105 rfl ?_
          refine e_iload d_X10_few_107 rfl ?_
          refine e_iconst (v := 1) d_X10_few_109 (by decide) ?_
          refine e_isub d_X10_few_110 ?_
          refine e_iand d_X10_few_111 ?_
          rw [show oI (some s9) &&& (oI (some s9) - 1) = nI (rl s9) from nI_rl]
          refine e_callSI d_X10_few_112 l_X10_few_210 (s_X10_lowest (rl_lt hs8)) rfl rfl (Nat.le_of_ble_eq_true rfl) ?_
          exact e_iret d_X10_few_115 rfl (rfl) (⟨_, rfl, by rw [fewA, if_neg c_62]; rw [if_neg c_85, if_neg h1], hTa_70, hDD⟩)
      · refine e_iload d_X10_few_88 rfl ?_
        refine e_callSI d_X10_few_90 l_X10_few_198 (s_J6_bitCount_0f7a4 (x := nI s9)) rfl rfl (Nat.le_of_ble_eq_true rfl) ?_
        rw [bitC_pc hs8]
        exact e_iret d_X10_few_93 rfl (rfl) (⟨_, rfl, by rw [fewA, if_neg c_62]; rw [if_pos (by first | exact c_85 | exact Decidable.of_not_not c_85)], hTa_70, hDD⟩)
    · have hs9 : fewS (fun A => stC (farC ans less A (dlF (DLs ca N nc kd cd many near)) T S0 (DLs ca N nc kd cd many near).length) t (DLs ca N nc kd cd many near).length) N = none := by
        cases e : fewS (fun A => stC (farC ans less A (dlF (DLs ca N nc kd cd many near)) T S0 (DLs ca N nc kd cd many near).length) t (DLs ca N nc kd cd many near).length) N with
        | none => rfl
        | some s =>
          rw [e] at c_78
          exact absurd c_78 (nI_neg1 (by have := fewS_lt hN e; omega))
      refine e_iconst (v := -1) d_X10_few_81 (by decide) ?_
      exact e_iret d_X10_few_82 rfl (rfl) (⟨_, rfl, by simp only [fewA, hs9]; split <;> rfl, hTa_70, hDD⟩)
  · refine e_iconst (v := -1) d_X10_few_65 (by decide) ?_
    exact e_iret d_X10_few_66 rfl (rfl) (⟨_, rfl, by simp only [fewA]; rw [if_pos c_62], hTa_58, hDD⟩)

theorem nI_subN {a b : Nat} (h : b ≤ a) : nI a - nI b = nI (a - b) := by rw [nI_subI, nI_int]; congr 1; omega
theorem loA_32 {s r n m : Nat} (hs : s ≤ 1386) (hr : r ≤ 1386) (hn : n ≤ 14) (hm : m ≤ 14) (h0 : 0 < n) (h1 : 0 < m) : (nI s * nI m - nI r * nI n) * 1000 / (nI n * nI m) = Int32.ofInt (((((s * m : Nat) : Int) - ((r * n : Nat) : Int)) * 1000).tdiv ((n * m : Nat) : Int)) := by
  have b1 := Nat.mul_le_mul hs hm
  have b2 := Nat.mul_le_mul hr hn
  have b3 := Nat.mul_le_mul hn hm
  rw [pk_mul, pk_mul, pk_mul, nI_subI, show (1000 : Int32) = Int32.ofInt 1000 from rfl, ← Int32.ofInt_mul, nI_int (n * m), i32_div (by omega) (by omega)]
theorem s_X10_lost {h : AH} {N : Nat} {ca : Nat → Nat → Nat} {co : Int32} {S0 T : Nat} {mo : Bool} {tc tl lf lp cost : Int32} {n : Nat} {less ans : Nat → Int32} (H_mc : Hs h 0 (oMC tc tl lf lp cost)) (hC : ChC h N ca co (nI S0)) (H_th : Hs h 6 (oTh (nI n))) (H_tl_ : Hs h 9 (aZ 12 less)) (H_an : Hs h 11 (aI 168 ans)) (hn : n ≤ 12) (hV : ∀ t, t < 12 → ∀ c, c < 14 → ans (t * 14 + c) = -1 ∨ ∃ v, v ≤ 99 ∧ ans (t * 14 + c) = nI v) (hS0 : S0 < 2 ^ N) (hTn : T < n) : Sp M_X10_lost (0, 0) h [.ref 0, .int (nI T), .int (bI (mo = true))] (pI (loA ans less T S0 mo N) h) := by
  refine ⟨Nat.le_of_ble_eq_true rfl, ?_⟩
  show E _ _ _ 0 h [some (.ref 0), some (.int (nI T)), some (.int (bI (mo = true))), none, none, none, none, none, none, none] []
  have hC9 := hC
  obtain ⟨hN, hca, sexes, wits, homes, works, H_ch, H_sx, H_wt, H_hm, H_wk, hc4⟩ := hC9
  have hS1 : S0 < 16384 := Nat.lt_of_lt_of_le hS0 (pw_31 N hN)
  have hA2 : 2 ^ N - 1 < 2 ^ 31 := by have := Nat.pow_le_pow_right (n := 2) (by decide) hN; omega
  have hpc := pc_14N hS0 hN
  have hS9 : loS ans less T S0 mo N ≤ 1386 := by
    have := sm_le (f := fun c => if bt S0 c = true then lV ans less T S0 mo c else 0) (b := 99) (k := N) (fun c hc => by
      split
      · exact lV_99 (hV T (by omega) c (by omega))
      · omega)
    rw [loS]; omega
  have hR9 : loR ans less T S0 mo N ≤ 1386 := by
    have := sm_le (f := fun c => if bt S0 c = true then 0 else lV ans less T S0 mo c) (b := 99) (k := N) (fun c hc => by
      split
      · omega
      · exact lV_99 (hV T (by omega) c (by omega)))
    rw [loR]; omega
  refine e_aloadn d_X10_lost_0 rfl ?_
  refine e_get d_X10_lost_1 f_X10_19 H_mc rfl ?_
  refine e_iloadn d_X10_lost_4 rfl ?_
  refine e_callVI d_X10_lost_5 l_X10_lost_124 H_th rfl rfl (s_X9_has H_th) rfl rfl (Nat.le_of_ble_eq_true rfl) ?_
  refine e_if_ne d_X10_lost_8 (fun _ => ?_) (fun z => by first | exact absurd (fun z => bI_0.mp z ⟨(nI_leI (a := 0) (by decide) (by omega)).mpr (by omega), (nI_ltI (by omega) (by omega)).mpr (by omega)⟩) z | exact absurd z (fun z => bI_0.mp z ⟨(nI_leI (a := 0) (by decide) (by omega)).mpr (by omega), (nI_ltI (by omega) (by omega)).mpr (by omega)⟩))
  refine e_aloadn d_X10_lost_14 rfl ?_
  refine e_get d_X10_lost_15 f_X10_10 H_mc rfl ?_
  refine e_get d_X10_lost_18 f_X10_117 H_ch rfl ?_
  refine e_callSI d_X10_lost_21 l_X10_lost_198 (s_J6_bitCount_0f7a4) rfl rfl (Nat.le_of_ble_eq_true rfl) ?_
  rw [bitC_pc hS1]
  refine e_istoren d_X10_lost_24 (by decide) rfl ?_
  refine e_aloadn d_X10_lost_25 rfl ?_
  refine e_get d_X10_lost_26 f_X10_10 H_mc rfl ?_
  refine e_get d_X10_lost_29 f_X10_103 H_ch rfl ?_
  refine e_iloadn d_X10_lost_32 rfl ?_
  refine e_isub d_X10_lost_33 ?_
  rw [nI_subN hpc]
  refine e_istore d_X10_lost_34 (by decide) rfl ?_
  refine e_iloadn d_X10_lost_36 rfl ?_
  refine e_if_le d_X10_lost_37 (fun c_37 => ?_) (fun c_37 => ?_)
  · have h0 : (pc S0 14) = 0 := i_np (by omega) c_37
    refine e_ldc d_X10_lost_45 v_X10_133 ?_
    exact e_iret d_X10_lost_47 rfl (rfl) (⟨by first | rw [loA, if_pos (Or.inl h0)] | rw [loA, if_pos (Or.inr h1)], rfl⟩)
  · have h0 : 0 < (pc S0 14) := i_pos (by omega) c_37
    refine e_iload d_X10_lost_40 rfl ?_
    refine e_if_gt d_X10_lost_42 (fun c_42 => ?_) (fun c_42 => ?_)
    · have h1 : 0 < N - (pc S0 14) := i_lt (a := 0) (by decide) (by omega) c_42
      refine e_iconst (v := 0) d_X10_lost_48 (by decide) ?_
      refine e_istore d_X10_lost_49 (by decide) rfl ?_
      refine e_iconst (v := 0) d_X10_lost_51 (by decide) ?_
      refine e_istore d_X10_lost_52 (by decide) rfl ?_
      refine e_iconst (v := 0) d_X10_lost_54 (by decide) ?_
      refine e_istore d_X10_lost_55 (by decide) rfl ?_
      have hA_57 : ∀ i, i ≤ N → ∀ (s : Int32) (r : Int32) (y : Int32), (s = nI ((loS ans less T S0 mo i))) → (r = nI ((loR ans less T S0 mo i))) → (y = nI i) → E M_X10_lost (0, 0) (pI (loA ans less T S0 mo N) h) 57 (h) [some (.ref 0), some (.int (nI T)), some (.int (bI (mo = true))), some (.int (nI (pc S0 14))), some (.int (nI (N - (pc S0 14)))), some (.int s), some (.int r), some (.int y), none, none] [] := by
        refine loop_ind (n := N) ?_
        intro i hi_i ih_57 s r y h_s h_r h_y
        subst h_y
        refine e_iload d_X10_lost_57 rfl ?_
        refine e_aloadn d_X10_lost_59 rfl ?_
        refine e_get d_X10_lost_60 f_X10_10 H_mc rfl ?_
        refine e_get d_X10_lost_63 f_X10_103 H_ch rfl ?_
        refine e_icmp_ge d_X10_lost_66 (fun c => ?_) (fun c => ?_)
        · have c := i_le (by omega) (by omega) c
          obtain rfl : N = i := by omega
          refine e_iload d_X10_lost_162 rfl ?_
          refine e_iload d_X10_lost_164 rfl ?_
          refine e_imul d_X10_lost_166 ?_
          refine e_iload d_X10_lost_167 rfl ?_
          refine e_iloadn d_X10_lost_169 rfl ?_
          refine e_imul d_X10_lost_170 ?_
          refine e_isub d_X10_lost_171 ?_
          refine e_sipush (v := 1000) d_X10_lost_172 (by decide) ?_
          refine e_imul d_X10_lost_175 ?_
          refine e_iloadn d_X10_lost_176 rfl ?_
          refine e_iload d_X10_lost_177 rfl ?_
          refine e_imul d_X10_lost_179 ?_
          refine e_idiv d_X10_lost_180 (by rw [pk_mul]; exact nI_ne0 (Nat.mul_pos h0 h1) (by have := Nat.mul_le_mul (show (pc S0 14) ≤ 14 by omega) (show N - (pc S0 14) ≤ 14 by omega); omega)) ?_
          exact e_iret d_X10_lost_181 rfl (rfl) (⟨by rw [h_s, h_r, loA, if_neg (by omega), loA_32 hS9 hR9 (by omega) (by omega) h0 h1], rfl⟩)
        · have c := i_nle (by omega) (by omega) c
          refine e_aloadn d_X10_lost_69 rfl ?_
          refine e_get d_X10_lost_70 f_X10_10 H_mc rfl ?_
          refine e_get d_X10_lost_73 f_X10_117 H_ch rfl ?_
          refine e_iload d_X10_lost_76 rfl ?_
          refine e_ishr d_X10_lost_78 ?_
          refine e_iconst (v := 1) d_X10_lost_79 (by decide) ?_
          refine e_iand d_X10_lost_80 ?_
          refine e_iconst (v := 1) d_X10_lost_81 (by decide) ?_
          by_cases hb : bt S0 i = true
          · refine e_icmp_ne d_X10_lost_82 (fun z => by first | exact absurd (fun z => z ((bit1 (by omega) (by omega)).mpr hb)) z | exact absurd z (fun z => z ((bit1 (by omega) (by omega)).mpr hb))) (fun _ => ?_)
            refine e_iconst (v := 1) d_X10_lost_85 (by decide) ?_
            refine e_gt d_X10_lost_86 ?_
            refine e_istore d_X10_lost_90 (by decide) rfl ?_
            refine e_aloadn d_X10_lost_92 rfl ?_
            refine e_get d_X10_lost_93 f_X10_19 H_mc rfl ?_
            refine e_iloadn d_X10_lost_96 rfl ?_
            refine e_iload d_X10_lost_97 rfl ?_
            refine e_callVI d_X10_lost_99 l_X10_lost_219 H_th rfl rfl (s_X9_value H_th H_tl_ H_an rfl rfl hTn hn (by omega) (hV T (by omega) i (by omega))) rfl rfl (Nat.le_of_ble_eq_true rfl) ?_
            by_cases ha : ans (T * 14 + i) = -1
            · rw [if_pos ha]
              refine e_istore d_X10_lost_102 (by decide) rfl ?_
              refine e_iload d_X10_lost_104 rfl ?_
              refine e_iconst (v := -1) d_X10_lost_106 (by decide) ?_
              refine e_icmp_ne d_X10_lost_107 (fun z => by first | exact absurd (fun z => z rfl) z | exact absurd z (fun z => z rfl)) (fun _ => ?_)
              refine e_iload d_X10_lost_110 rfl ?_
              refine e_iloadn d_X10_lost_112 rfl ?_
              refine e_icmp_ne d_X10_lost_113 (fun c_113 => ?_) (fun c_113 => ?_)
              · have hv : (0 : Int32) = nI (lV ans less T S0 mo i) := by rw [lV, if_pos ha, if_neg (fun z => c_113 (bI_t (by rw [← z]; exact hb)).symm)]; rfl
                refine e_iconst (v := 0) d_X10_lost_121 (by decide) ?_
                refine e_istore d_X10_lost_122 (by decide) rfl ?_
                refine e_iload d_X10_lost_124 rfl ?_
                refine e_iload d_X10_lost_126 rfl ?_
                refine e_if_eq d_X10_lost_128 (fun z => by first | exact absurd ((by decide : ¬ (1 : Int32) = 0)) z | exact absurd z ((by decide : ¬ (1 : Int32) = 0))) (fun _ => ?_)
                refine e_iload d_X10_lost_131 rfl ?_
                refine e_gt d_X10_lost_133 ?_
                refine e_iadd d_X10_lost_137 ?_
                refine e_istore d_X10_lost_138 (by decide) rfl ?_
                refine e_iload d_X10_lost_140 rfl ?_
                refine e_iload d_X10_lost_142 rfl ?_
                refine e_if_eq d_X10_lost_144 (fun z => by first | exact absurd ((by decide : ¬ (1 : Int32) = 0)) z | exact absurd z ((by decide : ¬ (1 : Int32) = 0))) (fun _ => ?_)
                refine e_iconst (v := 0) d_X10_lost_147 (by decide) ?_
                refine e_gt d_X10_lost_148 ?_
                refine e_iadd d_X10_lost_153 ?_
                refine e_istore d_X10_lost_154 (by decide) rfl ?_
                refine e_iincw (w := 1) d_X10_lost_156 rfl (by decide) (by decide) rfl ?_
                refine e_gt d_X10_lost_159 ?_
                refine e_drop1 8 ?_
                refine e_drop1 9 ?_
                refine ih_57 (i + 1) (by omega) (by omega) _ _ _ ?_ ?_ ?_
                · first
                  | (rw [h_s, loS, loS, sm, if_pos hb, ← nI_add, ← hv])
                  | (rw [h_s, loS, loS, sm, if_neg hb]; exact nI_p0 _)
                · first
                  | (rw [h_r, loR, loR, sm, if_neg hb, ← nI_add, ← hv])
                  | (rw [h_r, loR, loR, sm, if_pos hb]; exact nI_p0 _)
                · exact nI_1 i
              · have hv : (99 : Int32) = nI (lV ans less T S0 mo i) := by rw [lV, if_pos ha, if_pos (by rw [hb, bI_1.mp c_113.symm])]; rfl
                refine e_bipush (v := 99) d_X10_lost_116 (by decide) ?_
                refine e_gt d_X10_lost_118 ?_
                refine e_istore d_X10_lost_122 (by decide) rfl ?_
                refine e_iload d_X10_lost_124 rfl ?_
                refine e_iload d_X10_lost_126 rfl ?_
                refine e_if_eq d_X10_lost_128 (fun z => by first | exact absurd ((by decide : ¬ (1 : Int32) = 0)) z | exact absurd z ((by decide : ¬ (1 : Int32) = 0))) (fun _ => ?_)
                refine e_iload d_X10_lost_131 rfl ?_
                refine e_gt d_X10_lost_133 ?_
                refine e_iadd d_X10_lost_137 ?_
                refine e_istore d_X10_lost_138 (by decide) rfl ?_
                refine e_iload d_X10_lost_140 rfl ?_
                refine e_iload d_X10_lost_142 rfl ?_
                refine e_if_eq d_X10_lost_144 (fun z => by first | exact absurd ((by decide : ¬ (1 : Int32) = 0)) z | exact absurd z ((by decide : ¬ (1 : Int32) = 0))) (fun _ => ?_)
                refine e_iconst (v := 0) d_X10_lost_147 (by decide) ?_
                refine e_gt d_X10_lost_148 ?_
                refine e_iadd d_X10_lost_153 ?_
                refine e_istore d_X10_lost_154 (by decide) rfl ?_
                refine e_iincw (w := 1) d_X10_lost_156 rfl (by decide) (by decide) rfl ?_
                refine e_gt d_X10_lost_159 ?_
                refine e_drop1 8 ?_
                refine e_drop1 9 ?_
                refine ih_57 (i + 1) (by omega) (by omega) _ _ _ ?_ ?_ ?_
                · first
                  | (rw [h_s, loS, loS, sm, if_pos hb, ← nI_add, ← hv])
                  | (rw [h_s, loS, loS, sm, if_neg hb]; exact nI_p0 _)
                · first
                  | (rw [h_r, loR, loR, sm, if_neg hb, ← nI_add, ← hv])
                  | (rw [h_r, loR, loR, sm, if_pos hb]; exact nI_p0 _)
                · exact nI_1 i
            · rw [if_neg ha]
              have hv : nI (cV ans less T i) = nI (lV ans less T S0 mo i) := by rw [lV, if_neg ha]
              have hc9 : cV ans less T i ≤ 99 := by have := lV_99 (less := less) (S0 := S0) (mo := mo) (hV T (by omega) i (by omega)); rwa [lV, if_neg ha] at this
              refine e_istore d_X10_lost_102 (by decide) rfl ?_
              refine e_iload d_X10_lost_104 rfl ?_
              refine e_iconst (v := -1) d_X10_lost_106 (by decide) ?_
              refine e_icmp_ne d_X10_lost_107 (fun _ => ?_) (fun z => by first | exact absurd (nI_m1 hc9) z | exact absurd z (nI_m1 hc9))
              refine e_iload d_X10_lost_124 rfl ?_
              refine e_iload d_X10_lost_126 rfl ?_
              refine e_if_eq d_X10_lost_128 (fun z => by first | exact absurd ((by decide : ¬ (1 : Int32) = 0)) z | exact absurd z ((by decide : ¬ (1 : Int32) = 0))) (fun _ => ?_)
              refine e_iload d_X10_lost_131 rfl ?_
              refine e_gt d_X10_lost_133 ?_
              refine e_iadd d_X10_lost_137 ?_
              refine e_istore d_X10_lost_138 (by decide) rfl ?_
              refine e_iload d_X10_lost_140 rfl ?_
              refine e_iload d_X10_lost_142 rfl ?_
              refine e_if_eq d_X10_lost_144 (fun z => by first | exact absurd ((by decide : ¬ (1 : Int32) = 0)) z | exact absurd z ((by decide : ¬ (1 : Int32) = 0))) (fun _ => ?_)
              refine e_iconst (v := 0) d_X10_lost_147 (by decide) ?_
              refine e_gt d_X10_lost_148 ?_
              refine e_iadd d_X10_lost_153 ?_
              refine e_istore d_X10_lost_154 (by decide) rfl ?_
              refine e_iincw (w := 1) d_X10_lost_156 rfl (by decide) (by decide) rfl ?_
              refine e_gt d_X10_lost_159 ?_
              refine e_drop1 8 ?_
              refine e_drop1 9 ?_
              refine ih_57 (i + 1) (by omega) (by omega) _ _ _ ?_ ?_ ?_
              · first
                | (rw [h_s, loS, loS, sm, if_pos hb, ← nI_add, ← hv])
                | (rw [h_s, loS, loS, sm, if_neg hb]; exact nI_p0 _)
              · first
                | (rw [h_r, loR, loR, sm, if_neg hb, ← nI_add, ← hv])
                | (rw [h_r, loR, loR, sm, if_pos hb]; exact nI_p0 _)
              · exact nI_1 i
          · refine e_icmp_ne d_X10_lost_82 (fun _ => ?_) (fun z => by first | exact absurd (fun z => hb ((bit1 (by omega) (by omega)).mp z)) z | exact absurd z (fun z => hb ((bit1 (by omega) (by omega)).mp z)))
            refine e_iconst (v := 0) d_X10_lost_89 (by decide) ?_
            refine e_istore d_X10_lost_90 (by decide) rfl ?_
            refine e_aloadn d_X10_lost_92 rfl ?_
            refine e_get d_X10_lost_93 f_X10_19 H_mc rfl ?_
            refine e_iloadn d_X10_lost_96 rfl ?_
            refine e_iload d_X10_lost_97 rfl ?_
            refine e_callVI d_X10_lost_99 l_X10_lost_219 H_th rfl rfl (s_X9_value H_th H_tl_ H_an rfl rfl hTn hn (by omega) (hV T (by omega) i (by omega))) rfl rfl (Nat.le_of_ble_eq_true rfl) ?_
            by_cases ha : ans (T * 14 + i) = -1
            · rw [if_pos ha]
              refine e_istore d_X10_lost_102 (by decide) rfl ?_
              refine e_iload d_X10_lost_104 rfl ?_
              refine e_iconst (v := -1) d_X10_lost_106 (by decide) ?_
              refine e_icmp_ne d_X10_lost_107 (fun z => by first | exact absurd (fun z => z rfl) z | exact absurd z (fun z => z rfl)) (fun _ => ?_)
              refine e_iload d_X10_lost_110 rfl ?_
              refine e_iloadn d_X10_lost_112 rfl ?_
              refine e_icmp_ne d_X10_lost_113 (fun c_113 => ?_) (fun c_113 => ?_)
              · have hv : (0 : Int32) = nI (lV ans less T S0 mo i) := by rw [lV, if_pos ha, if_neg (fun z => c_113 (bI_f (by rw [← z]; exact hb)).symm)]; rfl
                refine e_iconst (v := 0) d_X10_lost_121 (by decide) ?_
                refine e_istore d_X10_lost_122 (by decide) rfl ?_
                refine e_iload d_X10_lost_124 rfl ?_
                refine e_iload d_X10_lost_126 rfl ?_
                refine e_if_eq d_X10_lost_128 (fun _ => ?_) (fun z => by first | exact absurd ((rfl : (0 : Int32) = 0)) z | exact absurd z ((rfl : (0 : Int32) = 0)))
                refine e_iconst (v := 0) d_X10_lost_136 (by decide) ?_
                refine e_iadd d_X10_lost_137 ?_
                refine e_istore d_X10_lost_138 (by decide) rfl ?_
                refine e_iload d_X10_lost_140 rfl ?_
                refine e_iload d_X10_lost_142 rfl ?_
                refine e_if_eq d_X10_lost_144 (fun _ => ?_) (fun z => by first | exact absurd ((rfl : (0 : Int32) = 0)) z | exact absurd z ((rfl : (0 : Int32) = 0)))
                refine e_iload d_X10_lost_151 rfl ?_
                refine e_iadd d_X10_lost_153 ?_
                refine e_istore d_X10_lost_154 (by decide) rfl ?_
                refine e_iincw (w := 1) d_X10_lost_156 rfl (by decide) (by decide) rfl ?_
                refine e_gt d_X10_lost_159 ?_
                refine e_drop1 8 ?_
                refine e_drop1 9 ?_
                refine ih_57 (i + 1) (by omega) (by omega) _ _ _ ?_ ?_ ?_
                · first
                  | (rw [h_s, loS, loS, sm, if_pos hb, ← nI_add, ← hv])
                  | (rw [h_s, loS, loS, sm, if_neg hb]; exact nI_p0 _)
                · first
                  | (rw [h_r, loR, loR, sm, if_neg hb, ← nI_add, ← hv])
                  | (rw [h_r, loR, loR, sm, if_pos hb]; exact nI_p0 _)
                · exact nI_1 i
              · have hv : (99 : Int32) = nI (lV ans less T S0 mo i) := by rw [lV, if_pos ha, if_pos (by rw [Bool.eq_false_iff.mpr hb, Bool.eq_false_iff.mpr (bI_0.mp c_113.symm)])]; rfl
                refine e_bipush (v := 99) d_X10_lost_116 (by decide) ?_
                refine e_gt d_X10_lost_118 ?_
                refine e_istore d_X10_lost_122 (by decide) rfl ?_
                refine e_iload d_X10_lost_124 rfl ?_
                refine e_iload d_X10_lost_126 rfl ?_
                refine e_if_eq d_X10_lost_128 (fun _ => ?_) (fun z => by first | exact absurd ((rfl : (0 : Int32) = 0)) z | exact absurd z ((rfl : (0 : Int32) = 0)))
                refine e_iconst (v := 0) d_X10_lost_136 (by decide) ?_
                refine e_iadd d_X10_lost_137 ?_
                refine e_istore d_X10_lost_138 (by decide) rfl ?_
                refine e_iload d_X10_lost_140 rfl ?_
                refine e_iload d_X10_lost_142 rfl ?_
                refine e_if_eq d_X10_lost_144 (fun _ => ?_) (fun z => by first | exact absurd ((rfl : (0 : Int32) = 0)) z | exact absurd z ((rfl : (0 : Int32) = 0)))
                refine e_iload d_X10_lost_151 rfl ?_
                refine e_iadd d_X10_lost_153 ?_
                refine e_istore d_X10_lost_154 (by decide) rfl ?_
                refine e_iincw (w := 1) d_X10_lost_156 rfl (by decide) (by decide) rfl ?_
                refine e_gt d_X10_lost_159 ?_
                refine e_drop1 8 ?_
                refine e_drop1 9 ?_
                refine ih_57 (i + 1) (by omega) (by omega) _ _ _ ?_ ?_ ?_
                · first
                  | (rw [h_s, loS, loS, sm, if_pos hb, ← nI_add, ← hv])
                  | (rw [h_s, loS, loS, sm, if_neg hb]; exact nI_p0 _)
                · first
                  | (rw [h_r, loR, loR, sm, if_neg hb, ← nI_add, ← hv])
                  | (rw [h_r, loR, loR, sm, if_pos hb]; exact nI_p0 _)
                · exact nI_1 i
            · rw [if_neg ha]
              have hv : nI (cV ans less T i) = nI (lV ans less T S0 mo i) := by rw [lV, if_neg ha]
              have hc9 : cV ans less T i ≤ 99 := by have := lV_99 (less := less) (S0 := S0) (mo := mo) (hV T (by omega) i (by omega)); rwa [lV, if_neg ha] at this
              refine e_istore d_X10_lost_102 (by decide) rfl ?_
              refine e_iload d_X10_lost_104 rfl ?_
              refine e_iconst (v := -1) d_X10_lost_106 (by decide) ?_
              refine e_icmp_ne d_X10_lost_107 (fun _ => ?_) (fun z => by first | exact absurd (nI_m1 hc9) z | exact absurd z (nI_m1 hc9))
              refine e_iload d_X10_lost_124 rfl ?_
              refine e_iload d_X10_lost_126 rfl ?_
              refine e_if_eq d_X10_lost_128 (fun _ => ?_) (fun z => by first | exact absurd ((rfl : (0 : Int32) = 0)) z | exact absurd z ((rfl : (0 : Int32) = 0)))
              refine e_iconst (v := 0) d_X10_lost_136 (by decide) ?_
              refine e_iadd d_X10_lost_137 ?_
              refine e_istore d_X10_lost_138 (by decide) rfl ?_
              refine e_iload d_X10_lost_140 rfl ?_
              refine e_iload d_X10_lost_142 rfl ?_
              refine e_if_eq d_X10_lost_144 (fun _ => ?_) (fun z => by first | exact absurd ((rfl : (0 : Int32) = 0)) z | exact absurd z ((rfl : (0 : Int32) = 0)))
              refine e_iload d_X10_lost_151 rfl ?_
              refine e_iadd d_X10_lost_153 ?_
              refine e_istore d_X10_lost_154 (by decide) rfl ?_
              refine e_iincw (w := 1) d_X10_lost_156 rfl (by decide) (by decide) rfl ?_
              refine e_gt d_X10_lost_159 ?_
              refine e_drop1 8 ?_
              refine e_drop1 9 ?_
              refine ih_57 (i + 1) (by omega) (by omega) _ _ _ ?_ ?_ ?_
              · first
                | (rw [h_s, loS, loS, sm, if_pos hb, ← nI_add, ← hv])
                | (rw [h_s, loS, loS, sm, if_neg hb]; exact nI_p0 _)
              · first
                | (rw [h_r, loR, loR, sm, if_neg hb, ← nI_add, ← hv])
                | (rw [h_r, loR, loR, sm, if_pos hb]; exact nI_p0 _)
              · exact nI_1 i
      exact hA_57 0 (by omega) _ _ _ (rfl) (rfl) (rfl)
    · have h1 : N - (pc S0 14) = 0 := by
        have := i_nlt (a := 0) (by decide) (by omega) c_42
        omega
      refine e_ldc d_X10_lost_45 v_X10_133 ?_
      exact e_iret d_X10_lost_47 rfl (rfl) (⟨by first | rw [loA, if_pos (Or.inl h0)] | rw [loA, if_pos (Or.inr h1)], rfl⟩)

theorem s_X4_through {h : AH} {lows highs : Nat → Int32} {lo hi : Nat → Int} {n9 : Nat} {d : Int} {b : Int32} (H_ld : Hs h 17 (oLd (nI n9))) (H_lo : Hs h 18 (aI 8 lows)) (H_hi : Hs h 19 (aI 8 highs)) (hns : n9 ≤ 8) (hlo : ∀ j, j < n9 → lows j = Int32.ofInt (lo j) ∧ highs j = Int32.ofInt (hi j)) (hlh : ∀ j, j < n9 → (-200 ≤ lo j ∧ lo j ≤ 200) ∧ -200 ≤ hi j ∧ hi j ≤ 200) (hd : -4851000 ≤ d ∧ d ≤ 4851000) : Sp M_X4_through (0, 0) h [.ref 17, .int (Int32.ofInt d), .int b] (pI (Int32.ofInt (if b = 0 then (thr lo hi d n9).1 else (thr lo hi d n9).2)) h) := by
  refine ⟨Nat.le_of_ble_eq_true rfl, ?_⟩
  show E _ _ _ 0 h [some (.ref 17), some (.int (Int32.ofInt d)), some (.int b), none, none, none, none, none, none, none, none, none, none, none, none, none] []
  refine e_iloadn d_X4_through_0 rfl ?_
  refine e_i2l d_X4_through_1 ?_
  refine e_lstoren d_X4_through_2 (by decide) rfl ?_
  refine e_iloadn d_X4_through_3 rfl ?_
  refine e_i2l d_X4_through_4 ?_
  refine e_lstore d_X4_through_5 (by decide) rfl ?_
  refine e_iconst (v := 0) d_X4_through_7 (by decide) ?_
  refine e_istore d_X4_through_8 (by decide) rfl ?_
  have hA_10 : ∀ i, i ≤ n9 → ∀ (p : Int64) (q : Int64) (y : Int32), (p = Int64.ofInt (thr lo hi d i).1) → (q = Int64.ofInt (thr lo hi d i).2) → (y = nI i) → E M_X4_through (0, 0) (pI (Int32.ofInt (if b = 0 then (thr lo hi d n9).1 else (thr lo hi d n9).2)) h) 10 (h) [some (.ref 17), some (.int (Int32.ofInt d)), some (.int b), some (.long p), none, some (.long q), none, some (.int y), none, none, none, none, none, none, none, none] [] := by
    refine loop_ind (n := n9) ?_
    intro i hi_i ih_10 p q y h_p h_q h_y
    subst h_y
    subst h_p
    subst h_q
    refine e_iload d_X4_through_10 rfl ?_
    refine e_aloadn d_X4_through_12 rfl ?_
    refine e_get d_X4_through_13 f_X4_18 H_ld rfl ?_
    refine e_icmp_ge d_X4_through_16 (fun c => ?_) (fun c => ?_)
    · have c := i_le (by omega) (by omega) c
      obtain rfl : n9 = i := by omega
      refine e_iloadn d_X4_through_128 rfl ?_
      refine e_if_eq d_X4_through_129 (fun c_129 => ?_) (fun c_129 => ?_)
      · refine e_lloadn d_X4_through_137 rfl ?_
        refine e_l2i d_X4_through_138 ?_
        exact e_iret d_X4_through_139 rfl (rfl) (⟨by rw [Int64.toInt32_ofInt]; first | rw [if_neg c_129] | rw [if_pos c_129], rfl⟩)
      · refine e_lload d_X4_through_132 rfl ?_
        refine e_gt d_X4_through_134 ?_
        refine e_l2i d_X4_through_138 ?_
        exact e_iret d_X4_through_139 rfl (rfl) (⟨by rw [Int64.toInt32_ofInt]; first | rw [if_neg c_129] | rw [if_pos c_129], rfl⟩)
    · have c := i_nle (by omega) (by omega) c
      refine e_lloadn d_X4_through_19 rfl ?_
      have hb := thr_b hd hi_i hns hlh
      obtain ⟨hw1, hw2⟩ := hlh i c
      have t1 := td_in hb.1 hw1
      have t2 := td_in hb.1 hw2
      have t3 := td_in hb.2 hw1
      have t4 := td_in hb.2 hw2
      refine e_aloadn d_X4_through_20 rfl ?_
      refine e_get d_X4_through_21 f_X4_9 H_ld rfl ?_
      refine e_iload d_X4_through_24 rfl ?_
      refine e_ialdN (k := i) d_X4_through_26 H_lo rfl (by omega) (by omega) ?_
      refine e_i2l d_X4_through_27 ?_
      refine e_lmul d_X4_through_28 ?_
      refine e_ldc2 d_X4_through_29 v_X4_22 ?_
      refine e_ldiv d_X4_through_32 (by decide) ?_
      rw [td64 hb.1 hw1 (hlo i c).1]
      refine e_lstore d_X4_through_33 (by decide) rfl ?_
      refine e_lloadn d_X4_through_35 rfl ?_
      refine e_aloadn d_X4_through_36 rfl ?_
      refine e_get d_X4_through_37 f_X4_15 H_ld rfl ?_
      refine e_iload d_X4_through_40 rfl ?_
      refine e_ialdN (k := i) d_X4_through_42 H_hi rfl (by omega) (by omega) ?_
      refine e_i2l d_X4_through_43 ?_
      refine e_lmul d_X4_through_44 ?_
      refine e_ldc2 d_X4_through_45 v_X4_22 ?_
      refine e_ldiv d_X4_through_48 (by decide) ?_
      rw [td64 hb.1 hw2 (hlo i c).2]
      refine e_lstore d_X4_through_49 (by decide) rfl ?_
      refine e_lload d_X4_through_51 rfl ?_
      refine e_aloadn d_X4_through_53 rfl ?_
      refine e_get d_X4_through_54 f_X4_9 H_ld rfl ?_
      refine e_iload d_X4_through_57 rfl ?_
      refine e_ialdN (k := i) d_X4_through_59 H_lo rfl (by omega) (by omega) ?_
      refine e_i2l d_X4_through_60 ?_
      refine e_lmul d_X4_through_61 ?_
      refine e_ldc2 d_X4_through_62 v_X4_22 ?_
      refine e_ldiv d_X4_through_65 (by decide) ?_
      rw [td64 hb.2 hw1 (hlo i c).1]
      refine e_lstore d_X4_through_66 (by decide) rfl ?_
      refine e_lload d_X4_through_68 rfl ?_
      refine e_aloadn d_X4_through_70 rfl ?_
      refine e_get d_X4_through_71 f_X4_15 H_ld rfl ?_
      refine e_iload d_X4_through_74 rfl ?_
      refine e_ialdN (k := i) d_X4_through_76 H_hi rfl (by omega) (by omega) ?_
      refine e_i2l d_X4_through_77 ?_
      refine e_lmul d_X4_through_78 ?_
      refine e_ldc2 d_X4_through_79 v_X4_22 ?_
      refine e_ldiv d_X4_through_82 (by decide) ?_
      rw [td64 hb.2 hw2 (hlo i c).2]
      refine e_lstore d_X4_through_83 (by decide) rfl ?_
      refine e_lload d_X4_through_85 rfl ?_
      refine e_lload d_X4_through_87 rfl ?_
      refine e_callSJ d_X4_through_89 l_X4_through_24 (s_J9_min_f86c9) rfl rfl (Nat.le_of_ble_eq_true rfl) ?_
      rw [mn64 (by omega) (by omega)]
      refine e_lload d_X4_through_92 rfl ?_
      refine e_lload d_X4_through_94 rfl ?_
      refine e_callSJ d_X4_through_96 l_X4_through_24 (s_J9_min_f86c9) rfl rfl (Nat.le_of_ble_eq_true rfl) ?_
      rw [mn64 (by omega) (by omega)]
      have m1 := mn_in t1 t2
      have m2 := mn_in t3 t4
      refine e_callSJ d_X4_through_99 l_X4_through_24 (s_J9_min_f86c9) rfl rfl (Nat.le_of_ble_eq_true rfl) ?_
      rw [mn64 (by omega) (by omega)]
      refine e_lstoren d_X4_through_102 (by decide) rfl ?_
      refine e_lload d_X4_through_103 rfl ?_
      refine e_lload d_X4_through_105 rfl ?_
      refine e_callSJ d_X4_through_107 l_X4_through_30 (s_J9_max_f86c9) rfl rfl (Nat.le_of_ble_eq_true rfl) ?_
      rw [mx64 (by omega) (by omega)]
      refine e_lload d_X4_through_110 rfl ?_
      refine e_lload d_X4_through_112 rfl ?_
      refine e_callSJ d_X4_through_114 l_X4_through_30 (s_J9_max_f86c9) rfl rfl (Nat.le_of_ble_eq_true rfl) ?_
      rw [mx64 (by omega) (by omega)]
      have m3 := mx_in t1 t2
      have m4 := mx_in t3 t4
      refine e_callSJ d_X4_through_117 l_X4_through_30 (s_J9_max_f86c9) rfl rfl (Nat.le_of_ble_eq_true rfl) ?_
      rw [mx64 (by omega) (by omega)]
      refine e_lstore d_X4_through_120 (by decide) rfl ?_
      refine e_iincw (w := 1) d_X4_through_122 rfl (by decide) (by decide) rfl ?_
      refine e_gt d_X4_through_125 ?_
      refine e_drop1 8 ?_
      refine e_drop1 10 ?_
      refine e_drop1 12 ?_
      refine e_drop1 14 ?_
      refine ih_10 (i + 1) (by omega) (by omega) _ _ _ ?_ ?_ ?_
      · rfl
      · rfl
      · exact nI_1 i
  exact hA_10 0 (by omega) _ _ _ (i64_of32 (by omega) (by omega)) (i64_of32 (by omega) (by omega)) (rfl)

def landA (lo hi : Nat → Int) (n9 : Nat) (d : Int) (b : Int32) : Int32 := if d = -1000000 then -1000000 else Int32.ofInt (if b = 0 then (thr lo hi d n9).1 else (thr lo hi d n9).2)
theorem s_X10_land {h : AH} {N : Nat} {ca : Nat → Nat → Nat} {co : Int32} {S0 T : Nat} {tc tl lf lp cost b : Int32} {lows highs : Nat → Int32} {lo hi : Nat → Int} {n9 : Nat} {n : Nat} {less ans : Nat → Int32} (H_mc : Hs h 0 (oMC tc tl lf lp cost)) (hC : ChC h N ca co (nI S0)) (H_th : Hs h 6 (oTh (nI n))) (H_tl_ : Hs h 9 (aZ 12 less)) (H_an : Hs h 11 (aI 168 ans)) (hn : n ≤ 12) (hV : ∀ t, t < 12 → ∀ c, c < 14 → ans (t * 14 + c) = -1 ∨ ∃ v, v ≤ 99 ∧ ans (t * 14 + c) = nI v) (hTa : TaOK h) (H_ld : Hs h 17 (oLd (nI n9))) (H_lo : Hs h 18 (aI 8 lows)) (H_hi : Hs h 19 (aI 8 highs)) (hns : n9 ≤ 8) (hlo : ∀ j, j < n9 → lows j = Int32.ofInt (lo j) ∧ highs j = Int32.ofInt (hi j)) (hlh : ∀ j, j < n9 → (-200 ≤ lo j ∧ lo j ≤ 200) ∧ -200 ≤ hi j ∧ hi j ≤ 200) (hS0 : S0 < 2 ^ N) (hTn : T < n) : Sp M_X10_land (0, 0) h [.ref 0, .int (nI T), .int b] (rI (fun x h' => x = landA lo hi n9 (thC ans less (2 ^ N - 1) T S0) b ∧ TaOK h' ∧ Fr [31, 32, 33, 34] h h')) := by
  refine ⟨Nat.le_of_ble_eq_true rfl, ?_⟩
  show E _ _ _ 0 h [some (.ref 0), some (.int (nI T)), some (.int b), none] []
  have hC9 := hC
  obtain ⟨hN, hca, sexes, wits, homes, works, H_ch, H_sx, H_wt, H_hm, H_wk, hc4⟩ := hC9
  have hS1 : S0 < 16384 := Nat.lt_of_lt_of_le hS0 (pw_31 N hN)
  have hA2 : 2 ^ N - 1 < 2 ^ 31 := by have := Nat.pow_le_pow_right (n := 2) (by decide) hN; omega
  refine e_aloadn d_X10_land_0 rfl ?_
  refine e_get d_X10_land_1 f_X10_19 H_mc rfl ?_
  refine e_iloadn d_X10_land_4 rfl ?_
  refine e_callVI d_X10_land_5 l_X10_land_124 H_th rfl rfl (s_X9_has H_th) rfl rfl (Nat.le_of_ble_eq_true rfl) ?_
  refine e_if_eq d_X10_land_8 (fun z => by first | exact absurd (fun z => bI_0.mp z ⟨(nI_leI (a := 0) (by decide) (by omega)).mpr (by omega), (nI_ltI (by omega) (by omega)).mpr (by omega)⟩) z | exact absurd z (fun z => bI_0.mp z ⟨(nI_leI (a := 0) (by decide) (by omega)).mpr (by omega), (nI_ltI (by omega) (by omega)).mpr (by omega)⟩)) (fun _ => ?_)
  refine e_aloadn d_X10_land_11 rfl ?_
  refine e_iloadn d_X10_land_12 rfl ?_
  refine e_callRVI d_X10_land_13 l_X10_land_222 H_mc rfl rfl (s_X10_thousandths (T := T) H_mc H_ch H_th H_tl_ H_an hTa hTn hN hn hS1 (hV _ (by omega))) rfl rfl (Nat.le_of_ble_eq_true rfl) (fun x_13 h_13 q_13 s_13 => ?_)
  obtain ⟨rfl, hTa_13, fr_13⟩ := q_13
  have H_mc := fr_13.hs H_mc (by first | decide | (simp; omega))
  have H_ch := fr_13.hs H_ch (by first | decide | (simp; omega))
  have H_ld := fr_13.hs H_ld (by first | decide | (simp; omega))
  have H_lo := fr_13.hs H_lo (by first | decide | (simp; omega))
  have H_hi := fr_13.hs H_hi (by first | decide | (simp; omega))
  have H_th := fr_13.hs H_th (by first | decide | (simp; omega))
  have H_tl_ := fr_13.hs H_tl_ (by first | decide | (simp; omega))
  have H_an := fr_13.hs H_an (by first | decide | (simp; omega))
  have hti := thC_in (less := less) (A := 2 ^ N - 1) (T := T) (S0 := S0) (hV _ (by omega))
  refine e_gt d_X10_land_16 ?_
  refine e_istoren d_X10_land_21 (by decide) rfl ?_
  refine e_iloadn d_X10_land_22 rfl ?_
  refine e_ldc d_X10_land_23 v_X10_133 ?_
  refine e_icmp_ne d_X10_land_25 (fun c_25 => ?_) (fun c_25 => ?_)
  · have hne : ¬ (thC ans less (2 ^ N - 1) T S0) = -1000000 := fun z => c_25 (by rw [z]; rfl)
    refine e_aloadn d_X10_land_33 rfl ?_
    refine e_get d_X10_land_34 f_X10_33 H_mc rfl ?_
    refine e_iloadn d_X10_land_37 rfl ?_
    refine e_iloadn d_X10_land_38 rfl ?_
    refine e_callVI d_X10_land_39 l_X10_land_262 H_ld rfl rfl (s_X4_through (d := (thC ans less (2 ^ N - 1) T S0)) H_ld H_lo H_hi hns hlo hlh hti) rfl rfl (Nat.le_of_ble_eq_true rfl) ?_
    exact e_iret d_X10_land_42 rfl (rfl) (⟨_, rfl, by first | (rw [landA, if_pos hne]; done) | (rw [landA, if_neg hne]; done), hTa_13, fr_13⟩)
  · have hne : (thC ans less (2 ^ N - 1) T S0) = -1000000 := (i32_eq (b := -1000000) (by omega) (by omega)).mp c_25
    refine e_ldc d_X10_land_28 v_X10_133 ?_
    refine e_gt d_X10_land_30 ?_
    exact e_iret d_X10_land_42 rfl (rfl) (⟨_, rfl, by first | (rw [landA, if_pos hne]; done) | (rw [landA, if_neg hne]; done), hTa_13, fr_13⟩)
