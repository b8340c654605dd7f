/-! THE SMALL METHODS of both sides -/
abbrev oMd (mtp mfl mfa : Int32) (mup mlo : Int64) (mln mat mtk mso mto mwr mwp mop mfs mws mst mnc mnk mnr mdn : Int32) (mgu mgl : Int64) : AC := .inr (11, [.ref 67, .ref 68, .ref 69, .int mtp, .int mfl, .int mfa, .ref 70, .ref 71, .ref 72, .ref 73, .ref 74, .ref 75, .long mup, .long mlo, .int mln, .int mat, .int mtk, .int mso, .int mto, .int mwr, .int mwp, .int mop, .int mfs, .ref 76, .ref 77, .int mws, .ref 78, .ref 79, .int mst, .int mnc, .int mnk, .ref 80, .ref 81, .ref 82, .int mnr, .ref 83, .ref 84, .ref 85, .ref 86, .int mdn, .ref 87, .ref 88, .ref 89, .ref 90, .ref 91, .ref 92, .long mgu, .long mgl])
def bI (P : Prop) [Decidable P] : Int32 := if P then 1 else 0
theorem nar_bI {P : Prop} [Decidable P] : narrow .boolean (.int (bI P)) = .int (bI P) := by by_cases h : P <;> simp [bI, h] <;> rfl
theorem bI_0 {P : Prop} [Decidable P] : bI P = 0 ↔ ¬ P := by by_cases h : P <;> simp [bI, h]
theorem bI_1 {P : Prop} [Decidable P] : bI P = 1 ↔ P := by by_cases h : P <;> simp [bI, h]
theorem bI_z {P : Prop} [Decidable P] : bI P = 0 ∨ bI P = 1 := by by_cases h : P <;> simp [bI, h]
theorem bI_t {P : Prop} [Decidable P] (h : P) : bI P = 1 := by simp [bI, h]
theorem vp_of {x v : Int32} {n : Nat} (h0 : 0 ≤ x) (h1 : x < v) (hv : v.toInt = n) : vp_in x n := vp_in_iff.mpr ⟨by simpa using Int32.le_iff_toInt_le.mp h0, by rw [← hv]; exact Int32.lt_iff_toInt_lt.mp h1⟩
theorem e_alenL {M : MD} {κ : Nat × Nat} {Q : Option Value → AH → Prop} {pc pc2 : Nat} {h : AH} {ls : List (Option Value)} {st : List Value} {a : Nat} {ty : FieldType} {x : vp_A} {v : Int32} (hd : decode M.2.1 pc = .ok (.arraylength, 1) ∧ pc2 = pc + 1) (hc : Hs h a (.inl (ty, x))) (hv : nI x.1 = v) (k : E M κ Q pc2 h ls (.int v :: st)) : E M κ Q pc h ls (.ref a :: st) := e_alen hd hc (by rw [hv]; exact k)
section NIX
variable {M : MD} {κ : Nat × Nat} {Q : Option Value → AH → Prop} {pc pc2 : Nat} {h : AH} {ls : List (Option Value)} {st : List Value} {a n k : Nat} {i : Int32}
theorem in_N (hi : i = nI k) (hk : k < n) (hn : n < 2 ^ 31) : vp_in i n ∧ i.toNatClampNeg = k := by rw [hi]; exact ⟨vp_in_nI hk hn, nI_clamp (by omega)⟩
theorem e_ialdN {f : Nat → Int32} (hd : decode M.2.1 pc = .ok (.iaload, 1) ∧ pc2 = pc + 1) (hc : Hs h a (aI n f)) (hi : i = nI k) (hk : k < n) (hn : n < 2 ^ 31) (kk : E M κ Q pc2 h ls (.int (f k) :: st)) : E M κ Q pc h ls (.int i :: .ref a :: st) := e_iald hd hc (in_N hi hk hn).1 (by rw [(in_N hi hk hn).2]; exact kk)
theorem e_baldN {f : Nat → Int32} (hd : decode M.2.1 pc = .ok (.baload, 1) ∧ pc2 = pc + 1) (hc : Hs h a (aB n f)) (hi : i = nI k) (hk : k < n) (hn : n < 2 ^ 31) (kk : E M κ Q pc2 h ls (.int (f k) :: st)) : E M κ Q pc h ls (.int i :: .ref a :: st) := e_bald hd hc (in_N hi hk hn).1 (by rw [(in_N hi hk hn).2]; exact kk)
theorem e_zaldN {f : Nat → Int32} (hd : decode M.2.1 pc = .ok (.baload, 1) ∧ pc2 = pc + 1) (hc : Hs h a (aZ n f)) (hi : i = nI k) (hk : k < n) (hn : n < 2 ^ 31) (kk : E M κ Q pc2 h ls (.int (f k) :: st)) : E M κ Q pc h ls (.int i :: .ref a :: st) := e_zald hd hc (in_N hi hk hn).1 (by rw [(in_N hi hk hn).2]; exact kk)
theorem e_laldN {f : Nat → Int64} (hd : decode M.2.1 pc = .ok (.laload, 1) ∧ pc2 = pc + 1) (hc : Hs h a (aJ n f)) (hi : i = nI k) (hk : k < n) (hn : n < 2 ^ 31) (kk : E M κ Q pc2 h ls (.long (f k) :: st)) : E M κ Q pc h ls (.int i :: .ref a :: st) := e_lald hd hc (in_N hi hk hn).1 (by rw [(in_N hi hk hn).2]; exact kk)
theorem e_taldN {f : Nat → Option Nat} (hd : decode M.2.1 pc = .ok (.aaload, 1) ∧ pc2 = pc + 1) (hc : Hs h a (aT n f)) (hi : i = nI k) (hk : k < n) (hn : n < 2 ^ 31) (kk : E M κ Q pc2 h ls (va_rf (f k) :: st)) : E M κ Q pc h ls (.int i :: .ref a :: st) := e_tald hd hc (in_N hi hk hn).1 (by rw [(in_N hi hk hn).2]; exact kk)
theorem e_sldN (hd : decode M.2.1 pc = .ok (.iaload, 1) ∧ pc2 = pc + 1) (hi : i = nI k) (hk : k < h.1.1) (hn : h.1.1 < 2 ^ 31) (kk : E M κ Q pc2 h ls (.int (h.1.2 k) :: st)) : E M κ Q pc h ls (.int i :: .float 0 :: st) := e_sld hd (in_N hi hk hn).1 (by rw [(in_N hi hk hn).2]; exact kk)
theorem e_iastN {f : Nat → Int32} {x : Int32} (hd : decode M.2.1 pc = .ok (.iastore, 1) ∧ pc2 = pc + 1) (hc : Hs h a (aI n f)) (hi : i = nI k) (hk : k < n) (hn : n < 2 ^ 31) (kk : E M κ Q pc2 (up h a (aI n (va_up f k x))) ls st) : E M κ Q pc h ls (.int x :: .int i :: .ref a :: st) := e_iast hd hc (in_N hi hk hn).1 (by rw [(in_N hi hk hn).2]; exact kk)
theorem e_bastN {f : Nat → Int32} {x : Int32} (hd : decode M.2.1 pc = .ok (.bastore, 1) ∧ pc2 = pc + 1) (hc : Hs h a (aB n f)) (hi : i = nI k) (hk : k < n) (hn : n < 2 ^ 31) (kk : E M κ Q pc2 (up h a (aB n (va_up f k x.toInt8.toInt32))) ls st) : E M κ Q pc h ls (.int x :: .int i :: .ref a :: st) := e_bast hd hc (in_N hi hk hn).1 (by rw [(in_N hi hk hn).2]; exact kk)
theorem e_zastN {f : Nat → Int32} {x : Int32} (hd : decode M.2.1 pc = .ok (.bastore, 1) ∧ pc2 = pc + 1) (hc : Hs h a (aZ n f)) (hi : i = nI k) (hk : k < n) (hn : n < 2 ^ 31) (hx : x = 0 ∨ x = 1) (kk : E M κ Q pc2 (up h a (aZ n (va_up f k x))) ls st) : E M κ Q pc h ls (.int x :: .int i :: .ref a :: st) := e_zast hd hc (in_N hi hk hn).1 hx (by rw [(in_N hi hk hn).2]; exact kk)
theorem e_lastN {f : Nat → Int64} {x : Int64} (hd : decode M.2.1 pc = .ok (.lastore, 1) ∧ pc2 = pc + 1) (hc : Hs h a (aJ n f)) (hi : i = nI k) (hk : k < n) (hn : n < 2 ^ 31) (kk : E M κ Q pc2 (up h a (aJ n (va_up f k x))) ls st) : E M κ Q pc h ls (.long x :: .int i :: .ref a :: st) := e_last hd hc (in_N hi hk hn).1 (by rw [(in_N hi hk hn).2]; exact kk)
end NIX
theorem fa_lit (n : Nat) : (OfNat.ofNat n : Int32) = nI n := rfl
/-- one of two ends -/
def pO (P : Prop) (x y : Int32) (h1 h2 : AH) : Option Value → AH → Prop := fun v h' => (P ∧ v = some (.int x) ∧ h' = h1) ∨ (¬ P ∧ v = some (.int y) ∧ h' = h2)
theorem pO_t {M : MD} {κ : Nat × Nat} {h : AH} {av : List Value} {P : Prop} {x y : Int32} {h1 h2 : AH} (H : Sp M κ h av (pO P x y h1 h2)) (p : P) : Sp M κ h av (pI x h1) := H.end (fun v h' q => by rcases q with q | q; exact q.2; exact absurd p q.1)
theorem pO_f {M : MD} {κ : Nat × Nat} {h : AH} {av : List Value} {P : Prop} {x y : Int32} {h1 h2 : AH} (H : Sp M κ h av (pO P x y h1 h2)) (p : ¬ P) : Sp M κ h av (pI y h2) := H.end (fun v h' q => by rcases q with q | q; exact absurd q.1 p; exact q.2)
theorem ix14 {x y : Int32} (h1 : 0 ≤ x) (h2 : x < 12) (h3 : 0 ≤ y) (h4 : y < 14) : 0 ≤ x * 14 + y ∧ x * 14 + y < 168 := by
  obtain ⟨a, ha, rfl⟩ := vp_in_of (vp_of (n := 12) h1 h2 rfl) (by decide)
  obtain ⟨b, hb, rfl⟩ := vp_in_of (vp_of (n := 14) h3 h4 rfl) (by decide)
  have e : nI a * 14 + nI b = nI (a * 14 + b) := by simp only [fa_lit, nI_add, pk_mul]
  rw [e]
  exact ⟨(nI_leI (a := 0) (by decide) (by omega)).mpr (by omega), (nI_ltI (b := 168) (by omega) (by decide)).mpr (by omega)⟩
theorem bI_f {P : Prop} [Decidable P] (h : ¬ P) : bI P = 0 := by simp [bI, h]

theorem s_X10_within {h : AH} {v most : Int32}  : Sp M_X10_within (0, 0) h [.int v, .int most] (pI (bI (0 ≤ v ∧ v ≤ most)) h) := by
  refine ⟨Nat.le_of_ble_eq_true rfl, ?_⟩
  show E _ _ _ 0 h [some (.int v), some (.int most)] []
  refine e_iloadn d_X10_within_0 rfl ?_
  refine e_if_lt d_X10_within_1 (fun c_1 => ?_) (fun c_1 => ?_)
  · refine e_iconst (v := 0) d_X10_within_13 (by decide) ?_
    exact e_iret d_X10_within_14 rfl (rfl) (⟨by grind [bI], rfl⟩)
  · refine e_iloadn d_X10_within_4 rfl ?_
    refine e_iloadn d_X10_within_5 rfl ?_
    refine e_icmp_gt d_X10_within_6 (fun c_6 => ?_) (fun c_6 => ?_)
    · refine e_iconst (v := 0) d_X10_within_13 (by decide) ?_
      exact e_iret d_X10_within_14 rfl (rfl) (⟨by grind [bI], rfl⟩)
    · refine e_iconst (v := 1) d_X10_within_9 (by decide) ?_
      refine e_gt d_X10_within_10 ?_
      exact e_iret d_X10_within_14 rfl (rfl) (⟨by grind [bI], rfl⟩)

theorem s_X10_isT {h : AH} {t : Int32}  : Sp M_X10_isT (0, 0) h [.int t] (pI (bI (1 ≤ t ∧ t ≤ 1000)) h) := by
  refine ⟨Nat.le_of_ble_eq_true rfl, ?_⟩
  show E _ _ _ 0 h [some (.int t)] []
  refine e_iloadn d_X10_isT_0 rfl ?_
  refine e_iconst (v := 1) d_X10_isT_1 (by decide) ?_
  refine e_icmp_lt d_X10_isT_2 (fun c_2 => ?_) (fun c_2 => ?_)
  · refine e_iconst (v := 0) d_X10_isT_16 (by decide) ?_
    exact e_iret d_X10_isT_17 rfl (rfl) (⟨by grind [bI], rfl⟩)
  · refine e_iloadn d_X10_isT_5 rfl ?_
    refine e_sipush (v := 1000) d_X10_isT_6 (by decide) ?_
    refine e_icmp_gt d_X10_isT_9 (fun c_9 => ?_) (fun c_9 => ?_)
    · refine e_iconst (v := 0) d_X10_isT_16 (by decide) ?_
      exact e_iret d_X10_isT_17 rfl (rfl) (⟨by grind [bI], rfl⟩)
    · refine e_iconst (v := 1) d_X10_isT_12 (by decide) ?_
      refine e_gt d_X10_isT_13 ?_
      exact e_iret d_X10_isT_17 rfl (rfl) (⟨by grind [bI], rfl⟩)

theorem s_X10_isText {h : AH} {tc tl lf lp cost : Int32} {t : Int32} (H_mc : Hs h 0 (oMC tc tl lf lp cost)) : Sp M_X10_isText (0, 0) h [.ref 0, .int t] (pI (bI (0 ≤ t ∧ t < tc)) h) := by
  refine ⟨Nat.le_of_ble_eq_true rfl, ?_⟩
  show E _ _ _ 0 h [some (.ref 0), some (.int t)] []
  refine e_iloadn d_X10_isText_0 rfl ?_
  refine e_if_lt d_X10_isText_1 (fun c_1 => ?_) (fun c_1 => ?_)
  · refine e_iconst (v := 0) d_X10_isText_16 (by decide) ?_
    exact e_iret d_X10_isText_17 rfl (rfl) (⟨by grind [bI], rfl⟩)
  · refine e_iloadn d_X10_isText_4 rfl ?_
    refine e_aloadn d_X10_isText_5 rfl ?_
    refine e_get d_X10_isText_6 f_X10_159 H_mc rfl ?_
    refine e_icmp_ge d_X10_isText_9 (fun c_9 => ?_) (fun c_9 => ?_)
    · refine e_iconst (v := 0) d_X10_isText_16 (by decide) ?_
      exact e_iret d_X10_isText_17 rfl (rfl) (⟨by grind [bI], rfl⟩)
    · refine e_iconst (v := 1) d_X10_isText_12 (by decide) ?_
      refine e_gt d_X10_isText_13 ?_
      exact e_iret d_X10_isText_17 rfl (rfl) (⟨by grind [bI], rfl⟩)

theorem s_X0_has2 {h : AH} {cnt co ha : Int32} {x : Int32} (H_ch : Hs h 1 (oCh cnt co ha)) : Sp M_X0_has (0, 0) h [.ref 1, .int x] (pI (bI (0 ≤ x ∧ x < cnt)) h) := by
  refine ⟨Nat.le_of_ble_eq_true rfl, ?_⟩
  show E _ _ _ 0 h [some (.ref 1), some (.int x)] []
  refine e_iloadn d_X0_has_0 rfl ?_
  refine e_if_lt d_X0_has_1 (fun c_1 => ?_) (fun c_1 => ?_)
  · refine e_iconst (v := 0) d_X0_has_16 (by decide) ?_
    exact e_iret d_X0_has_17 rfl (rfl) (⟨by grind [bI], rfl⟩)
  · refine e_iloadn d_X0_has_4 rfl ?_
    refine e_aloadn d_X0_has_5 rfl ?_
    refine e_get d_X0_has_6 f_X0_24 H_ch rfl ?_
    refine e_icmp_ge d_X0_has_9 (fun c_9 => ?_) (fun c_9 => ?_)
    · refine e_iconst (v := 0) d_X0_has_16 (by decide) ?_
      exact e_iret d_X0_has_17 rfl (rfl) (⟨by grind [bI], rfl⟩)
    · refine e_iconst (v := 1) d_X0_has_12 (by decide) ?_
      refine e_gt d_X0_has_13 ?_
      exact e_iret d_X0_has_17 rfl (rfl) (⟨by grind [bI], rfl⟩)

theorem s_X0_all2 {h : AH} {cnt co ha : Int32} (H_ch : Hs h 1 (oCh cnt co ha)) : Sp M_X0_all (0, 0) h [.ref 1] (pI ((1 : Int32) <<< (cnt &&& 31) - 1) h) := by
  refine ⟨Nat.le_of_ble_eq_true rfl, ?_⟩
  show E _ _ _ 0 h [some (.ref 1)] []
  refine e_iconst (v := 1) d_X0_all_0 (by decide) ?_
  refine e_aloadn d_X0_all_1 rfl ?_
  refine e_get d_X0_all_2 f_X0_24 H_ch rfl ?_
  refine e_ishl d_X0_all_5 ?_
  refine e_iconst (v := 1) d_X0_all_6 (by decide) ?_
  refine e_isub d_X0_all_7 ?_
  exact e_iret d_X0_all_8 rfl (rfl) (⟨rfl, rfl⟩)

theorem s_X9_has {h : AH} {nt : Int32} {x : Int32} (H_th : Hs h 6 (oTh nt)) : Sp M_X9_has (0, 0) h [.ref 6, .int x] (pI (bI (0 ≤ x ∧ x < nt)) h) := by
  refine ⟨Nat.le_of_ble_eq_true rfl, ?_⟩
  show E _ _ _ 0 h [some (.ref 6), some (.int x)] []
  refine e_iloadn d_X9_has_0 rfl ?_
  refine e_if_lt d_X9_has_1 (fun c_1 => ?_) (fun c_1 => ?_)
  · refine e_iconst (v := 0) d_X9_has_16 (by decide) ?_
    exact e_iret d_X9_has_17 rfl (rfl) (⟨by grind [bI], rfl⟩)
  · refine e_iloadn d_X9_has_4 rfl ?_
    refine e_aloadn d_X9_has_5 rfl ?_
    refine e_get d_X9_has_6 f_X9_34 H_th rfl ?_
    refine e_icmp_ge d_X9_has_9 (fun c_9 => ?_) (fun c_9 => ?_)
    · refine e_iconst (v := 0) d_X9_has_16 (by decide) ?_
      exact e_iret d_X9_has_17 rfl (rfl) (⟨by grind [bI], rfl⟩)
    · refine e_iconst (v := 1) d_X9_has_12 (by decide) ?_
      refine e_gt d_X9_has_13 ?_
      exact e_iret d_X9_has_17 rfl (rfl) (⟨by grind [bI], rfl⟩)

theorem s_X9_hasAll {h : AH} {nt : Int32} {x : Int32} (H_th : Hs h 6 (oTh nt)) : Sp M_X9_hasAll (0, 0) h [.ref 6, .int x] (pI (bI ((x.toUInt32 >>> (nt.toUInt32 &&& Int32.toUInt32 31)).toInt32 = 0)) h) := by
  refine ⟨Nat.le_of_ble_eq_true rfl, ?_⟩
  show E _ _ _ 0 h [some (.ref 6), some (.int x)] []
  refine e_iloadn d_X9_hasAll_0 rfl ?_
  refine e_aloadn d_X9_hasAll_1 rfl ?_
  refine e_get d_X9_hasAll_2 f_X9_34 H_th rfl ?_
  refine e_iushr d_X9_hasAll_5 ?_
  refine e_if_ne d_X9_hasAll_6 (fun c_6 => ?_) (fun c_6 => ?_)
  · refine e_iconst (v := 0) d_X9_hasAll_13 (by decide) ?_
    exact e_iret d_X9_hasAll_14 rfl (rfl) (⟨by grind [bI], rfl⟩)
  · refine e_iconst (v := 1) d_X9_hasAll_9 (by decide) ?_
    refine e_gt d_X9_hasAll_10 ?_
    exact e_iret d_X9_hasAll_14 rfl (rfl) (⟨by grind [bI], rfl⟩)

theorem s_X9_told {h : AH} {nt : Int32} {ans : Nat → Int32} {x y : Int32} (H_th : Hs h 6 (oTh nt)) (H_an : Hs h 11 (aI 168 ans)) : Sp M_X9_told (0, 0) h [.ref 6, .int x, .int y] (pI (if 0 ≤ x * 14 + y ∧ x * 14 + y < 168 then ans (x * 14 + y).toNatClampNeg else -1) h) := by
  refine ⟨Nat.le_of_ble_eq_true rfl, ?_⟩
  show E _ _ _ 0 h [some (.ref 6), some (.int x), some (.int y), none] []
  refine e_iloadn d_X9_told_0 rfl ?_
  refine e_bipush (v := 14) d_X9_told_1 (by decide) ?_
  refine e_imul d_X9_told_3 ?_
  refine e_iloadn d_X9_told_4 rfl ?_
  refine e_iadd d_X9_told_5 ?_
  refine e_istoren d_X9_told_6 (by decide) rfl ?_
  refine e_iloadn d_X9_told_7 rfl ?_
  refine e_if_lt d_X9_told_8 (fun c_8 => ?_) (fun c_8 => ?_)
  · refine e_iconst (v := -1) d_X9_told_29 (by decide) ?_
    exact e_iret d_X9_told_30 rfl (rfl) (⟨by grind, rfl⟩)
  · refine e_iloadn d_X9_told_11 rfl ?_
    refine e_aloadn d_X9_told_12 rfl ?_
    refine e_get d_X9_told_13 f_X9_25 H_th rfl ?_
    refine e_alenL (v := 168) d_X9_told_16 H_an rfl ?_
    refine e_icmp_ge d_X9_told_17 (fun c_17 => ?_) (fun c_17 => ?_)
    · refine e_iconst (v := -1) d_X9_told_29 (by decide) ?_
      exact e_iret d_X9_told_30 rfl (rfl) (⟨by grind, rfl⟩)
    · refine e_aloadn d_X9_told_20 rfl ?_
      refine e_get d_X9_told_21 f_X9_25 H_th rfl ?_
      refine e_iloadn d_X9_told_24 rfl ?_
      refine e_iald d_X9_told_25 H_an (by first | assumption | exact vp_of (v := 168) (by grind) (by grind) (by decide)) ?_
      refine e_gt d_X9_told_26 ?_
      exact e_iret d_X9_told_30 rfl (rfl) (⟨by grind, rfl⟩)

theorem s_X1_forget {h : AH} {drow : Nat} {dcnt dtext : Int32} (H_de : Hs h 27 (oDe drow dcnt dtext)) : Sp M_X1_forget (0, 0) h [.ref 27] (pV (up h 27 (oDe drow dcnt (-1)))) := by
  refine ⟨Nat.le_of_ble_eq_true rfl, ?_⟩
  show E _ _ _ 0 h [some (.ref 27)] []
  refine e_aloadn d_X1_forget_0 rfl ?_
  refine e_iconst (v := -1) d_X1_forget_1 (by decide) ?_
  refine e_puti d_X1_forget_2 f_X1_21 H_de (Nat.le_of_ble_eq_true rfl) ?_
  exact e_vret d_X1_forget_5 rfl (⟨rfl, rfl⟩)


theorem s_X11_in {h : AH} {v lo hi : Int32}  : Sp M_X11_in (0, 0) h [.int v, .int lo, .int hi] (pI (bI (lo ≤ v ∧ v ≤ hi)) h) := by
  refine ⟨Nat.le_of_ble_eq_true rfl, ?_⟩
  show E _ _ _ 0 h [some (.int v), some (.int lo), some (.int hi)] []
  refine e_iloadn d_X11_in_0 rfl ?_
  refine e_iloadn d_X11_in_1 rfl ?_
  refine e_icmp_lt d_X11_in_2 (fun c_2 => ?_) (fun c_2 => ?_)
  · refine e_iconst (v := 0) d_X11_in_14 (by decide) ?_
    exact e_iret d_X11_in_15 rfl (rfl) (⟨by grind [bI], rfl⟩)
  · refine e_iloadn d_X11_in_5 rfl ?_
    refine e_iloadn d_X11_in_6 rfl ?_
    refine e_icmp_gt d_X11_in_7 (fun c_7 => ?_) (fun c_7 => ?_)
    · refine e_iconst (v := 0) d_X11_in_14 (by decide) ?_
      exact e_iret d_X11_in_15 rfl (rfl) (⟨by grind [bI], rfl⟩)
    · refine e_iconst (v := 1) d_X11_in_10 (by decide) ?_
      refine e_gt d_X11_in_11 ?_
      exact e_iret d_X11_in_15 rfl (rfl) (⟨by grind [bI], rfl⟩)

theorem s_X11_lesser {h : AH} {x y : Int32}  : Sp M_X11_lesser (0, 0) h [.int x, .int y] (pI (if x < y then x else y) h) := by
  refine ⟨Nat.le_of_ble_eq_true rfl, ?_⟩
  show E _ _ _ 0 h [some (.int x), some (.int y)] []
  refine e_iloadn d_X11_lesser_0 rfl ?_
  refine e_iloadn d_X11_lesser_1 rfl ?_
  refine e_icmp_ge d_X11_lesser_2 (fun c_2 => ?_) (fun c_2 => ?_)
  · refine e_iloadn d_X11_lesser_9 rfl ?_
    exact e_iret d_X11_lesser_10 rfl (rfl) (⟨by grind [bI], rfl⟩)
  · refine e_iloadn d_X11_lesser_5 rfl ?_
    refine e_gt d_X11_lesser_6 ?_
    exact e_iret d_X11_lesser_10 rfl (rfl) (⟨by grind [bI], rfl⟩)

theorem s_X11_greater {h : AH} {x y : Int32}  : Sp M_X11_greater (0, 0) h [.int x, .int y] (pI (if y < x then x else y) h) := by
  refine ⟨Nat.le_of_ble_eq_true rfl, ?_⟩
  show E _ _ _ 0 h [some (.int x), some (.int y)] []
  refine e_iloadn d_X11_greater_0 rfl ?_
  refine e_iloadn d_X11_greater_1 rfl ?_
  refine e_icmp_le d_X11_greater_2 (fun c_2 => ?_) (fun c_2 => ?_)
  · refine e_iloadn d_X11_greater_9 rfl ?_
    exact e_iret d_X11_greater_10 rfl (rfl) (⟨by grind [bI], rfl⟩)
  · refine e_iloadn d_X11_greater_5 rfl ?_
    refine e_gt d_X11_greater_6 ?_
    exact e_iret d_X11_greater_10 rfl (rfl) (⟨by grind [bI], rfl⟩)

theorem s_X11_isChild {h : AH} {mtp mfl mfa mln mat mtk mso mto mwr mwp mop mfs mws mst mnc mnk mnr mdn : Int32} {mup mlo mgu mgl : Int64} {a : Nat → Int32} {c : Int32} (H_md : Hs h 66 (oMd mtp mfl mfa mup mlo mln mat mtk mso mto mwr mwp mop mfs mws mst mnc mnk mnr mdn mgu mgl)) (H_a : Hs h 67 (aI 380 a)) : Sp M_X11_isChild (0, 0) h [.ref 66, .int c] (pI (bI (0 ≤ c ∧ c ≤ a 0 - 1)) h) := by
  refine ⟨Nat.le_of_ble_eq_true rfl, ?_⟩
  show E _ _ _ 0 h [some (.ref 66), some (.int c)] []
  refine e_iloadn d_X11_isChild_0 rfl ?_
  refine e_iconst (v := 0) d_X11_isChild_1 (by decide) ?_
  refine e_aloadn d_X11_isChild_2 rfl ?_
  refine e_get d_X11_isChild_3 f_X11_7 H_md rfl ?_
  refine e_iconst (v := 0) d_X11_isChild_6 (by decide) ?_
  refine e_ialdN (k := 0) d_X11_isChild_7 H_a rfl (by decide) (by decide) ?_
  refine e_iconst (v := 1) d_X11_isChild_8 (by decide) ?_
  refine e_isub d_X11_isChild_9 ?_
  refine e_callSI d_X11_isChild_10 l_X11_isChild_101 (s_X11_in  ) rfl rfl (Nat.le_of_ble_eq_true rfl) ?_
  exact e_iret d_X11_isChild_13 rfl (nar_bI) (⟨rfl, rfl⟩)

theorem s_X11_isThing {h : AH} {mtp mfl mfa mln mat mtk mso mto mwr mwp mop mfs mws mst mnc mnk mnr mdn : Int32} {mup mlo mgu mgl : Int64} {a : Nat → Int32} {c : Int32} (H_md : Hs h 66 (oMd mtp mfl mfa mup mlo mln mat mtk mso mto mwr mwp mop mfs mws mst mnc mnk mnr mdn mgu mgl)) (H_a : Hs h 67 (aI 380 a)) : Sp M_X11_isThing (0, 0) h [.ref 66, .int c] (pI (bI (0 ≤ c ∧ c ≤ a 1 - 1)) h) := by
  refine ⟨Nat.le_of_ble_eq_true rfl, ?_⟩
  show E _ _ _ 0 h [some (.ref 66), some (.int c)] []
  refine e_iloadn d_X11_isThing_0 rfl ?_
  refine e_iconst (v := 0) d_X11_isThing_1 (by decide) ?_
  refine e_aloadn d_X11_isThing_2 rfl ?_
  refine e_get d_X11_isThing_3 f_X11_7 H_md rfl ?_
  refine e_iconst (v := 1) d_X11_isThing_6 (by decide) ?_
  refine e_ialdN (k := 1) d_X11_isThing_7 H_a rfl (by decide) (by decide) ?_
  refine e_iconst (v := 1) d_X11_isThing_8 (by decide) ?_
  refine e_isub d_X11_isThing_9 ?_
  refine e_callSI d_X11_isThing_10 l_X11_isThing_101 (s_X11_in  ) rfl rfl (Nat.le_of_ble_eq_true rfl) ?_
  exact e_iret d_X11_isThing_13 rfl (nar_bI) (⟨rfl, rfl⟩)

theorem s_X11_isText {h : AH} {mtp mfl mfa mln mat mtk mso mto mwr mwp mop mfs mws mst mnc mnk mnr mdn : Int32} {mup mlo mgu mgl : Int64} {a : Nat → Int32} {c : Int32} (H_md : Hs h 66 (oMd mtp mfl mfa mup mlo mln mat mtk mso mto mwr mwp mop mfs mws mst mnc mnk mnr mdn mgu mgl)) (H_a : Hs h 67 (aI 380 a)) : Sp M_X11_isText (0, 0) h [.ref 66, .int c] (pI (bI (0 ≤ c ∧ c ≤ a 2 - 1)) h) := by
  refine ⟨Nat.le_of_ble_eq_true rfl, ?_⟩
  show E _ _ _ 0 h [some (.ref 66), some (.int c)] []
  refine e_iloadn d_X11_isText_0 rfl ?_
  refine e_iconst (v := 0) d_X11_isText_1 (by decide) ?_
  refine e_aloadn d_X11_isText_2 rfl ?_
  refine e_get d_X11_isText_3 f_X11_7 H_md rfl ?_
  refine e_iconst (v := 2) d_X11_isText_6 (by decide) ?_
  refine e_ialdN (k := 2) d_X11_isText_7 H_a rfl (by decide) (by decide) ?_
  refine e_iconst (v := 1) d_X11_isText_8 (by decide) ?_
  refine e_isub d_X11_isText_9 ?_
  refine e_callSI d_X11_isText_10 l_X11_isText_101 (s_X11_in  ) rfl rfl (Nat.le_of_ble_eq_true rfl) ?_
  exact e_iret d_X11_isText_13 rfl (nar_bI) (⟨rfl, rfl⟩)
