/-! THE MODEL: DEALS -/
theorem le_64 {x y : Int32} : x.toInt64 ≤ y.toInt64 ↔ x ≤ y := by
  rw [Int64.le_iff_toInt_le, Int32.le_iff_toInt_le, Int32.toInt_toInt64, Int32.toInt_toInt64]
/-- the WIT of those in S -/
def wS (ca : Nat → Nat → Nat) (S : Nat) : Nat → Nat
  | 0 => 0
  | c + 1 => wS ca S c + (if bt S c = true then ca c 1 else 0)
theorem wS_in {ca : Nat → Nat → Nat} {S : Nat} : ∀ {n : Nat}, (∀ c k, c < n → k < 4 → ca c k ≤ 99) → wS ca S n ≤ 99 * n
  | 0, _ => Nat.le_refl _
  | n + 1, h => by
    have := wS_in (S := S) (fun c k hc hk => h c k (Nat.lt_succ_of_lt hc) hk)
    have := h n 1 (by omega) (by omega)
    rw [wS]
    split <;> omega
theorem wS_uS {ca : Nat → Nat → Nat} {S : Nat} : ∀ {n : Nat}, n ≤ 14 → 2 * (wS ca S n : Int) - (wS ca 16383 n : Int) = uS ca S n
  | 0, _ => rfl
  | n + 1, h => by
    have ih := wS_uS (ca := ca) (S := S) (n := n) (by omega)
    rw [wS, wS, uS, bt_all n (by omega)]
    split <;> simp <;> omega
theorem wS_u {ca : Nat → Nat → Nat} {S N : Nat} (hN : N ≤ 14) : (2 : Int32) * nI (wS ca S N) - nI (wS ca 16383 N) = Int32.ofInt (uS ca S N) := by
  rw [show (2 : Int32) = nI 2 from rfl, pk_mul, nI_subI]
  congr 1
  have := wS_uS (ca := ca) (S := S) hN
  omega
theorem allN_le {P : Nat → Bool} {i : Nat} : ∀ {n : Nat}, allN P n = true → i ≤ n → allN P i = true
  | 0, h, hi => by rw [show i = 0 by omega]; exact h
  | n + 1, h, hi => by
    by_cases e : i = n + 1
    · rw [e]; exact h
    · rw [allN, Bool.and_eq_true] at h
      exact allN_le h.1 (by omega)
theorem fit_g {P : Nat → Bool} {b : Bool} {i n : Nat} (h : (b && allN P n) = true) (hi : i ≤ n) : (b && allN P i) = true := by
  rw [Bool.and_eq_true] at h ⊢
  exact ⟨h.1, allN_le h.2 hi⟩
theorem fit_iff {ca : Nat → Nat → Nat} {N nc : Nat} {kd : Nat → Nat} {cd : Nat → List Nat} {many near : Int32} {S : Nat} : fitB ca N nc kd cd many near S = true ↔ (decide (many = -1 ∨ nI (pc S 14) = many) && allN (okA ca N nc kd cd S) N) = true ∧ (near = -1 ∨ nI (uS ca S N).natAbs ≤ near) := by
  simp only [fitB, Bool.and_eq_true, decide_eq_true_eq]
  constructor
  · rintro ⟨h1, h2, h3⟩; exact ⟨⟨h1, h3⟩, h2⟩
  · rintro ⟨⟨h1, h3⟩, h2⟩; exact ⟨h1, h2, h3⟩

theorem s_X11_names {h : AH} {o C : Nat} {nms : Nat → Int32} {mtp mfl mfa mln mat mtk mso mto mwr mwp mop mfs mws mst mnc mnk mnr mdn : Int32} {mup mlo mgu mgl : Int64} {N : Nat} {ca : Nat → Nat → Nat} {a : Nat → Int32} (H_md : Hs h 66 (oMd mtp mfl mfa mup mlo mln mat mtk mso mto mwr mwp mop mfs mws mst mnc mnk mnr mdn mgu mgl)) (H_a : Hs h 67 (aI 380 a)) (ha0 : a 0 = nI N) (hN : N ≤ 14) (hca : ∀ c k, c < N → k < 4 → ca c k ≤ 99) (hca4 : ∀ c k, c < N → k < 4 → a (10 + 5 * c + k) = nI (ca c k)) (H_mnm : Hs h 85 (aI 11 nms)) (hC : C < N) (ho : o ≤ 7) : Sp M_X11_names (0, 0) h [.ref 66, .int (nI o), .int (nI C)] (rV (fun h' => ∃ g : Nat → Int32, Hs h' 85 (aI 11 g) ∧ (∀ t, t < 4 → g (o + t) = nI (ca C t)) ∧ (∀ t, t < o ∨ o + 4 ≤ t → g t = nms t) ∧ Fr [85] h h')) := by
  refine ⟨Nat.le_of_ble_eq_true rfl, ?_⟩
  show E _ _ _ 0 h [some (.ref 66), some (.int (nI o)), some (.int (nI C)), none] []
  refine e_iconst (v := 0) d_X11_names_0 (by decide) ?_
  refine e_istoren d_X11_names_1 (by decide) rfl ?_
  have hA_2 : ∀ i, i ≤ 4 → ∀ (g : Nat → Int32) (u : Unit) (y : Int32), ((∀ t, t < i → g (o + t) = nI (ca C t)) ∧ ∀ t, t < o ∨ o + 4 ≤ t → g t = nms t) → (y = nI i) → E M_X11_names (0, 0) (rV (fun h' => ∃ g : Nat → Int32, Hs h' 85 (aI 11 g) ∧ (∀ t, t < 4 → g (o + t) = nI (ca C t)) ∧ (∀ t, t < o ∨ o + 4 ≤ t → g t = nms t) ∧ Fr [85] h h')) 2 (up h 85 (aI 11 g)) [some (.ref 66), some (.int (nI o)), some (.int (nI C)), some (.int y)] [] := by
    refine loop_ind (n := 4) ?_
    intro i hi_i ih_2 g u y h_u h_y
    subst h_y
    refine e_iloadn d_X11_names_2 rfl ?_
    refine e_iconst (v := 4) d_X11_names_3 (by decide) ?_
    refine e_icmp_ge d_X11_names_4 (fun c => ?_) (fun c => ?_)
    · have c := i_le (a := 4) (by decide) (by omega) c
      obtain rfl : i = 4 := by omega
      exact e_vret d_X11_names_27 rfl (⟨rfl, g, H_mnm.s, h_u.1, h_u.2, (Fr.refl _ _).up (by decide)⟩)
    · have c := i_nle (a := 4) (by decide) (by omega) c
      refine e_aloadn d_X11_names_7 rfl ?_
      refine e_get d_X11_names_8 f_X11_72 (H_md.n (by decide)) rfl ?_
      refine e_iloadn d_X11_names_11 rfl ?_
      refine e_iloadn d_X11_names_12 rfl ?_
      refine e_iadd d_X11_names_13 ?_
      refine e_aloadn d_X11_names_14 rfl ?_
      refine e_iloadn d_X11_names_15 rfl ?_
      refine e_iloadn d_X11_names_16 rfl ?_
      refine e_callVI d_X11_names_17 l_X11_names_116 (H_md.n (by decide)) rfl rfl (s_X11_childOf (H_md.n (by decide)) (H_a.n (by decide)) rfl rfl (by omega)) rfl rfl (Nat.le_of_ble_eq_true rfl) ?_
      rw [hca4 C i hC c]
      refine e_iastN (k := o + i) d_X11_names_20 H_mnm.s (by simp only [fa_lit, nI_add, pk_mul]) (by omega) (by omega) ?_
      refine e_iincw (w := 1) d_X11_names_21 rfl (by decide) (by decide) rfl ?_
      refine e_gt d_X11_names_24 ?_
      rw [up_up]
      refine ih_2 (i + 1) (by omega) (by omega) _ () _ ?_ ?_
      · refine ⟨fun t ht => ?_, fun t ht => ?_⟩
        · by_cases e : t = i
          · subst e; rw [va_up_self]
          · rw [va_up_ne _ _ (by omega)]; exact h_u.1 t (by omega)
        · rw [va_up_ne _ _ (by omega)]; exact h_u.2 t ht
      · exact nI_1 i
  have := hA_2 0 (by omega) nms () 0 ⟨fun t ht => absurd ht (by omega), fun t _ => rfl⟩ rfl
  rw [up_same H_mnm] at this
  exact this

theorem s_X11_isSome {h : AH} {tp nc : Nat} {kd : Nat → Nat} {cd : Nat → List Nat} {many near : Int32} {kk : Nat} {nms : Nat → Int32} {nm : Nat → Int} {pi0 : Nat → Int64} {mtp mfl mfa mln mat mtk mso mto mwr mwp mop mfs mws mst mnc mnk mnr mdn : Int32} {mup mlo mgu mgl : Int64} (H_md : Hs h 66 (oMd mtp mfl mfa mup mlo mln mat mtk mso mto mwr mwp mop mfs mws mst mnc mnk mnr mdn mgu mgl)) (hT : TxM h tp nc kd cd many near) (H_mnm : Hs h 85 (aI 11 nms)) (H_mpi : Hs h 86 (aJ 200 pi0)) (hk : 17 ≤ kk ∧ kk ≤ 20) (hkk : ∀ i, i < nc → kd i = kk → NMc nms nm (cd i) ∧ tyS (cd i) [] = some [true]) : Sp M_X11_isSome (0, 0) h [.ref 66, .int (nI tp), .int (nI (kk - 14))] (rI (fun x h' => x = bI (isS nm nc kd cd kk = true) ∧ (∃ pi : Nat → Int64, Hs h' 86 (aJ 200 pi)) ∧ Fr [86] h h')) := by
  refine ⟨Nat.le_of_ble_eq_true rfl, ?_⟩
  show E _ _ _ 0 h [some (.ref 66), some (.int (nI tp)), some (.int (nI (kk - 14))), none, none] []
  obtain ⟨htp, hnc, mcl, mcw, mcn, mca, mor, mva, H_mcl, H_mcw, H_mcn, H_mca, H_mor, H_mva, hcl, hkd, hmany, hnear⟩ := hT
  have G_md := H_md
  have G_mcl := H_mcl
  have G_mcw := H_mcw
  have G_mca := H_mca
  have G_mor := H_mor
  have G_mva := H_mva
  have G_mnm := H_mnm
  refine e_iconst (v := 0) d_X11_isSome_0 (by decide) ?_
  refine e_istoren d_X11_isSome_1 (by decide) rfl ?_
  refine e_iconst (v := 0) d_X11_isSome_2 (by decide) ?_
  refine e_istore d_X11_isSome_3 (by decide) rfl ?_
  have hA_5 : ∀ i, i ≤ nc → ∀ (k : AH) (F : Unit) (p : Unit) (f : Int32) (y : Int32), (Fr [86] h k) → (∃ pi : Nat → Int64, Hs k 86 (aJ 200 pi)) → (f = bI (anyN (fun i => decide (kd i = kk) && decide (evV nm (cd i) ≠ 0)) i = true)) → (y = nI i) → E M_X11_isSome (0, 0) (rI (fun x h' => x = bI (isS nm nc kd cd kk = true) ∧ (∃ pi : Nat → Int64, Hs h' 86 (aJ 200 pi)) ∧ Fr [86] h h')) 5 (k) [some (.ref 66), some (.int (nI tp)), some (.int (nI (kk - 14))), some (.int f), some (.int y)] [] := by
    refine loop_ind (n := nc) ?_
    intro i hi_i ih_5 k F p f y h_F h_p h_f h_y
    subst h_y
    subst h_f
    have H_md := h_F.hs G_md (by decide)
    have H_mcl := h_F.hs G_mcl (by decide)
    have H_mcw := h_F.hs G_mcw (by decide)
    have H_mca := h_F.hs G_mca (by decide)
    have H_mor := h_F.hs G_mor (by decide)
    have H_mva := h_F.hs G_mva (by decide)
    have H_mnm := h_F.hs G_mnm (by decide)
    obtain ⟨pi, H_mpi⟩ := id h_p
    refine e_iload d_X11_isSome_5 rfl ?_
    refine e_aloadn d_X11_isSome_7 rfl ?_
    refine e_get d_X11_isSome_8 f_X11_27 H_md rfl ?_
    refine e_iloadn d_X11_isSome_11 rfl ?_
    refine e_ialdN (k := tp) d_X11_isSome_12 H_mcl rfl (by omega) (by omega) ?_
    rw [hcl]
    refine e_icmp_ge d_X11_isSome_13 (fun c => ?_) (fun c => ?_)
    · have c := i_le (by omega) (by omega) c
      obtain rfl : nc = i := by omega
      refine e_iloadn d_X11_isSome_69 rfl ?_
      exact e_iret d_X11_isSome_70 rfl (nar_bI) (⟨_, rfl, rfl, h_p, h_F⟩)
    · have c := i_nle (by omega) (by omega) c
      refine e_iloadn d_X11_isSome_16 rfl ?_
      refine e_if_ne d_X11_isSome_17 (fun c_17 => ?_) (fun c_17 => ?_)
      · have hb9 : anyN (fun i => decide (kd i = kk) && decide (evV nm (cd i) ≠ 0)) i = true := bI_1.mp (bI_z.resolve_left c_17)
        have hb : anyN (fun i => decide (kd i = kk) && decide (evV nm (cd i) ≠ 0)) (i + 1) = true := by rw [anyN, hb9]; rfl
        refine e_iconst (v := 1) d_X11_isSome_57 (by decide) ?_
        refine e_gt d_X11_isSome_58 ?_
        refine e_istoren d_X11_isSome_62 (by decide) rfl ?_
        refine e_iincw (w := 1) d_X11_isSome_63 rfl (by decide) (by decide) rfl ?_
        refine e_gt d_X11_isSome_66 ?_
        refine ih_5 (i + 1) (by omega) (by omega) _ () () _ _ ?_ ?_ ?_ ?_
        · first
          | exact h_F.trans fr_49
          | exact h_F
        · first
          | exact hp_49
          | exact h_p
        · first | rw [bI_t hb] | rw [bI_f (by rw [hb]; decide)]
        · exact nI_1 i
      · have hb9 : anyN (fun i => decide (kd i = kk) && decide (evV nm (cd i) ≠ 0)) i = false := Bool.eq_false_iff.mpr (bI_0.mp c_17)
        refine e_aloadn d_X11_isSome_20 rfl ?_
        refine e_get d_X11_isSome_21 f_X11_30 H_md rfl ?_
        refine e_bipush (v := 10) d_X11_isSome_24 (by decide) ?_
        refine e_iloadn d_X11_isSome_26 rfl ?_
        refine e_imul d_X11_isSome_27 ?_
        refine e_iload d_X11_isSome_28 rfl ?_
        refine e_iadd d_X11_isSome_30 ?_
        obtain ⟨k1, k2, k3, k4, k5, k6⟩ := hkd i c
        refine e_ialdN (k := 10 * tp + i) d_X11_isSome_31 H_mcw (by simp only [fa_lit, nI_add, pk_mul]) (by omega) (by omega) ?_
        rw [k3]
        refine e_iloadn d_X11_isSome_32 rfl ?_
        refine e_icmp_ne d_X11_isSome_33 (fun c_33 => ?_) (fun c_33 => ?_)
        · have hb : anyN (fun i => decide (kd i = kk) && decide (evV nm (cd i) ≠ 0)) (i + 1) = false := by rw [anyN, hb9]; simp [show ¬ kd i = kk from fun z => c_33 (by rw [z])]
          refine e_iconst (v := 0) d_X11_isSome_61 (by decide) ?_
          refine e_istoren d_X11_isSome_62 (by decide) rfl ?_
          refine e_iincw (w := 1) d_X11_isSome_63 rfl (by decide) (by decide) rfl ?_
          refine e_gt d_X11_isSome_66 ?_
          refine ih_5 (i + 1) (by omega) (by omega) _ () () _ _ ?_ ?_ ?_ ?_
          · first
            | exact h_F.trans fr_49
            | exact h_F
          · first
            | exact hp_49
            | exact h_p
          · first | rw [bI_t hb] | rw [bI_f (by rw [hb]; decide)]
          · exact nI_1 i
        · have hke : kd i = kk := by
            have := (nI_eq (by omega) (by omega)).mp c_33
            omega
          obtain ⟨s9, hs9, hcm⟩ := k6 (by omega)
          obtain ⟨hnm, hty⟩ := hkk i c hke
          have hin := evV_in (fun t a b => (hnm t a b).2) hty
          have h01 := hin.1 rfl
          refine e_aloadn d_X11_isSome_36 rfl ?_
          refine e_aloadn d_X11_isSome_37 rfl ?_
          refine e_get d_X11_isSome_38 f_X11_36 H_md rfl ?_
          refine e_bipush (v := 10) d_X11_isSome_41 (by decide) ?_
          refine e_iloadn d_X11_isSome_43 rfl ?_
          refine e_imul d_X11_isSome_44 ?_
          refine e_iload d_X11_isSome_45 rfl ?_
          refine e_iadd d_X11_isSome_47 ?_
          refine e_ialdN (k := 10 * tp + i) d_X11_isSome_48 H_mca (by simp only [fa_lit, nI_add, pk_mul]) (by omega) (by omega) ?_
          rw [hs9]
          refine e_callRVJ d_X11_isSome_49 l_X11_isSome_329 H_md rfl rfl (s_X11_tells H_md H_mor H_mva H_mnm H_mpi hcm hnm hty) rfl rfl (Nat.le_of_ble_eq_true rfl) (fun x_49 h_49 q_49 s_49 => ?_)
          obtain ⟨rfl, hp_49, fr_49⟩ := q_49
          refine e_lconst (v := 0) d_X11_isSome_52 (by decide) ?_
          refine e_lcmp_le d_X11_isSome_53 d_X11_isSome_54 (fun c_53 => ?_) (fun c_53 => ?_)
          · have hb : anyN (fun i => decide (kd i = kk) && decide (evV nm (cd i) ≠ 0)) (i + 1) = false := by
              have c9 := c_53
              rw [show (0 : Int64) = Int64.ofInt 0 from rfl, i64_le (by omega) (by omega)] at c9
              rw [anyN, hb9]; simp; intro _; omega
            refine e_iconst (v := 0) d_X11_isSome_61 (by decide) ?_
            refine e_istoren d_X11_isSome_62 (by decide) rfl ?_
            refine e_iincw (w := 1) d_X11_isSome_63 rfl (by decide) (by decide) rfl ?_
            refine e_gt d_X11_isSome_66 ?_
            refine ih_5 (i + 1) (by omega) (by omega) _ () () _ _ ?_ ?_ ?_ ?_
            · first
              | exact h_F.trans fr_49
              | exact h_F
            · first
              | exact hp_49
              | exact h_p
            · first | rw [bI_t hb] | rw [bI_f (by rw [hb]; decide)]
            · exact nI_1 i
          · have hb : anyN (fun i => decide (kd i = kk) && decide (evV nm (cd i) ≠ 0)) (i + 1) = true := by
              have c9 := c_53
              rw [show (0 : Int64) = Int64.ofInt 0 from rfl, i64_le (by omega) (by omega)] at c9
              rw [anyN, hb9]; simp; exact ⟨hke, by omega⟩
            refine e_iconst (v := 1) d_X11_isSome_57 (by decide) ?_
            refine e_gt d_X11_isSome_58 ?_
            refine e_istoren d_X11_isSome_62 (by decide) rfl ?_
            refine e_iincw (w := 1) d_X11_isSome_63 rfl (by decide) (by decide) rfl ?_
            refine e_gt d_X11_isSome_66 ?_
            refine ih_5 (i + 1) (by omega) (by omega) _ () () _ _ ?_ ?_ ?_ ?_
            · first
              | exact h_F.trans fr_49
              | exact h_F
            · first
              | exact hp_49
              | exact h_p
            · first | rw [bI_t hb] | rw [bI_f (by rw [hb]; decide)]
            · exact nI_1 i
  exact hA_5 0 (by omega) _ () () _ _ (Fr.refl _ _) (⟨_, H_mpi⟩) (rfl) (rfl)

theorem s_X11_numberOf_many {h : AH} {tp nc : Nat} {kd : Nat → Nat} {cd : Nat → List Nat} {many near : Int32} {mtp mfl mfa mln mat mtk mso mto mwr mwp mop mfs mws mst mnc mnk mnr mdn : Int32} {mup mlo mgu mgl : Int64} (H_md : Hs h 66 (oMd mtp mfl mfa mup mlo mln mat mtk mso mto mwr mwp mop mfs mws mst mnc mnk mnr mdn mgu mgl)) (hT : TxM h tp nc kd cd many near) : Sp M_X11_numberOf (0, 0) h [.ref 66, .int (nI tp), .int 0] (pI many h) := by
  refine ⟨Nat.le_of_ble_eq_true rfl, ?_⟩
  show E _ _ _ 0 h [some (.ref 66), some (.int (nI tp)), some (.int 0), none, none] []
  obtain ⟨htp, hnc, mcl, mcw, mcn, mca, mor, mva, H_mcl, H_mcw, H_mcn, H_mca, H_mor, H_mva, hcl, hkd, hmany, hnear⟩ := hT
  refine e_iconst (v := -1) d_X11_numberOf_0 (by decide) ?_
  refine e_istoren d_X11_numberOf_1 (by decide) rfl ?_
  refine e_iconst (v := 0) d_X11_numberOf_2 (by decide) ?_
  refine e_istore d_X11_numberOf_3 (by decide) rfl ?_
  have hA_5 : ∀ i, i ≤ nc → ∀ (f : Int32) (y : Int32), (f = (if anyN (fun i => decide (kd i = 14)) i = true then many else -1)) → (y = nI i) → E M_X11_numberOf (0, 0) (pI many h) 5 (h) [some (.ref 66), some (.int (nI tp)), some (.int 0), some (.int f), some (.int y)] [] := by
    refine loop_ind (n := nc) ?_
    intro i hi_i ih_5 f y h_f h_y
    subst h_y
    subst h_f
    refine e_iload d_X11_numberOf_5 rfl ?_
    refine e_aloadn d_X11_numberOf_7 rfl ?_
    refine e_get d_X11_numberOf_8 f_X11_27 H_md rfl ?_
    refine e_iloadn d_X11_numberOf_11 rfl ?_
    refine e_ialdN (k := tp) d_X11_numberOf_12 H_mcl rfl (by omega) (by omega) ?_
    rw [hcl]
    refine e_icmp_ge d_X11_numberOf_13 (fun c => ?_) (fun c => ?_)
    · have c := i_le (by omega) (by omega) c
      obtain rfl : nc = i := by omega
      refine e_iloadn d_X11_numberOf_55 rfl ?_
      exact e_iret d_X11_numberOf_56 rfl (rfl) (⟨by cases hq : hasK nc kd 14 with
    | true => rw [if_pos (show anyN _ nc = true from hq)]
    | false => rw [if_neg (fun z => by rw [show anyN _ nc = hasK nc kd 14 from rfl, hq] at z; cases z), hmany hq], rfl⟩)
    · have c := i_nle (by omega) (by omega) c
      refine e_aloadn d_X11_numberOf_16 rfl ?_
      refine e_get d_X11_numberOf_17 f_X11_30 H_md rfl ?_
      refine e_bipush (v := 10) d_X11_numberOf_20 (by decide) ?_
      refine e_iloadn d_X11_numberOf_22 rfl ?_
      refine e_imul d_X11_numberOf_23 ?_
      refine e_iload d_X11_numberOf_24 rfl ?_
      refine e_iadd d_X11_numberOf_26 ?_
      obtain ⟨k1, k2, k3, k4, k5, k6⟩ := hkd i c
      refine e_ialdN (k := 10 * tp + i) d_X11_numberOf_27 H_mcw (by simp only [fa_lit, nI_add, pk_mul]) (by omega) (by omega) ?_
      rw [k3]
      refine e_iloadn d_X11_numberOf_28 rfl ?_
      refine e_icmp_ne d_X11_numberOf_29 (fun c_29 => ?_) (fun c_29 => ?_)
      · have hke : ¬ kd i = 14 := fun z => c_29 (by rw [z]; rfl)
        have hb : anyN (fun i => decide (kd i = 14)) (i + 1) = anyN (fun i => decide (kd i = 14)) i := by rw [anyN]; simp [hke]
        refine e_iloadn d_X11_numberOf_47 rfl ?_
        refine e_istoren d_X11_numberOf_48 (by decide) rfl ?_
        refine e_iincw (w := 1) d_X11_numberOf_49 rfl (by decide) (by decide) rfl ?_
        refine e_gt d_X11_numberOf_52 ?_
        refine ih_5 (i + 1) (by omega) (by omega) _ _ ?_ ?_
        · first | (rw [if_pos hb]; done) | rw [hb]
        · exact nI_1 i
      · have hke : kd i = 14 := by
          have := (nI_eq (b := 0) (by omega) (by decide)).mp c_29
          omega
        have hb : anyN (fun i => decide (kd i = 14)) (i + 1) = true := by rw [anyN]; simp [hke]
        refine e_aloadn d_X11_numberOf_32 rfl ?_
        refine e_get d_X11_numberOf_33 f_X11_33 H_md rfl ?_
        refine e_bipush (v := 10) d_X11_numberOf_36 (by decide) ?_
        refine e_iloadn d_X11_numberOf_38 rfl ?_
        refine e_imul d_X11_numberOf_39 ?_
        refine e_iload d_X11_numberOf_40 rfl ?_
        refine e_iadd d_X11_numberOf_42 ?_
        refine e_ialdN (k := 10 * tp + i) d_X11_numberOf_43 H_mcn (by simp only [fa_lit, nI_add, pk_mul]) (by omega) (by omega) ?_
        rw [k4 hke]
        refine e_gt d_X11_numberOf_44 ?_
        refine e_istoren d_X11_numberOf_48 (by decide) rfl ?_
        refine e_iincw (w := 1) d_X11_numberOf_49 rfl (by decide) (by decide) rfl ?_
        refine e_gt d_X11_numberOf_52 ?_
        refine ih_5 (i + 1) (by omega) (by omega) _ _ ?_ ?_
        · first | (rw [if_pos hb]; done) | rw [hb]
        · exact nI_1 i
  exact hA_5 0 (by omega) _ _ (rfl) (rfl)

theorem s_X11_numberOf_near {h : AH} {tp nc : Nat} {kd : Nat → Nat} {cd : Nat → List Nat} {many near : Int32} {mtp mfl mfa mln mat mtk mso mto mwr mwp mop mfs mws mst mnc mnk mnr mdn : Int32} {mup mlo mgu mgl : Int64} (H_md : Hs h 66 (oMd mtp mfl mfa mup mlo mln mat mtk mso mto mwr mwp mop mfs mws mst mnc mnk mnr mdn mgu mgl)) (hT : TxM h tp nc kd cd many near) : Sp M_X11_numberOf (0, 0) h [.ref 66, .int (nI tp), .int 1] (pI near h) := by
  refine ⟨Nat.le_of_ble_eq_true rfl, ?_⟩
  show E _ _ _ 0 h [some (.ref 66), some (.int (nI tp)), some (.int 1), none, none] []
  obtain ⟨htp, hnc, mcl, mcw, mcn, mca, mor, mva, H_mcl, H_mcw, H_mcn, H_mca, H_mor, H_mva, hcl, hkd, hmany, hnear⟩ := hT
  refine e_iconst (v := -1) d_X11_numberOf_0 (by decide) ?_
  refine e_istoren d_X11_numberOf_1 (by decide) rfl ?_
  refine e_iconst (v := 0) d_X11_numberOf_2 (by decide) ?_
  refine e_istore d_X11_numberOf_3 (by decide) rfl ?_
  have hA_5 : ∀ i, i ≤ nc → ∀ (f : Int32) (y : Int32), (f = (if anyN (fun i => decide (kd i = 15)) i = true then near else -1)) → (y = nI i) → E M_X11_numberOf (0, 0) (pI near h) 5 (h) [some (.ref 66), some (.int (nI tp)), some (.int 1), some (.int f), some (.int y)] [] := by
    refine loop_ind (n := nc) ?_
    intro i hi_i ih_5 f y h_f h_y
    subst h_y
    subst h_f
    refine e_iload d_X11_numberOf_5 rfl ?_
    refine e_aloadn d_X11_numberOf_7 rfl ?_
    refine e_get d_X11_numberOf_8 f_X11_27 H_md rfl ?_
    refine e_iloadn d_X11_numberOf_11 rfl ?_
    refine e_ialdN (k := tp) d_X11_numberOf_12 H_mcl rfl (by omega) (by omega) ?_
    rw [hcl]
    refine e_icmp_ge d_X11_numberOf_13 (fun c => ?_) (fun c => ?_)
    · have c := i_le (by omega) (by omega) c
      obtain rfl : nc = i := by omega
      refine e_iloadn d_X11_numberOf_55 rfl ?_
      exact e_iret d_X11_numberOf_56 rfl (rfl) (⟨by cases hq : hasK nc kd 15 with
    | true => rw [if_pos (show anyN _ nc = true from hq)]
    | false => rw [if_neg (fun z => by rw [show anyN _ nc = hasK nc kd 15 from rfl, hq] at z; cases z), hnear hq], rfl⟩)
    · have c := i_nle (by omega) (by omega) c
      refine e_aloadn d_X11_numberOf_16 rfl ?_
      refine e_get d_X11_numberOf_17 f_X11_30 H_md rfl ?_
      refine e_bipush (v := 10) d_X11_numberOf_20 (by decide) ?_
      refine e_iloadn d_X11_numberOf_22 rfl ?_
      refine e_imul d_X11_numberOf_23 ?_
      refine e_iload d_X11_numberOf_24 rfl ?_
      refine e_iadd d_X11_numberOf_26 ?_
      obtain ⟨k1, k2, k3, k4, k5, k6⟩ := hkd i c
      refine e_ialdN (k := 10 * tp + i) d_X11_numberOf_27 H_mcw (by simp only [fa_lit, nI_add, pk_mul]) (by omega) (by omega) ?_
      rw [k3]
      refine e_iloadn d_X11_numberOf_28 rfl ?_
      refine e_icmp_ne d_X11_numberOf_29 (fun c_29 => ?_) (fun c_29 => ?_)
      · have hke : ¬ kd i = 15 := fun z => c_29 (by rw [z]; rfl)
        have hb : anyN (fun i => decide (kd i = 15)) (i + 1) = anyN (fun i => decide (kd i = 15)) i := by rw [anyN]; simp [hke]
        refine e_iloadn d_X11_numberOf_47 rfl ?_
        refine e_istoren d_X11_numberOf_48 (by decide) rfl ?_
        refine e_iincw (w := 1) d_X11_numberOf_49 rfl (by decide) (by decide) rfl ?_
        refine e_gt d_X11_numberOf_52 ?_
        refine ih_5 (i + 1) (by omega) (by omega) _ _ ?_ ?_
        · first | (rw [if_pos hb]; done) | rw [hb]
        · exact nI_1 i
      · have hke : kd i = 15 := by
          have := (nI_eq (b := 1) (by omega) (by decide)).mp c_29
          omega
        have hb : anyN (fun i => decide (kd i = 15)) (i + 1) = true := by rw [anyN]; simp [hke]
        refine e_aloadn d_X11_numberOf_32 rfl ?_
        refine e_get d_X11_numberOf_33 f_X11_33 H_md rfl ?_
        refine e_bipush (v := 10) d_X11_numberOf_36 (by decide) ?_
        refine e_iloadn d_X11_numberOf_38 rfl ?_
        refine e_imul d_X11_numberOf_39 ?_
        refine e_iload d_X11_numberOf_40 rfl ?_
        refine e_iadd d_X11_numberOf_42 ?_
        refine e_ialdN (k := 10 * tp + i) d_X11_numberOf_43 H_mcn (by simp only [fa_lit, nI_add, pk_mul]) (by omega) (by omega) ?_
        rw [k5 hke]
        refine e_gt d_X11_numberOf_44 ?_
        refine e_istoren d_X11_numberOf_48 (by decide) rfl ?_
        refine e_iincw (w := 1) d_X11_numberOf_49 rfl (by decide) (by decide) rfl ?_
        refine e_gt d_X11_numberOf_52 ?_
        refine ih_5 (i + 1) (by omega) (by omega) _ _ ?_ ?_
        · first | (rw [if_pos hb]; done) | rw [hb]
        · exact nI_1 i
  exact hA_5 0 (by omega) _ _ (rfl) (rfl)

theorem pc_s (S k : Nat) : pc S k + S / 2 ^ k % 2 = pc S (k + 1) := by
  rw [pc]
  have : S / 2 ^ k % 2 = 0 ∨ S / 2 ^ k % 2 = 1 := by omega
  rcases this with e | e <;> simp [bt, e]
theorem pc_31 {S : Nat} (hS : S < 16384) : pc S 31 = pc S 14 := by
  have h1 : ∀ k, pc S (14 + k) = pc S 14 := by
    intro k
    induction k with
    | zero => rfl
    | succ k ih => rw [← Nat.add_assoc, pc, ih, bt_ge (k := 14) hS (by omega)]; simp
  exact h1 17
theorem s_X11_ones {h : AH} {S : Nat} (hS : S < 16384) : Sp M_X11_ones (0, 0) h [.int (nI S)] (pI (nI (pc S 14)) h) := by
  refine ⟨Nat.le_of_ble_eq_true rfl, ?_⟩
  show E _ _ _ 0 h [some (.int (nI S)), none, none] []
  refine e_iconst (v := 0) d_X11_ones_0 (by decide) ?_
  refine e_istoren d_X11_ones_1 (by decide) rfl ?_
  refine e_iconst (v := 0) d_X11_ones_2 (by decide) ?_
  refine e_istoren d_X11_ones_3 (by decide) rfl ?_
  have hA_4 : ∀ i, i ≤ 31 → ∀ (f : Int32) (y : Int32), (f = nI (pc S i)) → (y = nI i) → E M_X11_ones (0, 0) (pI (nI (pc S 14)) h) 4 (h) [some (.int (nI S)), some (.int f), some (.int y)] [] := by
    refine loop_ind (n := 31) ?_
    intro i hi_i ih_4 f y h_f h_y
    subst h_y
    subst h_f
    refine e_iloadn d_X11_ones_4 rfl ?_
    refine e_bipush (v := 31) d_X11_ones_5 (by decide) ?_
    refine e_icmp_ge d_X11_ones_7 (fun c => ?_) (fun c => ?_)
    · have c := i_le (a := 31) (by decide) (by omega) c
      obtain rfl : i = 31 := by omega
      refine e_iloadn d_X11_ones_24 rfl ?_
      exact e_iret d_X11_ones_25 rfl (rfl) (⟨by rw [pc_31 hS], rfl⟩)
    · have c := i_nle (a := 31) (by decide) (by omega) c
      refine e_iloadn d_X11_ones_10 rfl ?_
      refine e_iloadn d_X11_ones_11 rfl ?_
      refine e_iloadn d_X11_ones_12 rfl ?_
      refine e_ishr d_X11_ones_13 ?_
      refine e_iconst (v := 1) d_X11_ones_14 (by decide) ?_
      refine e_iand d_X11_ones_15 ?_
      refine e_iadd d_X11_ones_16 ?_
      refine e_istoren d_X11_ones_17 (by decide) rfl ?_
      refine e_iincw (w := 1) d_X11_ones_18 rfl (by decide) (by decide) rfl ?_
      refine e_gt d_X11_ones_21 ?_
      refine ih_4 (i + 1) (by omega) (by omega) _ _ ?_ ?_
      · rw [bitAt (by omega) c, nI_add, pc_s]
      · exact nI_1 i
  exact hA_4 0 (by omega) _ _ (rfl) (rfl)

theorem s_X11_away {h : AH} {x : Int} (hx : -1000000000000000 ≤ x ∧ x ≤ 1000000000000000) : Sp M_X11_away (0, 0) h [.long (Int64.ofInt x)] (pJ (Int64.ofInt (x.natAbs : Int)) h) := by
  refine ⟨Nat.le_of_ble_eq_true rfl, ?_⟩
  show E _ _ _ 0 h [some (.long (Int64.ofInt x)), none] []
  refine e_lloadn d_X11_away_0 rfl ?_
  refine e_lconst (v := 0) d_X11_away_1 (by decide) ?_
  refine e_lcmp_ge d_X11_away_2 d_X11_away_3 (fun c2 => ?_) (fun c2 => ?_)
  · refine e_lloadn d_X11_away_11 rfl ?_
    exact e_lret d_X11_away_12 rfl (⟨by rw [← abs_64 hx]; first | (rw [if_neg (by first | exact c2 | exact Int64.not_lt.mpr c2)]; done) | (rw [if_pos (by first | exact c2 | exact Int64.not_le.mp c2)]; done), rfl⟩)
  · refine e_lloadn d_X11_away_6 rfl ?_
    refine e_lneg d_X11_away_7 ?_
    refine e_gt d_X11_away_8 ?_
    exact e_lret d_X11_away_12 rfl (⟨by rw [← abs_64 hx]; first | (rw [if_neg (by first | exact c2 | exact Int64.not_lt.mpr c2)]; done) | (rw [if_pos (by first | exact c2 | exact Int64.not_le.mp c2)]; done), rfl⟩)

theorem s_X11_isDeal {h : AH} {nc : Nat} {kd : Nat → Nat} {cd : Nat → List Nat} {many near : Int32} {S : Nat} {wi wo : Nat → Int32} {mtp mfl mfa mln mat mtk mso mto mwr mwp mop mfs mws mst mnc mnk mnr mdn : Int32} {mup mlo mgu mgl : Int64} {N : Nat} {ca : Nat → Nat → Nat} {a : Nat → Int32} (H_md : Hs h 66 (oMd mtp mfl mfa mup mlo mln mat mtk mso mto mwr mwp mop mfs mws mst mnc mnk mnr mdn mgu mgl)) (H_a : Hs h 67 (aI 380 a)) (ha0 : a 0 = nI N) (hN : N ≤ 14) (hca : ∀ c k, c < N → k < 4 → ca c k ≤ 99) (hca4 : ∀ c k, c < N → k < 4 → a (10 + 5 * c + k) = nI (ca c k)) (H_mwi : Hs h 88 (aI 14 wi)) (H_mwo : Hs h 89 (aI 14 wo)) (hS : S < 16384) (hwa : ∀ c, c < N → wi c = nI (bs (wN ca nc kd cd 17 c) N) ∧ wo c = nI (bs (wN ca nc kd cd 18 c) N)) : Sp M_X11_isDeal (0, 0) h [.ref 66, .int (nI S), .int many, .int near, .int (nI (wS ca 16383 N))] (pI (bI (fitB ca N nc kd cd many near S = true)) h) := by
  refine ⟨Nat.le_of_ble_eq_true rfl, ?_⟩
  show E _ _ _ 0 h [some (.ref 66), some (.int (nI S)), some (.int many), some (.int near), some (.int (nI (wS ca 16383 N))), none, none, none, none, none] []
  have hu := uS_in (S := S) hca
  have hu : -1386 ≤ uS ca S N ∧ uS ca S N ≤ 1386 := by omega
  refine e_iloadn d_X11_isDeal_0 rfl ?_
  refine e_iconst (v := -1) d_X11_isDeal_1 (by decide) ?_
  refine e_icmp_eq d_X11_isDeal_2 (fun c2 => ?_) (fun c2 => ?_)
  · have hM : (decide (many = -1 ∨ nI (pc S 14) = many)) = true := decide_eq_true (Or.inl c2)
    refine e_iconst (v := 1) d_X11_isDeal_13 (by decide) ?_
    refine e_gt d_X11_isDeal_14 ?_
    refine e_istore d_X11_isDeal_18 (by decide) rfl ?_
    refine e_iconst (v := 0) d_X11_isDeal_20 (by decide) ?_
    refine e_istore d_X11_isDeal_21 (by decide) rfl ?_
    refine e_iconst (v := 0) d_X11_isDeal_23 (by decide) ?_
    refine e_istore d_X11_isDeal_24 (by decide) rfl ?_
    have hA_26 : ∀ i, i ≤ N → ∀ (g : Int32) (w : Int32) (y : Int32), (g = bI (((decide (many = -1 ∨ nI (pc S 14) = many)) && allN (okA ca N nc kd cd S) i) = true)) → (w = nI (wS ca S i)) → (y = nI i) → E M_X11_isDeal (0, 0) (pI (bI (fitB ca N nc kd cd many near S = true)) h) 26 (h) [some (.ref 66), some (.int (nI S)), some (.int many), some (.int near), some (.int (nI (wS ca 16383 N))), some (.int g), some (.int w), some (.int y), none, none] [] := by
      refine loop_ind (n := N) ?_
      intro i hi_i ih_26 g w y h_g h_w h_y
      subst h_y
      subst h_g
      subst h_w
      refine e_iload d_X11_isDeal_26 rfl ?_
      refine e_aloadn d_X11_isDeal_28 rfl ?_
      refine e_get d_X11_isDeal_29 f_X11_7 H_md rfl ?_
      refine e_iconst (v := 0) d_X11_isDeal_32 (by decide) ?_
      refine e_ialdN (k := 0) d_X11_isDeal_33 H_a rfl (by omega) (by omega) ?_
      rw [ha0]
      refine e_icmp_ge d_X11_isDeal_34 (fun c => ?_) (fun c => ?_)
      · have c := i_le (by omega) (by omega) c
        obtain rfl : N = i := by omega
        refine e_iload d_X11_isDeal_135 rfl ?_
        refine e_if_eq d_X11_isDeal_137 (fun c137 => ?_) (fun c137 => ?_)
        · have hgN := bI_0.mp c137
          refine e_iconst (v := 0) d_X11_isDeal_166 (by decide) ?_
          exact e_iret d_X11_isDeal_167 rfl (rfl) (⟨by first | (rw [bI_f (fun z => hgN (fit_iff.mp z).1)]; done) | (rw [bI_t (fit_iff.mpr ⟨hgN, Or.inl c142⟩)]; done) | (rw [bI_t (fit_iff.mpr ⟨hgN, Or.inr hnn⟩)]; done) | rw [bI_f (fun z => (fit_iff.mp z).2.elim c142 hnn)], rfl⟩)
        · have hgN := bI_1.mp (bI_z.resolve_left c137)
          refine e_iloadn d_X11_isDeal_140 rfl ?_
          refine e_iconst (v := -1) d_X11_isDeal_141 (by decide) ?_
          refine e_icmp_eq d_X11_isDeal_142 (fun c142 => ?_) (fun c142 => ?_)
          · refine e_iconst (v := 1) d_X11_isDeal_162 (by decide) ?_
            refine e_gt d_X11_isDeal_163 ?_
            exact e_iret d_X11_isDeal_167 rfl (rfl) (⟨by first | (rw [bI_f (fun z => hgN (fit_iff.mp z).1)]; done) | (rw [bI_t (fit_iff.mpr ⟨hgN, Or.inl c142⟩)]; done) | (rw [bI_t (fit_iff.mpr ⟨hgN, Or.inr hnn⟩)]; done) | rw [bI_f (fun z => (fit_iff.mp z).2.elim c142 hnn)], rfl⟩)
          · refine e_iconst (v := 2) d_X11_isDeal_145 (by decide) ?_
            refine e_iload d_X11_isDeal_146 rfl ?_
            refine e_imul d_X11_isDeal_148 ?_
            refine e_iload d_X11_isDeal_149 rfl ?_
            refine e_isub d_X11_isDeal_151 ?_
            rw [show (2 : Int32) * nI (wS ca S N) - nI (wS ca 16383 N) = Int32.ofInt (uS ca S N) from wS_u hN]
            refine e_i2l d_X11_isDeal_152 ?_
            rw [i64_of32 (by omega) (by omega)]
            refine e_callSJ d_X11_isDeal_153 l_X11_isDeal_353 (s_X11_away (x := uS ca S N) (by omega)) rfl rfl (Nat.le_of_ble_eq_true rfl) ?_
            refine e_iloadn d_X11_isDeal_156 rfl ?_
            refine e_i2l d_X11_isDeal_157 ?_
            refine e_lcmp_gt d_X11_isDeal_158 d_X11_isDeal_159 (fun c158 => ?_) (fun c158 => ?_)
            · have hnn : ¬ nI (uS ca S N).natAbs ≤ near := by
                rw [← le_64, nI64 (by omega)]
                first | exact Int64.not_le.mpr c158 | exact c158
              refine e_iconst (v := 0) d_X11_isDeal_166 (by decide) ?_
              exact e_iret d_X11_isDeal_167 rfl (rfl) (⟨by first | (rw [bI_f (fun z => hgN (fit_iff.mp z).1)]; done) | (rw [bI_t (fit_iff.mpr ⟨hgN, Or.inl c142⟩)]; done) | (rw [bI_t (fit_iff.mpr ⟨hgN, Or.inr hnn⟩)]; done) | rw [bI_f (fun z => (fit_iff.mp z).2.elim c142 hnn)], rfl⟩)
            · have hnn : nI (uS ca S N).natAbs ≤ near := by
                rw [← le_64, nI64 (by omega)]
                first | exact c158 | exact Int64.not_lt.mp c158 | exact Decidable.of_not_not c158
              refine e_iconst (v := 1) d_X11_isDeal_162 (by decide) ?_
              refine e_gt d_X11_isDeal_163 ?_
              exact e_iret d_X11_isDeal_167 rfl (rfl) (⟨by first | (rw [bI_f (fun z => hgN (fit_iff.mp z).1)]; done) | (rw [bI_t (fit_iff.mpr ⟨hgN, Or.inl c142⟩)]; done) | (rw [bI_t (fit_iff.mpr ⟨hgN, Or.inr hnn⟩)]; done) | rw [bI_f (fun z => (fit_iff.mp z).2.elim c142 hnn)], rfl⟩)
      · have c := i_nle (by omega) (by omega) c
        by_cases hgt : ((decide (many = -1 ∨ nI (pc S 14) = many)) && allN (okA ca N nc kd cd S) i) = true
        · refine e_iload d_X11_isDeal_37 rfl ?_
          refine e_if_eq d_X11_isDeal_39 (fun z => by first | exact absurd (fun z => bI_0.mp z hgt) z | exact absurd z (fun z => bI_0.mp z hgt)) (fun _ => ?_)
          refine e_iloadn d_X11_isDeal_42 rfl ?_
          refine e_iload d_X11_isDeal_43 rfl ?_
          refine e_ishr d_X11_isDeal_45 ?_
          refine e_iconst (v := 1) d_X11_isDeal_46 (by decide) ?_
          refine e_iand d_X11_isDeal_47 ?_
          refine e_iconst (v := 1) d_X11_isDeal_48 (by decide) ?_
          by_cases hb : bt S i = true
          · refine e_icmp_ne d_X11_isDeal_49 (fun z => by first | exact absurd (fun z => z ((bit1 (by omega) (by omega)).mpr hb)) z | exact absurd z (fun z => z ((bit1 (by omega) (by omega)).mpr hb))) (fun _ => ?_)
            refine e_iconst (v := 1) d_X11_isDeal_52 (by decide) ?_
            refine e_gt d_X11_isDeal_53 ?_
            refine e_istore d_X11_isDeal_57 (by decide) rfl ?_
            refine e_iload d_X11_isDeal_59 rfl ?_
            refine e_iload d_X11_isDeal_61 rfl ?_
            refine e_if_eq d_X11_isDeal_63 (fun z => by first | exact absurd ((by decide : ¬ (1 : Int32) = 0)) z | exact absurd z ((by decide : ¬ (1 : Int32) = 0))) (fun _ => ?_)
            refine e_aloadn d_X11_isDeal_66 rfl ?_
            refine e_iload d_X11_isDeal_67 rfl ?_
            refine e_iconst (v := 1) d_X11_isDeal_69 (by decide) ?_
            refine e_callVI d_X11_isDeal_70 l_X11_isDeal_116 H_md rfl rfl (s_X11_childOf (c := i) (d := 1) H_md H_a rfl rfl (by omega)) rfl rfl (Nat.le_of_ble_eq_true rfl) ?_
            rw [hca4 i 1 c (by decide)]
            refine e_gt d_X11_isDeal_73 ?_
            refine e_iadd d_X11_isDeal_77 ?_
            refine e_istore d_X11_isDeal_78 (by decide) rfl ?_
            refine e_iload d_X11_isDeal_80 rfl ?_
            refine e_if_eq d_X11_isDeal_82 (fun z => by first | exact absurd ((by decide : ¬ (1 : Int32) = 0)) z | exact absurd z ((by decide : ¬ (1 : Int32) = 0))) (fun _ => ?_)
            refine e_iloadn d_X11_isDeal_85 rfl ?_
            refine e_iconst (v := -1) d_X11_isDeal_86 (by decide) ?_
            refine e_ixor d_X11_isDeal_87 ?_
            refine e_gt d_X11_isDeal_88 ?_
            refine e_istore d_X11_isDeal_92 (by decide) rfl ?_
            have hw2 := bs_14 (wN ca nc kd cd 17 i) hN
            have ha2 := bs_14 (wN ca nc kd cd 18 i) hN
            have g1 := sd_le (bs (wN ca nc kd cd 17 i) N) S
            have g2 := sd_le (bs (wN ca nc kd cd 18 i) N) S
            have g3 := and_l (bs (wN ca nc kd cd 17 i) N) S
            have g4 := and_l (bs (wN ca nc kd cd 18 i) N) S
            have hside : (nI (bs (wN ca nc kd cd 17 i) N) &&& (nI S ^^^ (-1)) = 0 ∧ nI (bs (wN ca nc kd cd 18 i) N) &&& ((nI S ^^^ (-1)) ^^^ (-1)) = 0) ↔ (okA ca N nc kd cd S) i = true := by
              rw [nI_nn, nI_and, nI_sdx, show (0 : Int32) = nI 0 from rfl, nI_eq (by omega) (by decide), nI_eq (by omega) (by decide)]
              simp [okA, okS, hb]
            refine e_aloadn d_X11_isDeal_94 rfl ?_
            refine e_get d_X11_isDeal_95 f_X11_82 H_md rfl ?_
            refine e_iload d_X11_isDeal_98 rfl ?_
            refine e_ialdN (k := i) d_X11_isDeal_100 H_mwi rfl (by omega) (by omega) ?_
            rw [(hwa i c).1]
            refine e_iload d_X11_isDeal_101 rfl ?_
            refine e_iand d_X11_isDeal_103 ?_
            refine e_if_ne d_X11_isDeal_104 (fun c104 => ?_) (fun c104 => ?_)
            · have hq : (okA ca N nc kd cd S) i = false := Bool.eq_false_iff.mpr (fun z => c104 (hside.mpr z).1)
              refine e_iconst (v := 0) d_X11_isDeal_126 (by decide) ?_
              refine e_istore d_X11_isDeal_127 (by decide) rfl ?_
              refine e_iincw (w := 1) d_X11_isDeal_129 rfl (by decide) (by decide) rfl ?_
              refine e_gt d_X11_isDeal_132 ?_
              refine e_drop1 8 ?_
              refine e_drop1 9 ?_
              refine ih_26 (i + 1) (by omega) (by omega) _ _ _ ?_ ?_ ?_
              · rw [allN, hq]; first | (rw [Bool.and_true, bI_t hgt]; done) | exact (bI_f (by simp)).symm
              · rw [wS]; first | (rw [if_pos hb, nI_add]; done) | (rw [if_neg hb]; exact nI_p0 _)
              · exact nI_1 i
            · refine e_aloadn d_X11_isDeal_107 rfl ?_
              refine e_get d_X11_isDeal_108 f_X11_85 H_md rfl ?_
              refine e_iload d_X11_isDeal_111 rfl ?_
              refine e_ialdN (k := i) d_X11_isDeal_113 H_mwo rfl (by omega) (by omega) ?_
              rw [(hwa i c).2]
              refine e_iload d_X11_isDeal_114 rfl ?_
              refine e_iconst (v := -1) d_X11_isDeal_116 (by decide) ?_
              refine e_ixor d_X11_isDeal_117 ?_
              refine e_iand d_X11_isDeal_118 ?_
              refine e_if_ne d_X11_isDeal_119 (fun c119 => ?_) (fun c119 => ?_)
              · have hq : (okA ca N nc kd cd S) i = false := Bool.eq_false_iff.mpr (fun z => c119 (hside.mpr z).2)
                refine e_iconst (v := 0) d_X11_isDeal_126 (by decide) ?_
                refine e_istore d_X11_isDeal_127 (by decide) rfl ?_
                refine e_iincw (w := 1) d_X11_isDeal_129 rfl (by decide) (by decide) rfl ?_
                refine e_gt d_X11_isDeal_132 ?_
                refine e_drop1 8 ?_
                refine e_drop1 9 ?_
                refine ih_26 (i + 1) (by omega) (by omega) _ _ _ ?_ ?_ ?_
                · rw [allN, hq]; first | (rw [Bool.and_true, bI_t hgt]; done) | exact (bI_f (by simp)).symm
                · rw [wS]; first | (rw [if_pos hb, nI_add]; done) | (rw [if_neg hb]; exact nI_p0 _)
                · exact nI_1 i
              · have hq : (okA ca N nc kd cd S) i = true := hside.mp ⟨c104, c119⟩
                refine e_iconst (v := 1) d_X11_isDeal_122 (by decide) ?_
                refine e_gt d_X11_isDeal_123 ?_
                refine e_istore d_X11_isDeal_127 (by decide) rfl ?_
                refine e_iincw (w := 1) d_X11_isDeal_129 rfl (by decide) (by decide) rfl ?_
                refine e_gt d_X11_isDeal_132 ?_
                refine e_drop1 8 ?_
                refine e_drop1 9 ?_
                refine ih_26 (i + 1) (by omega) (by omega) _ _ _ ?_ ?_ ?_
                · rw [allN, hq]; first | (rw [Bool.and_true, bI_t hgt]; done) | exact (bI_f (by simp)).symm
                · rw [wS]; first | (rw [if_pos hb, nI_add]; done) | (rw [if_neg hb]; exact nI_p0 _)
                · exact nI_1 i
          · refine e_icmp_ne d_X11_isDeal_49 (fun _ => ?_) (fun z => by first | exact absurd (fun z => hb ((bit1 (by omega) (by omega)).mp z)) z | exact absurd z (fun z => hb ((bit1 (by omega) (by omega)).mp z)))
            refine e_iconst (v := 0) d_X11_isDeal_56 (by decide) ?_
            refine e_istore d_X11_isDeal_57 (by decide) rfl ?_
            refine e_iload d_X11_isDeal_59 rfl ?_
            refine e_iload d_X11_isDeal_61 rfl ?_
            refine e_if_eq d_X11_isDeal_63 (fun _ => ?_) (fun z => by first | exact absurd ((rfl : (0 : Int32) = 0)) z | exact absurd z ((rfl : (0 : Int32) = 0)))
            refine e_iconst (v := 0) d_X11_isDeal_76 (by decide) ?_
            refine e_iadd d_X11_isDeal_77 ?_
            refine e_istore d_X11_isDeal_78 (by decide) rfl ?_
            refine e_iload d_X11_isDeal_80 rfl ?_
            refine e_if_eq d_X11_isDeal_82 (fun _ => ?_) (fun z => by first | exact absurd ((rfl : (0 : Int32) = 0)) z | exact absurd z ((rfl : (0 : Int32) = 0)))
            refine e_iloadn d_X11_isDeal_91 rfl ?_
            refine e_istore d_X11_isDeal_92 (by decide) rfl ?_
            have hw2 := bs_14 (wN ca nc kd cd 17 i) hN
            have ha2 := bs_14 (wN ca nc kd cd 18 i) hN
            have g1 := sd_le (bs (wN ca nc kd cd 17 i) N) S
            have g2 := sd_le (bs (wN ca nc kd cd 18 i) N) S
            have g3 := and_l (bs (wN ca nc kd cd 17 i) N) S
            have g4 := and_l (bs (wN ca nc kd cd 18 i) N) S
            have hside : (nI (bs (wN ca nc kd cd 17 i) N) &&& nI S = 0 ∧ nI (bs (wN ca nc kd cd 18 i) N) &&& (nI S ^^^ (-1)) = 0) ↔ (okA ca N nc kd cd S) i = true := by
              rw [nI_and, nI_sdx, show (0 : Int32) = nI 0 from rfl, nI_eq (by omega) (by decide), nI_eq (by omega) (by decide)]
              simp [okA, okS, hb]
            refine e_aloadn d_X11_isDeal_94 rfl ?_
            refine e_get d_X11_isDeal_95 f_X11_82 H_md rfl ?_
            refine e_iload d_X11_isDeal_98 rfl ?_
            refine e_ialdN (k := i) d_X11_isDeal_100 H_mwi rfl (by omega) (by omega) ?_
            rw [(hwa i c).1]
            refine e_iload d_X11_isDeal_101 rfl ?_
            refine e_iand d_X11_isDeal_103 ?_
            refine e_if_ne d_X11_isDeal_104 (fun c104 => ?_) (fun c104 => ?_)
            · have hq : (okA ca N nc kd cd S) i = false := Bool.eq_false_iff.mpr (fun z => c104 (hside.mpr z).1)
              refine e_iconst (v := 0) d_X11_isDeal_126 (by decide) ?_
              refine e_istore d_X11_isDeal_127 (by decide) rfl ?_
              refine e_iincw (w := 1) d_X11_isDeal_129 rfl (by decide) (by decide) rfl ?_
              refine e_gt d_X11_isDeal_132 ?_
              refine e_drop1 8 ?_
              refine e_drop1 9 ?_
              refine ih_26 (i + 1) (by omega) (by omega) _ _ _ ?_ ?_ ?_
              · rw [allN, hq]; first | (rw [Bool.and_true, bI_t hgt]; done) | exact (bI_f (by simp)).symm
              · rw [wS]; first | (rw [if_pos hb, nI_add]; done) | (rw [if_neg hb]; exact nI_p0 _)
              · exact nI_1 i
            · refine e_aloadn d_X11_isDeal_107 rfl ?_
              refine e_get d_X11_isDeal_108 f_X11_85 H_md rfl ?_
              refine e_iload d_X11_isDeal_111 rfl ?_
              refine e_ialdN (k := i) d_X11_isDeal_113 H_mwo rfl (by omega) (by omega) ?_
              rw [(hwa i c).2]
              refine e_iload d_X11_isDeal_114 rfl ?_
              refine e_iconst (v := -1) d_X11_isDeal_116 (by decide) ?_
              refine e_ixor d_X11_isDeal_117 ?_
              refine e_iand d_X11_isDeal_118 ?_
              refine e_if_ne d_X11_isDeal_119 (fun c119 => ?_) (fun c119 => ?_)
              · have hq : (okA ca N nc kd cd S) i = false := Bool.eq_false_iff.mpr (fun z => c119 (hside.mpr z).2)
                refine e_iconst (v := 0) d_X11_isDeal_126 (by decide) ?_
                refine e_istore d_X11_isDeal_127 (by decide) rfl ?_
                refine e_iincw (w := 1) d_X11_isDeal_129 rfl (by decide) (by decide) rfl ?_
                refine e_gt d_X11_isDeal_132 ?_
                refine e_drop1 8 ?_
                refine e_drop1 9 ?_
                refine ih_26 (i + 1) (by omega) (by omega) _ _ _ ?_ ?_ ?_
                · rw [allN, hq]; first | (rw [Bool.and_true, bI_t hgt]; done) | exact (bI_f (by simp)).symm
                · rw [wS]; first | (rw [if_pos hb, nI_add]; done) | (rw [if_neg hb]; exact nI_p0 _)
                · exact nI_1 i
              · have hq : (okA ca N nc kd cd S) i = true := hside.mp ⟨c104, c119⟩
                refine e_iconst (v := 1) d_X11_isDeal_122 (by decide) ?_
                refine e_gt d_X11_isDeal_123 ?_
                refine e_istore d_X11_isDeal_127 (by decide) rfl ?_
                refine e_iincw (w := 1) d_X11_isDeal_129 rfl (by decide) (by decide) rfl ?_
                refine e_gt d_X11_isDeal_132 ?_
                refine e_drop1 8 ?_
                refine e_drop1 9 ?_
                refine ih_26 (i + 1) (by omega) (by omega) _ _ _ ?_ ?_ ?_
                · rw [allN, hq]; first | (rw [Bool.and_true, bI_t hgt]; done) | exact (bI_f (by simp)).symm
                · rw [wS]; first | (rw [if_pos hb, nI_add]; done) | (rw [if_neg hb]; exact nI_p0 _)
                · exact nI_1 i
        · refine e_iload d_X11_isDeal_37 rfl ?_
          refine e_if_eq d_X11_isDeal_39 (fun _ => ?_) (fun z => by first | exact absurd (bI_f hgt) z | exact absurd z (bI_f hgt))
          refine e_iload d_X11_isDeal_135 rfl ?_
          refine e_if_eq d_X11_isDeal_137 (fun _ => ?_) (fun z => by first | exact absurd (bI_f hgt) z | exact absurd z (bI_f hgt))
          refine e_iconst (v := 0) d_X11_isDeal_166 (by decide) ?_
          exact e_iret d_X11_isDeal_167 rfl (rfl) (⟨by rw [bI_f (fun z => hgt (fit_g (fit_iff.mp z).1 (Nat.le_of_lt c)))], rfl⟩)
    exact hA_26 0 (by omega) _ _ _ (by rw [hM]; rfl) (rfl) (rfl)
  · refine e_iloadn d_X11_isDeal_5 rfl ?_
    refine e_callSI d_X11_isDeal_6 l_X11_isDeal_350 (s_X11_ones hS) rfl rfl (Nat.le_of_ble_eq_true rfl) ?_
    refine e_iloadn d_X11_isDeal_9 rfl ?_
    refine e_icmp_ne d_X11_isDeal_10 (fun c10 => ?_) (fun c10 => ?_)
    · have hM : (decide (many = -1 ∨ nI (pc S 14) = many)) = false := decide_eq_false (fun z => z.elim c2 c10)
      refine e_iconst (v := 0) d_X11_isDeal_17 (by decide) ?_
      refine e_istore d_X11_isDeal_18 (by decide) rfl ?_
      refine e_iconst (v := 0) d_X11_isDeal_20 (by decide) ?_
      refine e_istore d_X11_isDeal_21 (by decide) rfl ?_
      refine e_iconst (v := 0) d_X11_isDeal_23 (by decide) ?_
      refine e_istore d_X11_isDeal_24 (by decide) rfl ?_
      have hA_26 : ∀ i, i ≤ N → ∀ (g : Int32) (w : Int32) (y : Int32), (g = bI (((decide (many = -1 ∨ nI (pc S 14) = many)) && allN (okA ca N nc kd cd S) i) = true)) → (w = nI (wS ca S i)) → (y = nI i) → E M_X11_isDeal (0, 0) (pI (bI (fitB ca N nc kd cd many near S = true)) h) 26 (h) [some (.ref 66), some (.int (nI S)), some (.int many), some (.int near), some (.int (nI (wS ca 16383 N))), some (.int g), some (.int w), some (.int y), none, none] [] := by
        refine loop_ind (n := N) ?_
        intro i hi_i ih_26 g w y h_g h_w h_y
        subst h_y
        subst h_g
        subst h_w
        refine e_iload d_X11_isDeal_26 rfl ?_
        refine e_aloadn d_X11_isDeal_28 rfl ?_
        refine e_get d_X11_isDeal_29 f_X11_7 H_md rfl ?_
        refine e_iconst (v := 0) d_X11_isDeal_32 (by decide) ?_
        refine e_ialdN (k := 0) d_X11_isDeal_33 H_a rfl (by omega) (by omega) ?_
        rw [ha0]
        refine e_icmp_ge d_X11_isDeal_34 (fun c => ?_) (fun c => ?_)
        · have c := i_le (by omega) (by omega) c
          obtain rfl : N = i := by omega
          refine e_iload d_X11_isDeal_135 rfl ?_
          refine e_if_eq d_X11_isDeal_137 (fun c137 => ?_) (fun c137 => ?_)
          · have hgN := bI_0.mp c137
            refine e_iconst (v := 0) d_X11_isDeal_166 (by decide) ?_
            exact e_iret d_X11_isDeal_167 rfl (rfl) (⟨by first | (rw [bI_f (fun z => hgN (fit_iff.mp z).1)]; done) | (rw [bI_t (fit_iff.mpr ⟨hgN, Or.inl c142⟩)]; done) | (rw [bI_t (fit_iff.mpr ⟨hgN, Or.inr hnn⟩)]; done) | rw [bI_f (fun z => (fit_iff.mp z).2.elim c142 hnn)], rfl⟩)
          · have hgN := bI_1.mp (bI_z.resolve_left c137)
            refine e_iloadn d_X11_isDeal_140 rfl ?_
            refine e_iconst (v := -1) d_X11_isDeal_141 (by decide) ?_
            refine e_icmp_eq d_X11_isDeal_142 (fun c142 => ?_) (fun c142 => ?_)
            · refine e_iconst (v := 1) d_X11_isDeal_162 (by decide) ?_
              refine e_gt d_X11_isDeal_163 ?_
              exact e_iret d_X11_isDeal_167 rfl (rfl) (⟨by first | (rw [bI_f (fun z => hgN (fit_iff.mp z).1)]; done) | (rw [bI_t (fit_iff.mpr ⟨hgN, Or.inl c142⟩)]; done) | (rw [bI_t (fit_iff.mpr ⟨hgN, Or.inr hnn⟩)]; done) | rw [bI_f (fun z => (fit_iff.mp z).2.elim c142 hnn)], rfl⟩)
            · refine e_iconst (v := 2) d_X11_isDeal_145 (by decide) ?_
              refine e_iload d_X11_isDeal_146 rfl ?_
              refine e_imul d_X11_isDeal_148 ?_
              refine e_iload d_X11_isDeal_149 rfl ?_
              refine e_isub d_X11_isDeal_151 ?_
              rw [show (2 : Int32) * nI (wS ca S N) - nI (wS ca 16383 N) = Int32.ofInt (uS ca S N) from wS_u hN]
              refine e_i2l d_X11_isDeal_152 ?_
              rw [i64_of32 (by omega) (by omega)]
              refine e_callSJ d_X11_isDeal_153 l_X11_isDeal_353 (s_X11_away (x := uS ca S N) (by omega)) rfl rfl (Nat.le_of_ble_eq_true rfl) ?_
              refine e_iloadn d_X11_isDeal_156 rfl ?_
              refine e_i2l d_X11_isDeal_157 ?_
              refine e_lcmp_gt d_X11_isDeal_158 d_X11_isDeal_159 (fun c158 => ?_) (fun c158 => ?_)
              · have hnn : ¬ nI (uS ca S N).natAbs ≤ near := by
                  rw [← le_64, nI64 (by omega)]
                  first | exact Int64.not_le.mpr c158 | exact c158
                refine e_iconst (v := 0) d_X11_isDeal_166 (by decide) ?_
                exact e_iret d_X11_isDeal_167 rfl (rfl) (⟨by first | (rw [bI_f (fun z => hgN (fit_iff.mp z).1)]; done) | (rw [bI_t (fit_iff.mpr ⟨hgN, Or.inl c142⟩)]; done) | (rw [bI_t (fit_iff.mpr ⟨hgN, Or.inr hnn⟩)]; done) | rw [bI_f (fun z => (fit_iff.mp z).2.elim c142 hnn)], rfl⟩)
              · have hnn : nI (uS ca S N).natAbs ≤ near := by
                  rw [← le_64, nI64 (by omega)]
                  first | exact c158 | exact Int64.not_lt.mp c158 | exact Decidable.of_not_not c158
                refine e_iconst (v := 1) d_X11_isDeal_162 (by decide) ?_
                refine e_gt d_X11_isDeal_163 ?_
                exact e_iret d_X11_isDeal_167 rfl (rfl) (⟨by first | (rw [bI_f (fun z => hgN (fit_iff.mp z).1)]; done) | (rw [bI_t (fit_iff.mpr ⟨hgN, Or.inl c142⟩)]; done) | (rw [bI_t (fit_iff.mpr ⟨hgN, Or.inr hnn⟩)]; done) | rw [bI_f (fun z => (fit_iff.mp z).2.elim c142 hnn)], rfl⟩)
        · have c := i_nle (by omega) (by omega) c
          by_cases hgt : ((decide (many = -1 ∨ nI (pc S 14) = many)) && allN (okA ca N nc kd cd S) i) = true
          · refine e_iload d_X11_isDeal_37 rfl ?_
            refine e_if_eq d_X11_isDeal_39 (fun z => by first | exact absurd (fun z => bI_0.mp z hgt) z | exact absurd z (fun z => bI_0.mp z hgt)) (fun _ => ?_)
            refine e_iloadn d_X11_isDeal_42 rfl ?_
            refine e_iload d_X11_isDeal_43 rfl ?_
            refine e_ishr d_X11_isDeal_45 ?_
            refine e_iconst (v := 1) d_X11_isDeal_46 (by decide) ?_
            refine e_iand d_X11_isDeal_47 ?_
            refine e_iconst (v := 1) d_X11_isDeal_48 (by decide) ?_
            by_cases hb : bt S i = true
            · refine e_icmp_ne d_X11_isDeal_49 (fun z => by first | exact absurd (fun z => z ((bit1 (by omega) (by omega)).mpr hb)) z | exact absurd z (fun z => z ((bit1 (by omega) (by omega)).mpr hb))) (fun _ => ?_)
              refine e_iconst (v := 1) d_X11_isDeal_52 (by decide) ?_
              refine e_gt d_X11_isDeal_53 ?_
              refine e_istore d_X11_isDeal_57 (by decide) rfl ?_
              refine e_iload d_X11_isDeal_59 rfl ?_
              refine e_iload d_X11_isDeal_61 rfl ?_
              refine e_if_eq d_X11_isDeal_63 (fun z => by first | exact absurd ((by decide : ¬ (1 : Int32) = 0)) z | exact absurd z ((by decide : ¬ (1 : Int32) = 0))) (fun _ => ?_)
              refine e_aloadn d_X11_isDeal_66 rfl ?_
              refine e_iload d_X11_isDeal_67 rfl ?_
              refine e_iconst (v := 1) d_X11_isDeal_69 (by decide) ?_
              refine e_callVI d_X11_isDeal_70 l_X11_isDeal_116 H_md rfl rfl (s_X11_childOf (c := i) (d := 1) H_md H_a rfl rfl (by omega)) rfl rfl (Nat.le_of_ble_eq_true rfl) ?_
              rw [hca4 i 1 c (by decide)]
              refine e_gt d_X11_isDeal_73 ?_
              refine e_iadd d_X11_isDeal_77 ?_
              refine e_istore d_X11_isDeal_78 (by decide) rfl ?_
              refine e_iload d_X11_isDeal_80 rfl ?_
              refine e_if_eq d_X11_isDeal_82 (fun z => by first | exact absurd ((by decide : ¬ (1 : Int32) = 0)) z | exact absurd z ((by decide : ¬ (1 : Int32) = 0))) (fun _ => ?_)
              refine e_iloadn d_X11_isDeal_85 rfl ?_
              refine e_iconst (v := -1) d_X11_isDeal_86 (by decide) ?_
              refine e_ixor d_X11_isDeal_87 ?_
              refine e_gt d_X11_isDeal_88 ?_
              refine e_istore d_X11_isDeal_92 (by decide) rfl ?_
              have hw2 := bs_14 (wN ca nc kd cd 17 i) hN
              have ha2 := bs_14 (wN ca nc kd cd 18 i) hN
              have g1 := sd_le (bs (wN ca nc kd cd 17 i) N) S
              have g2 := sd_le (bs (wN ca nc kd cd 18 i) N) S
              have g3 := and_l (bs (wN ca nc kd cd 17 i) N) S
              have g4 := and_l (bs (wN ca nc kd cd 18 i) N) S
              have hside : (nI (bs (wN ca nc kd cd 17 i) N) &&& (nI S ^^^ (-1)) = 0 ∧ nI (bs (wN ca nc kd cd 18 i) N) &&& ((nI S ^^^ (-1)) ^^^ (-1)) = 0) ↔ (okA ca N nc kd cd S) i = true := by
                rw [nI_nn, nI_and, nI_sdx, show (0 : Int32) = nI 0 from rfl, nI_eq (by omega) (by decide), nI_eq (by omega) (by decide)]
                simp [okA, okS, hb]
              refine e_aloadn d_X11_isDeal_94 rfl ?_
              refine e_get d_X11_isDeal_95 f_X11_82 H_md rfl ?_
              refine e_iload d_X11_isDeal_98 rfl ?_
              refine e_ialdN (k := i) d_X11_isDeal_100 H_mwi rfl (by omega) (by omega) ?_
              rw [(hwa i c).1]
              refine e_iload d_X11_isDeal_101 rfl ?_
              refine e_iand d_X11_isDeal_103 ?_
              refine e_if_ne d_X11_isDeal_104 (fun c104 => ?_) (fun c104 => ?_)
              · have hq : (okA ca N nc kd cd S) i = false := Bool.eq_false_iff.mpr (fun z => c104 (hside.mpr z).1)
                refine e_iconst (v := 0) d_X11_isDeal_126 (by decide) ?_
                refine e_istore d_X11_isDeal_127 (by decide) rfl ?_
                refine e_iincw (w := 1) d_X11_isDeal_129 rfl (by decide) (by decide) rfl ?_
                refine e_gt d_X11_isDeal_132 ?_
                refine e_drop1 8 ?_
                refine e_drop1 9 ?_
                refine ih_26 (i + 1) (by omega) (by omega) _ _ _ ?_ ?_ ?_
                · rw [allN, hq]; first | (rw [Bool.and_true, bI_t hgt]; done) | exact (bI_f (by simp)).symm
                · rw [wS]; first | (rw [if_pos hb, nI_add]; done) | (rw [if_neg hb]; exact nI_p0 _)
                · exact nI_1 i
              · refine e_aloadn d_X11_isDeal_107 rfl ?_
                refine e_get d_X11_isDeal_108 f_X11_85 H_md rfl ?_
                refine e_iload d_X11_isDeal_111 rfl ?_
                refine e_ialdN (k := i) d_X11_isDeal_113 H_mwo rfl (by omega) (by omega) ?_
                rw [(hwa i c).2]
                refine e_iload d_X11_isDeal_114 rfl ?_
                refine e_iconst (v := -1) d_X11_isDeal_116 (by decide) ?_
                refine e_ixor d_X11_isDeal_117 ?_
                refine e_iand d_X11_isDeal_118 ?_
                refine e_if_ne d_X11_isDeal_119 (fun c119 => ?_) (fun c119 => ?_)
                · have hq : (okA ca N nc kd cd S) i = false := Bool.eq_false_iff.mpr (fun z => c119 (hside.mpr z).2)
                  refine e_iconst (v := 0) d_X11_isDeal_126 (by decide) ?_
                  refine e_istore d_X11_isDeal_127 (by decide) rfl ?_
                  refine e_iincw (w := 1) d_X11_isDeal_129 rfl (by decide) (by decide) rfl ?_
                  refine e_gt d_X11_isDeal_132 ?_
                  refine e_drop1 8 ?_
                  refine e_drop1 9 ?_
                  refine ih_26 (i + 1) (by omega) (by omega) _ _ _ ?_ ?_ ?_
                  · rw [allN, hq]; first | (rw [Bool.and_true, bI_t hgt]; done) | exact (bI_f (by simp)).symm
                  · rw [wS]; first | (rw [if_pos hb, nI_add]; done) | (rw [if_neg hb]; exact nI_p0 _)
                  · exact nI_1 i
                · have hq : (okA ca N nc kd cd S) i = true := hside.mp ⟨c104, c119⟩
                  refine e_iconst (v := 1) d_X11_isDeal_122 (by decide) ?_
                  refine e_gt d_X11_isDeal_123 ?_
                  refine e_istore d_X11_isDeal_127 (by decide) rfl ?_
                  refine e_iincw (w := 1) d_X11_isDeal_129 rfl (by decide) (by decide) rfl ?_
                  refine e_gt d_X11_isDeal_132 ?_
                  refine e_drop1 8 ?_
                  refine e_drop1 9 ?_
                  refine ih_26 (i + 1) (by omega) (by omega) _ _ _ ?_ ?_ ?_
                  · rw [allN, hq]; first | (rw [Bool.and_true, bI_t hgt]; done) | exact (bI_f (by simp)).symm
                  · rw [wS]; first | (rw [if_pos hb, nI_add]; done) | (rw [if_neg hb]; exact nI_p0 _)
                  · exact nI_1 i
            · refine e_icmp_ne d_X11_isDeal_49 (fun _ => ?_) (fun z => by first | exact absurd (fun z => hb ((bit1 (by omega) (by omega)).mp z)) z | exact absurd z (fun z => hb ((bit1 (by omega) (by omega)).mp z)))
              refine e_iconst (v := 0) d_X11_isDeal_56 (by decide) ?_
              refine e_istore d_X11_isDeal_57 (by decide) rfl ?_
              refine e_iload d_X11_isDeal_59 rfl ?_
              refine e_iload d_X11_isDeal_61 rfl ?_
              refine e_if_eq d_X11_isDeal_63 (fun _ => ?_) (fun z => by first | exact absurd ((rfl : (0 : Int32) = 0)) z | exact absurd z ((rfl : (0 : Int32) = 0)))
              refine e_iconst (v := 0) d_X11_isDeal_76 (by decide) ?_
              refine e_iadd d_X11_isDeal_77 ?_
              refine e_istore d_X11_isDeal_78 (by decide) rfl ?_
              refine e_iload d_X11_isDeal_80 rfl ?_
              refine e_if_eq d_X11_isDeal_82 (fun _ => ?_) (fun z => by first | exact absurd ((rfl : (0 : Int32) = 0)) z | exact absurd z ((rfl : (0 : Int32) = 0)))
              refine e_iloadn d_X11_isDeal_91 rfl ?_
              refine e_istore d_X11_isDeal_92 (by decide) rfl ?_
              have hw2 := bs_14 (wN ca nc kd cd 17 i) hN
              have ha2 := bs_14 (wN ca nc kd cd 18 i) hN
              have g1 := sd_le (bs (wN ca nc kd cd 17 i) N) S
              have g2 := sd_le (bs (wN ca nc kd cd 18 i) N) S
              have g3 := and_l (bs (wN ca nc kd cd 17 i) N) S
              have g4 := and_l (bs (wN ca nc kd cd 18 i) N) S
              have hside : (nI (bs (wN ca nc kd cd 17 i) N) &&& nI S = 0 ∧ nI (bs (wN ca nc kd cd 18 i) N) &&& (nI S ^^^ (-1)) = 0) ↔ (okA ca N nc kd cd S) i = true := by
                rw [nI_and, nI_sdx, show (0 : Int32) = nI 0 from rfl, nI_eq (by omega) (by decide), nI_eq (by omega) (by decide)]
                simp [okA, okS, hb]
              refine e_aloadn d_X11_isDeal_94 rfl ?_
              refine e_get d_X11_isDeal_95 f_X11_82 H_md rfl ?_
              refine e_iload d_X11_isDeal_98 rfl ?_
              refine e_ialdN (k := i) d_X11_isDeal_100 H_mwi rfl (by omega) (by omega) ?_
              rw [(hwa i c).1]
              refine e_iload d_X11_isDeal_101 rfl ?_
              refine e_iand d_X11_isDeal_103 ?_
              refine e_if_ne d_X11_isDeal_104 (fun c104 => ?_) (fun c104 => ?_)
              · have hq : (okA ca N nc kd cd S) i = false := Bool.eq_false_iff.mpr (fun z => c104 (hside.mpr z).1)
                refine e_iconst (v := 0) d_X11_isDeal_126 (by decide) ?_
                refine e_istore d_X11_isDeal_127 (by decide) rfl ?_
                refine e_iincw (w := 1) d_X11_isDeal_129 rfl (by decide) (by decide) rfl ?_
                refine e_gt d_X11_isDeal_132 ?_
                refine e_drop1 8 ?_
                refine e_drop1 9 ?_
                refine ih_26 (i + 1) (by omega) (by omega) _ _ _ ?_ ?_ ?_
                · rw [allN, hq]; first | (rw [Bool.and_true, bI_t hgt]; done) | exact (bI_f (by simp)).symm
                · rw [wS]; first | (rw [if_pos hb, nI_add]; done) | (rw [if_neg hb]; exact nI_p0 _)
                · exact nI_1 i
              · refine e_aloadn d_X11_isDeal_107 rfl ?_
                refine e_get d_X11_isDeal_108 f_X11_85 H_md rfl ?_
                refine e_iload d_X11_isDeal_111 rfl ?_
                refine e_ialdN (k := i) d_X11_isDeal_113 H_mwo rfl (by omega) (by omega) ?_
                rw [(hwa i c).2]
                refine e_iload d_X11_isDeal_114 rfl ?_
                refine e_iconst (v := -1) d_X11_isDeal_116 (by decide) ?_
                refine e_ixor d_X11_isDeal_117 ?_
                refine e_iand d_X11_isDeal_118 ?_
                refine e_if_ne d_X11_isDeal_119 (fun c119 => ?_) (fun c119 => ?_)
                · have hq : (okA ca N nc kd cd S) i = false := Bool.eq_false_iff.mpr (fun z => c119 (hside.mpr z).2)
                  refine e_iconst (v := 0) d_X11_isDeal_126 (by decide) ?_
                  refine e_istore d_X11_isDeal_127 (by decide) rfl ?_
                  refine e_iincw (w := 1) d_X11_isDeal_129 rfl (by decide) (by decide) rfl ?_
                  refine e_gt d_X11_isDeal_132 ?_
                  refine e_drop1 8 ?_
                  refine e_drop1 9 ?_
                  refine ih_26 (i + 1) (by omega) (by omega) _ _ _ ?_ ?_ ?_
                  · rw [allN, hq]; first | (rw [Bool.and_true, bI_t hgt]; done) | exact (bI_f (by simp)).symm
                  · rw [wS]; first | (rw [if_pos hb, nI_add]; done) | (rw [if_neg hb]; exact nI_p0 _)
                  · exact nI_1 i
                · have hq : (okA ca N nc kd cd S) i = true := hside.mp ⟨c104, c119⟩
                  refine e_iconst (v := 1) d_X11_isDeal_122 (by decide) ?_
                  refine e_gt d_X11_isDeal_123 ?_
                  refine e_istore d_X11_isDeal_127 (by decide) rfl ?_
                  refine e_iincw (w := 1) d_X11_isDeal_129 rfl (by decide) (by decide) rfl ?_
                  refine e_gt d_X11_isDeal_132 ?_
                  refine e_drop1 8 ?_
                  refine e_drop1 9 ?_
                  refine ih_26 (i + 1) (by omega) (by omega) _ _ _ ?_ ?_ ?_
                  · rw [allN, hq]; first | (rw [Bool.and_true, bI_t hgt]; done) | exact (bI_f (by simp)).symm
                  · rw [wS]; first | (rw [if_pos hb, nI_add]; done) | (rw [if_neg hb]; exact nI_p0 _)
                  · exact nI_1 i
          · refine e_iload d_X11_isDeal_37 rfl ?_
            refine e_if_eq d_X11_isDeal_39 (fun _ => ?_) (fun z => by first | exact absurd (bI_f hgt) z | exact absurd z (bI_f hgt))
            refine e_iload d_X11_isDeal_135 rfl ?_
            refine e_if_eq d_X11_isDeal_137 (fun _ => ?_) (fun z => by first | exact absurd (bI_f hgt) z | exact absurd z (bI_f hgt))
            refine e_iconst (v := 0) d_X11_isDeal_166 (by decide) ?_
            exact e_iret d_X11_isDeal_167 rfl (rfl) (⟨by rw [bI_f (fun z => hgt (fit_g (fit_iff.mp z).1 (Nat.le_of_lt c)))], rfl⟩)
      exact hA_26 0 (by omega) _ _ _ (by rw [hM]; rfl) (rfl) (rfl)
    · have hM : (decide (many = -1 ∨ nI (pc S 14) = many)) = true := decide_eq_true (Or.inr c10)
      refine e_iconst (v := 1) d_X11_isDeal_13 (by decide) ?_
      refine e_gt d_X11_isDeal_14 ?_
      refine e_istore d_X11_isDeal_18 (by decide) rfl ?_
      refine e_iconst (v := 0) d_X11_isDeal_20 (by decide) ?_
      refine e_istore d_X11_isDeal_21 (by decide) rfl ?_
      refine e_iconst (v := 0) d_X11_isDeal_23 (by decide) ?_
      refine e_istore d_X11_isDeal_24 (by decide) rfl ?_
      have hA_26 : ∀ i, i ≤ N → ∀ (g : Int32) (w : Int32) (y : Int32), (g = bI (((decide (many = -1 ∨ nI (pc S 14) = many)) && allN (okA ca N nc kd cd S) i) = true)) → (w = nI (wS ca S i)) → (y = nI i) → E M_X11_isDeal (0, 0) (pI (bI (fitB ca N nc kd cd many near S = true)) h) 26 (h) [some (.ref 66), some (.int (nI S)), some (.int many), some (.int near), some (.int (nI (wS ca 16383 N))), some (.int g), some (.int w), some (.int y), none, none] [] := by
        refine loop_ind (n := N) ?_
        intro i hi_i ih_26 g w y h_g h_w h_y
        subst h_y
        subst h_g
        subst h_w
        refine e_iload d_X11_isDeal_26 rfl ?_
        refine e_aloadn d_X11_isDeal_28 rfl ?_
        refine e_get d_X11_isDeal_29 f_X11_7 H_md rfl ?_
        refine e_iconst (v := 0) d_X11_isDeal_32 (by decide) ?_
        refine e_ialdN (k := 0) d_X11_isDeal_33 H_a rfl (by omega) (by omega) ?_
        rw [ha0]
        refine e_icmp_ge d_X11_isDeal_34 (fun c => ?_) (fun c => ?_)
        · have c := i_le (by omega) (by omega) c
          obtain rfl : N = i := by omega
          refine e_iload d_X11_isDeal_135 rfl ?_
          refine e_if_eq d_X11_isDeal_137 (fun c137 => ?_) (fun c137 => ?_)
          · have hgN := bI_0.mp c137
            refine e_iconst (v := 0) d_X11_isDeal_166 (by decide) ?_
            exact e_iret d_X11_isDeal_167 rfl (rfl) (⟨by first | (rw [bI_f (fun z => hgN (fit_iff.mp z).1)]; done) | (rw [bI_t (fit_iff.mpr ⟨hgN, Or.inl c142⟩)]; done) | (rw [bI_t (fit_iff.mpr ⟨hgN, Or.inr hnn⟩)]; done) | rw [bI_f (fun z => (fit_iff.mp z).2.elim c142 hnn)], rfl⟩)
          · have hgN := bI_1.mp (bI_z.resolve_left c137)
            refine e_iloadn d_X11_isDeal_140 rfl ?_
            refine e_iconst (v := -1) d_X11_isDeal_141 (by decide) ?_
            refine e_icmp_eq d_X11_isDeal_142 (fun c142 => ?_) (fun c142 => ?_)
            · refine e_iconst (v := 1) d_X11_isDeal_162 (by decide) ?_
              refine e_gt d_X11_isDeal_163 ?_
              exact e_iret d_X11_isDeal_167 rfl (rfl) (⟨by first | (rw [bI_f (fun z => hgN (fit_iff.mp z).1)]; done) | (rw [bI_t (fit_iff.mpr ⟨hgN, Or.inl c142⟩)]; done) | (rw [bI_t (fit_iff.mpr ⟨hgN, Or.inr hnn⟩)]; done) | rw [bI_f (fun z => (fit_iff.mp z).2.elim c142 hnn)], rfl⟩)
            · refine e_iconst (v := 2) d_X11_isDeal_145 (by decide) ?_
              refine e_iload d_X11_isDeal_146 rfl ?_
              refine e_imul d_X11_isDeal_148 ?_
              refine e_iload d_X11_isDeal_149 rfl ?_
              refine e_isub d_X11_isDeal_151 ?_
              rw [show (2 : Int32) * nI (wS ca S N) - nI (wS ca 16383 N) = Int32.ofInt (uS ca S N) from wS_u hN]
              refine e_i2l d_X11_isDeal_152 ?_
              rw [i64_of32 (by omega) (by omega)]
              refine e_callSJ d_X11_isDeal_153 l_X11_isDeal_353 (s_X11_away (x := uS ca S N) (by omega)) rfl rfl (Nat.le_of_ble_eq_true rfl) ?_
              refine e_iloadn d_X11_isDeal_156 rfl ?_
              refine e_i2l d_X11_isDeal_157 ?_
              refine e_lcmp_gt d_X11_isDeal_158 d_X11_isDeal_159 (fun c158 => ?_) (fun c158 => ?_)
              · have hnn : ¬ nI (uS ca S N).natAbs ≤ near := by
                  rw [← le_64, nI64 (by omega)]
                  first | exact Int64.not_le.mpr c158 | exact c158
                refine e_iconst (v := 0) d_X11_isDeal_166 (by decide) ?_
                exact e_iret d_X11_isDeal_167 rfl (rfl) (⟨by first | (rw [bI_f (fun z => hgN (fit_iff.mp z).1)]; done) | (rw [bI_t (fit_iff.mpr ⟨hgN, Or.inl c142⟩)]; done) | (rw [bI_t (fit_iff.mpr ⟨hgN, Or.inr hnn⟩)]; done) | rw [bI_f (fun z => (fit_iff.mp z).2.elim c142 hnn)], rfl⟩)
              · have hnn : nI (uS ca S N).natAbs ≤ near := by
                  rw [← le_64, nI64 (by omega)]
                  first | exact c158 | exact Int64.not_lt.mp c158 | exact Decidable.of_not_not c158
                refine e_iconst (v := 1) d_X11_isDeal_162 (by decide) ?_
                refine e_gt d_X11_isDeal_163 ?_
                exact e_iret d_X11_isDeal_167 rfl (rfl) (⟨by first | (rw [bI_f (fun z => hgN (fit_iff.mp z).1)]; done) | (rw [bI_t (fit_iff.mpr ⟨hgN, Or.inl c142⟩)]; done) | (rw [bI_t (fit_iff.mpr ⟨hgN, Or.inr hnn⟩)]; done) | rw [bI_f (fun z => (fit_iff.mp z).2.elim c142 hnn)], rfl⟩)
        · have c := i_nle (by omega) (by omega) c
          by_cases hgt : ((decide (many = -1 ∨ nI (pc S 14) = many)) && allN (okA ca N nc kd cd S) i) = true
          · refine e_iload d_X11_isDeal_37 rfl ?_
            refine e_if_eq d_X11_isDeal_39 (fun z => by first | exact absurd (fun z => bI_0.mp z hgt) z | exact absurd z (fun z => bI_0.mp z hgt)) (fun _ => ?_)
            refine e_iloadn d_X11_isDeal_42 rfl ?_
            refine e_iload d_X11_isDeal_43 rfl ?_
            refine e_ishr d_X11_isDeal_45 ?_
            refine e_iconst (v := 1) d_X11_isDeal_46 (by decide) ?_
            refine e_iand d_X11_isDeal_47 ?_
            refine e_iconst (v := 1) d_X11_isDeal_48 (by decide) ?_
            by_cases hb : bt S i = true
            · refine e_icmp_ne d_X11_isDeal_49 (fun z => by first | exact absurd (fun z => z ((bit1 (by omega) (by omega)).mpr hb)) z | exact absurd z (fun z => z ((bit1 (by omega) (by omega)).mpr hb))) (fun _ => ?_)
              refine e_iconst (v := 1) d_X11_isDeal_52 (by decide) ?_
              refine e_gt d_X11_isDeal_53 ?_
              refine e_istore d_X11_isDeal_57 (by decide) rfl ?_
              refine e_iload d_X11_isDeal_59 rfl ?_
              refine e_iload d_X11_isDeal_61 rfl ?_
              refine e_if_eq d_X11_isDeal_63 (fun z => by first | exact absurd ((by decide : ¬ (1 : Int32) = 0)) z | exact absurd z ((by decide : ¬ (1 : Int32) = 0))) (fun _ => ?_)
              refine e_aloadn d_X11_isDeal_66 rfl ?_
              refine e_iload d_X11_isDeal_67 rfl ?_
              refine e_iconst (v := 1) d_X11_isDeal_69 (by decide) ?_
              refine e_callVI d_X11_isDeal_70 l_X11_isDeal_116 H_md rfl rfl (s_X11_childOf (c := i) (d := 1) H_md H_a rfl rfl (by omega)) rfl rfl (Nat.le_of_ble_eq_true rfl) ?_
              rw [hca4 i 1 c (by decide)]
              refine e_gt d_X11_isDeal_73 ?_
              refine e_iadd d_X11_isDeal_77 ?_
              refine e_istore d_X11_isDeal_78 (by decide) rfl ?_
              refine e_iload d_X11_isDeal_80 rfl ?_
              refine e_if_eq d_X11_isDeal_82 (fun z => by first | exact absurd ((by decide : ¬ (1 : Int32) = 0)) z | exact absurd z ((by decide : ¬ (1 : Int32) = 0))) (fun _ => ?_)
              refine e_iloadn d_X11_isDeal_85 rfl ?_
              refine e_iconst (v := -1) d_X11_isDeal_86 (by decide) ?_
              refine e_ixor d_X11_isDeal_87 ?_
              refine e_gt d_X11_isDeal_88 ?_
              refine e_istore d_X11_isDeal_92 (by decide) rfl ?_
              have hw2 := bs_14 (wN ca nc kd cd 17 i) hN
              have ha2 := bs_14 (wN ca nc kd cd 18 i) hN
              have g1 := sd_le (bs (wN ca nc kd cd 17 i) N) S
              have g2 := sd_le (bs (wN ca nc kd cd 18 i) N) S
              have g3 := and_l (bs (wN ca nc kd cd 17 i) N) S
              have g4 := and_l (bs (wN ca nc kd cd 18 i) N) S
              have hside : (nI (bs (wN ca nc kd cd 17 i) N) &&& (nI S ^^^ (-1)) = 0 ∧ nI (bs (wN ca nc kd cd 18 i) N) &&& ((nI S ^^^ (-1)) ^^^ (-1)) = 0) ↔ (okA ca N nc kd cd S) i = true := by
                rw [nI_nn, nI_and, nI_sdx, show (0 : Int32) = nI 0 from rfl, nI_eq (by omega) (by decide), nI_eq (by omega) (by decide)]
                simp [okA, okS, hb]
              refine e_aloadn d_X11_isDeal_94 rfl ?_
              refine e_get d_X11_isDeal_95 f_X11_82 H_md rfl ?_
              refine e_iload d_X11_isDeal_98 rfl ?_
              refine e_ialdN (k := i) d_X11_isDeal_100 H_mwi rfl (by omega) (by omega) ?_
              rw [(hwa i c).1]
              refine e_iload d_X11_isDeal_101 rfl ?_
              refine e_iand d_X11_isDeal_103 ?_
              refine e_if_ne d_X11_isDeal_104 (fun c104 => ?_) (fun c104 => ?_)
              · have hq : (okA ca N nc kd cd S) i = false := Bool.eq_false_iff.mpr (fun z => c104 (hside.mpr z).1)
                refine e_iconst (v := 0) d_X11_isDeal_126 (by decide) ?_
                refine e_istore d_X11_isDeal_127 (by decide) rfl ?_
                refine e_iincw (w := 1) d_X11_isDeal_129 rfl (by decide) (by decide) rfl ?_
                refine e_gt d_X11_isDeal_132 ?_
                refine e_drop1 8 ?_
                refine e_drop1 9 ?_
                refine ih_26 (i + 1) (by omega) (by omega) _ _ _ ?_ ?_ ?_
                · rw [allN, hq]; first | (rw [Bool.and_true, bI_t hgt]; done) | exact (bI_f (by simp)).symm
                · rw [wS]; first | (rw [if_pos hb, nI_add]; done) | (rw [if_neg hb]; exact nI_p0 _)
                · exact nI_1 i
              · refine e_aloadn d_X11_isDeal_107 rfl ?_
                refine e_get d_X11_isDeal_108 f_X11_85 H_md rfl ?_
                refine e_iload d_X11_isDeal_111 rfl ?_
                refine e_ialdN (k := i) d_X11_isDeal_113 H_mwo rfl (by omega) (by omega) ?_
                rw [(hwa i c).2]
                refine e_iload d_X11_isDeal_114 rfl ?_
                refine e_iconst (v := -1) d_X11_isDeal_116 (by decide) ?_
                refine e_ixor d_X11_isDeal_117 ?_
                refine e_iand d_X11_isDeal_118 ?_
                refine e_if_ne d_X11_isDeal_119 (fun c119 => ?_) (fun c119 => ?_)
                · have hq : (okA ca N nc kd cd S) i = false := Bool.eq_false_iff.mpr (fun z => c119 (hside.mpr z).2)
                  refine e_iconst (v := 0) d_X11_isDeal_126 (by decide) ?_
                  refine e_istore d_X11_isDeal_127 (by decide) rfl ?_
                  refine e_iincw (w := 1) d_X11_isDeal_129 rfl (by decide) (by decide) rfl ?_
                  refine e_gt d_X11_isDeal_132 ?_
                  refine e_drop1 8 ?_
                  refine e_drop1 9 ?_
                  refine ih_26 (i + 1) (by omega) (by omega) _ _ _ ?_ ?_ ?_
                  · rw [allN, hq]; first | (rw [Bool.and_true, bI_t hgt]; done) | exact (bI_f (by simp)).symm
                  · rw [wS]; first | (rw [if_pos hb, nI_add]; done) | (rw [if_neg hb]; exact nI_p0 _)
                  · exact nI_1 i
                · have hq : (okA ca N nc kd cd S) i = true := hside.mp ⟨c104, c119⟩
                  refine e_iconst (v := 1) d_X11_isDeal_122 (by decide) ?_
                  refine e_gt d_X11_isDeal_123 ?_
                  refine e_istore d_X11_isDeal_127 (by decide) rfl ?_
                  refine e_iincw (w := 1) d_X11_isDeal_129 rfl (by decide) (by decide) rfl ?_
                  refine e_gt d_X11_isDeal_132 ?_
                  refine e_drop1 8 ?_
                  refine e_drop1 9 ?_
                  refine ih_26 (i + 1) (by omega) (by omega) _ _ _ ?_ ?_ ?_
                  · rw [allN, hq]; first | (rw [Bool.and_true, bI_t hgt]; done) | exact (bI_f (by simp)).symm
                  · rw [wS]; first | (rw [if_pos hb, nI_add]; done) | (rw [if_neg hb]; exact nI_p0 _)
                  · exact nI_1 i
            · refine e_icmp_ne d_X11_isDeal_49 (fun _ => ?_) (fun z => by first | exact absurd (fun z => hb ((bit1 (by omega) (by omega)).mp z)) z | exact absurd z (fun z => hb ((bit1 (by omega) (by omega)).mp z)))
              refine e_iconst (v := 0) d_X11_isDeal_56 (by decide) ?_
              refine e_istore d_X11_isDeal_57 (by decide) rfl ?_
              refine e_iload d_X11_isDeal_59 rfl ?_
              refine e_iload d_X11_isDeal_61 rfl ?_
              refine e_if_eq d_X11_isDeal_63 (fun _ => ?_) (fun z => by first | exact absurd ((rfl : (0 : Int32) = 0)) z | exact absurd z ((rfl : (0 : Int32) = 0)))
              refine e_iconst (v := 0) d_X11_isDeal_76 (by decide) ?_
              refine e_iadd d_X11_isDeal_77 ?_
              refine e_istore d_X11_isDeal_78 (by decide) rfl ?_
              refine e_iload d_X11_isDeal_80 rfl ?_
              refine e_if_eq d_X11_isDeal_82 (fun _ => ?_) (fun z => by first | exact absurd ((rfl : (0 : Int32) = 0)) z | exact absurd z ((rfl : (0 : Int32) = 0)))
              refine e_iloadn d_X11_isDeal_91 rfl ?_
              refine e_istore d_X11_isDeal_92 (by decide) rfl ?_
              have hw2 := bs_14 (wN ca nc kd cd 17 i) hN
              have ha2 := bs_14 (wN ca nc kd cd 18 i) hN
              have g1 := sd_le (bs (wN ca nc kd cd 17 i) N) S
              have g2 := sd_le (bs (wN ca nc kd cd 18 i) N) S
              have g3 := and_l (bs (wN ca nc kd cd 17 i) N) S
              have g4 := and_l (bs (wN ca nc kd cd 18 i) N) S
              have hside : (nI (bs (wN ca nc kd cd 17 i) N) &&& nI S = 0 ∧ nI (bs (wN ca nc kd cd 18 i) N) &&& (nI S ^^^ (-1)) = 0) ↔ (okA ca N nc kd cd S) i = true := by
                rw [nI_and, nI_sdx, show (0 : Int32) = nI 0 from rfl, nI_eq (by omega) (by decide), nI_eq (by omega) (by decide)]
                simp [okA, okS, hb]
              refine e_aloadn d_X11_isDeal_94 rfl ?_
              refine e_get d_X11_isDeal_95 f_X11_82 H_md rfl ?_
              refine e_iload d_X11_isDeal_98 rfl ?_
              refine e_ialdN (k := i) d_X11_isDeal_100 H_mwi rfl (by omega) (by omega) ?_
              rw [(hwa i c).1]
              refine e_iload d_X11_isDeal_101 rfl ?_
              refine e_iand d_X11_isDeal_103 ?_
              refine e_if_ne d_X11_isDeal_104 (fun c104 => ?_) (fun c104 => ?_)
              · have hq : (okA ca N nc kd cd S) i = false := Bool.eq_false_iff.mpr (fun z => c104 (hside.mpr z).1)
                refine e_iconst (v := 0) d_X11_isDeal_126 (by decide) ?_
                refine e_istore d_X11_isDeal_127 (by decide) rfl ?_
                refine e_iincw (w := 1) d_X11_isDeal_129 rfl (by decide) (by decide) rfl ?_
                refine e_gt d_X11_isDeal_132 ?_
                refine e_drop1 8 ?_
                refine e_drop1 9 ?_
                refine ih_26 (i + 1) (by omega) (by omega) _ _ _ ?_ ?_ ?_
                · rw [allN, hq]; first | (rw [Bool.and_true, bI_t hgt]; done) | exact (bI_f (by simp)).symm
                · rw [wS]; first | (rw [if_pos hb, nI_add]; done) | (rw [if_neg hb]; exact nI_p0 _)
                · exact nI_1 i
              · refine e_aloadn d_X11_isDeal_107 rfl ?_
                refine e_get d_X11_isDeal_108 f_X11_85 H_md rfl ?_
                refine e_iload d_X11_isDeal_111 rfl ?_
                refine e_ialdN (k := i) d_X11_isDeal_113 H_mwo rfl (by omega) (by omega) ?_
                rw [(hwa i c).2]
                refine e_iload d_X11_isDeal_114 rfl ?_
                refine e_iconst (v := -1) d_X11_isDeal_116 (by decide) ?_
                refine e_ixor d_X11_isDeal_117 ?_
                refine e_iand d_X11_isDeal_118 ?_
                refine e_if_ne d_X11_isDeal_119 (fun c119 => ?_) (fun c119 => ?_)
                · have hq : (okA ca N nc kd cd S) i = false := Bool.eq_false_iff.mpr (fun z => c119 (hside.mpr z).2)
                  refine e_iconst (v := 0) d_X11_isDeal_126 (by decide) ?_
                  refine e_istore d_X11_isDeal_127 (by decide) rfl ?_
                  refine e_iincw (w := 1) d_X11_isDeal_129 rfl (by decide) (by decide) rfl ?_
                  refine e_gt d_X11_isDeal_132 ?_
                  refine e_drop1 8 ?_
                  refine e_drop1 9 ?_
                  refine ih_26 (i + 1) (by omega) (by omega) _ _ _ ?_ ?_ ?_
                  · rw [allN, hq]; first | (rw [Bool.and_true, bI_t hgt]; done) | exact (bI_f (by simp)).symm
                  · rw [wS]; first | (rw [if_pos hb, nI_add]; done) | (rw [if_neg hb]; exact nI_p0 _)
                  · exact nI_1 i
                · have hq : (okA ca N nc kd cd S) i = true := hside.mp ⟨c104, c119⟩
                  refine e_iconst (v := 1) d_X11_isDeal_122 (by decide) ?_
                  refine e_gt d_X11_isDeal_123 ?_
                  refine e_istore d_X11_isDeal_127 (by decide) rfl ?_
                  refine e_iincw (w := 1) d_X11_isDeal_129 rfl (by decide) (by decide) rfl ?_
                  refine e_gt d_X11_isDeal_132 ?_
                  refine e_drop1 8 ?_
                  refine e_drop1 9 ?_
                  refine ih_26 (i + 1) (by omega) (by omega) _ _ _ ?_ ?_ ?_
                  · rw [allN, hq]; first | (rw [Bool.and_true, bI_t hgt]; done) | exact (bI_f (by simp)).symm
                  · rw [wS]; first | (rw [if_pos hb, nI_add]; done) | (rw [if_neg hb]; exact nI_p0 _)
                  · exact nI_1 i
          · refine e_iload d_X11_isDeal_37 rfl ?_
            refine e_if_eq d_X11_isDeal_39 (fun _ => ?_) (fun z => by first | exact absurd (bI_f hgt) z | exact absurd z (bI_f hgt))
            refine e_iload d_X11_isDeal_135 rfl ?_
            refine e_if_eq d_X11_isDeal_137 (fun _ => ?_) (fun z => by first | exact absurd (bI_f hgt) z | exact absurd z (bI_f hgt))
            refine e_iconst (v := 0) d_X11_isDeal_166 (by decide) ?_
            exact e_iret d_X11_isDeal_167 rfl (rfl) (⟨by rw [bI_f (fun z => hgt (fit_g (fit_iff.mp z).1 (Nat.le_of_lt c)))], rfl⟩)
      exact hA_26 0 (by omega) _ _ _ (by rw [hM]; rfl) (rfl) (rfl)
