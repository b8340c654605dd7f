/-! THE MODEL: D, AS FAR; both sides' sums are one -/
theorem sm_14 {f : Nat → Nat} {N : Nat} (hN : N ≤ 14) (h : ∀ c, N ≤ c → c < 14 → f c = 0) : sm f 14 = sm f N := by
  have e := sm_split f N (14 - N)
  rw [show N + (14 - N) = 14 by omega] at e
  rw [e, sm_zero (fun k hk => h (N + k) (by omega) (by omega)), Nat.add_zero]
/-- what the model has of a THING's ANSWERS is what the class counts by A -/
def mAn (a ans less : Nat → Int32) (N T A : Nat) (s : Int32) : Prop := (∀ c, c < 14 → bt A c = true → c < N) ∧ (∀ c, c < N → mF a T s c = cF ans T A c ∧ (cF ans T A c = true → a (150 + 14 * T + c) = ans (T * 14 + c))) ∧ a (100 + 4 * T + 2) = less T ∧ (less T = 0 ∨ less T = 1)
theorem cF_out {ans : Nat → Int32} {N T A c : Nat} (h : ∀ c, c < 14 → bt A c = true → c < N) (hc : N ≤ c) (hc2 : c < 14) : cF ans T A c = false := by
  have : bt A c = false := by
    cases e : bt A c
    · rfl
    · exact absurd (h c hc2 e) (by omega)
  simp [cF, this]
theorem mR_N {a ans less : Nat → Int32} {N T A S : Nat} {s : Int32} (hN : N ≤ 14) (R : mAn a ans less N T A s) : dN (mF a T s) S N = dN (cF ans T A) S 14 := by
  rw [show dN (cF ans T A) S 14 = dN (cF ans T A) S N from sm_14 hN (fun c h1 h2 => by rw [cF_out R.1 h1 h2]; rfl)]
  exact sm_cong (fun c hc => by rw [(R.2.1 c hc).1])
theorem mR_M {a ans less : Nat → Int32} {N T A S : Nat} {s : Int32} (hN : N ≤ 14) (R : mAn a ans less N T A s) : dM (mF a T s) S N = dM (cF ans T A) S 14 := by
  rw [show dM (cF ans T A) S 14 = dM (cF ans T A) S N from sm_14 hN (fun c h1 h2 => by rw [cF_out R.1 h1 h2]; rfl)]
  exact sm_cong (fun c hc => by rw [(R.2.1 c hc).1])
theorem mR_S {a ans less : Nat → Int32} {N T A S : Nat} {s : Int32} (hN : N ≤ 14) (hV : ∀ c, c < 14 → ans (T * 14 + c) = -1 ∨ ∃ v, v ≤ 99 ∧ ans (T * 14 + c) = nI v) (R : mAn a ans less N T A s) :
    (less T = 0 → dS (mF a T s) (mV a T) S N = dS (cF ans T A) (cV ans less T) S 14 ∧ dR (mF a T s) (mV a T) S N = dR (cF ans T A) (cV ans less T) S 14) ∧
    (less T = 1 → dS (mF a T s) (mV a T) S N + dS (cF ans T A) (cV ans less T) S 14 = 99 * dN (cF ans T A) S 14 ∧ dR (mF a T s) (mV a T) S N + dR (cF ans T A) (cV ans less T) S 14 = 99 * dM (cF ans T A) S 14) := by
  have e1 : dS (cF ans T A) (cV ans less T) S 14 = dS (cF ans T A) (cV ans less T) S N := sm_14 hN (fun c h1 h2 => by rw [cF_out R.1 h1 h2]; rfl)
  have e2 : dR (cF ans T A) (cV ans less T) S 14 = dR (cF ans T A) (cV ans less T) S N := sm_14 hN (fun c h1 h2 => by rw [cF_out R.1 h1 h2]; rfl)
  have e3 : dN (cF ans T A) S 14 = dN (cF ans T A) S N := sm_14 hN (fun c h1 h2 => by rw [cF_out R.1 h1 h2]; rfl)
  have e4 : dM (cF ans T A) S 14 = dM (cF ans T A) S N := sm_14 hN (fun c h1 h2 => by rw [cF_out R.1 h1 h2]; rfl)
  have hv : ∀ c, c < N → cF ans T A c = true → ∃ v, v ≤ 99 ∧ mV a T c = v ∧ (less T = 0 → cV ans less T c = v) ∧ (less T = 1 → cV ans less T c = 99 - v) := by
    intro c hc hF
    have h1 : ans (T * 14 + c) ≠ -1 := by simp only [cF, Bool.and_eq_true, decide_eq_true_eq] at hF; exact hF.1
    rcases hV c (by omega) with e | ⟨v, hv, e⟩
    · exact absurd e h1
    · refine ⟨v, hv, by rw [mV, (R.2.1 c hc).2 hF, e, clamp99 hv], fun h => by rw [cV, if_pos h, e, clamp99 hv], fun h => by rw [cV, if_neg (by rw [h]; decide), e, clamp99 hv]⟩
  refine ⟨fun h0 => ⟨?_, ?_⟩, fun h1 => ⟨?_, ?_⟩⟩
  · rw [e1]
    refine sm_cong (fun c hc => ?_)
    rw [(R.2.1 c hc).1]
    cases hF : cF ans T A c
    · rfl
    · obtain ⟨v, -, h2, h3, -⟩ := hv c hc hF
      rw [h2, h3 h0]
  · rw [e2]
    refine sm_cong (fun c hc => ?_)
    rw [(R.2.1 c hc).1]
    cases hF : cF ans T A c
    · rfl
    · obtain ⟨v, -, h2, h3, -⟩ := hv c hc hF
      rw [h2, h3 h0]
  · rw [e1, e3]
    simp only [dS, dN]
    rw [← sm_add, ← sm_mul]
    refine sm_cong (fun c hc => ?_)
    rw [(R.2.1 c hc).1]
    cases hF : cF ans T A c
    · simp
    · obtain ⟨v, h9, h2, -, h3⟩ := hv c hc hF
      rw [h2, h3 h1]
      cases bt S c
      · simp
      · simp; omega
  · rw [e2, e4]
    simp only [dR, dM]
    rw [← sm_add, ← sm_mul]
    refine sm_cong (fun c hc => ?_)
    rw [(R.2.1 c hc).1]
    cases hF : cF ans T A c
    · simp
    · obtain ⟨v, h9, h2, -, h3⟩ := hv c hc hF
      rw [h2, h3 h1]
      cases bt S c
      · simp; omega
      · simp
theorem mR_U {a ans less : Nat → Int32} {N T A S : Nat} {s : Int32} (hN : N ≤ 14) (hV : ∀ c, c < 14 → ans (T * 14 + c) = -1 ∨ ∃ v, v ≤ 99 ∧ ans (T * 14 + c) = nI v) (R : mAn a ans less N T A s) :
    (if a (100 + 4 * T + 2) = 1 then -dU (mF a T s) (mV a T) S N else dU (mF a T s) (mV a T) S N) = dU (cF ans T A) (cV ans less T) S 14 := by
  have h := mR_S (S := S) hN hV R
  rw [R.2.2.1]
  simp only [dU]
  rw [mR_N hN R, mR_M hN R]
  rcases R.2.2.2 with e | e
  · rw [if_neg (by rw [e]; decide), (h.1 e).1, (h.1 e).2]
  · rw [if_pos e]
    obtain ⟨h1, h2⟩ := h.2 e
    generalize dS (mF a T s) (mV a T) S N = s1 at *
    generalize dR (mF a T s) (mV a T) S N = r1 at *
    generalize dS (cF ans T A) (cV ans less T) S 14 = s2 at *
    generalize dR (cF ans T A) (cV ans less T) S 14 = r2 at *
    generalize dN (cF ans T A) S 14 = n at *
    generalize dM (cF ans T A) S 14 = m at *
    have g1 : (s1 : Int) = 99 * (n : Int) - (s2 : Int) := by omega
    have g2 : (r1 : Int) = 99 * (m : Int) - (r2 : Int) := by omega
    rw [Int.natCast_mul, Int.natCast_mul, Int.natCast_mul, Int.natCast_mul, g1, g2]
    grind
theorem bI_congr {P Q : Prop} [Decidable P] [Decidable Q] (h : P ↔ Q) : bI P = bI Q := by
  by_cases hp : P
  · rw [bI_t hp, bI_t (h.mp hp)]
  · rw [bI_f hp, bI_f (fun z => hp (h.mpr z))]
def MdO (h : AH) (mtp mfl mfa : Int32) : Prop := ∃ (mup mlo : Int64) (mln mat mtk mso mto mwr mwp mop mfs mws mst mnc mnk mnr mdn : Int32) (mgu mgl : Int64), Hs h 66 (oMd mtp mfl mfa mup mlo mln mat mtk mso mto mwr mwp mop mfs mws mst mnc mnk mnr mdn mgu mgl)
def FSm : List Nat := [66, 85, 86, 87, 88, 89]
/-- what a method of the model that deals leaves -/
def MdZ (h h' : AH) (mtp mfl mfa : Int32) : Prop := MdO h' mtp mfl mfa ∧ (∃ dl : Nat → Int32, Hs h' 87 (aI 16384 dl)) ∧ MdR h' ∧ Fr FSm h h'
theorem asF_iff {F : Nat → Bool} {V : Nat → Nat} {U : Int} {L S : Nat} : asF F V U L S = true ↔ 0 < dN F S 14 * dM F S 14 ∧ U * ((dN F S 14 * dM F S 14 : Nat) : Int) ≤ dU F V S 14 * (L : Int) := by
  rw [asF, decide_eq_true_eq]
  constructor
  · rintro ⟨h1, h2, h3⟩; exact ⟨Nat.mul_pos h1 h2, h3⟩
  · rintro ⟨h1, h3⟩; exact ⟨Nat.pos_of_mul_pos_right h1, Nat.pos_of_mul_pos_left h1, h3⟩

theorem s_X11_differs2 {h : AH} {N T S A : Nat} {s : Int32} {a : Nat → Int32} {ans less : Nat → Int32} {mtp mfl mfa mln mat mtk mso mto mwr mwp mop mfs mws mst mnc mnk mnr mdn : Int32} {mup mlo mgu mgl : Int64} (H_md : Hs h 66 (oMd mtp mfl mfa mup mlo mln mat mtk mso mto mwr mwp mop mfs mws mst mnc mnk mnr mdn mgu mgl)) (H_a : Hs h 67 (aI 380 a)) (ha0 : a 0 = nI N) (hN : N ≤ 14) (hT : T < 12) (hS : S < 16384) (hVm : ∀ c, c < N → a (150 + 14 * T + c) = -1 ∨ ∃ v, v ≤ 99 ∧ a (150 + 14 * T + c) = nI v) (hV : ∀ c, c < 14 → ans (T * 14 + c) = -1 ∨ ∃ v, v ≤ 99 ∧ ans (T * 14 + c) = nI v) (R : mAn a ans less N T A s) : Sp M_X11_differs (0, 0) h [.ref 66, .int (nI T), .int (nI S), .int s] (rI (fun x h' => x = bI (0 < (dN (cF ans T A) S 14 * dM (cF ans T A) S 14)) ∧ Hs h' 66 (oMd mtp mfl mfa (Int64.ofInt (dU (cF ans T A) (cV ans less T) S 14)) (Int64.ofInt (((dN (cF ans T A) S 14 * dM (cF ans T A) S 14) : Nat) : Int)) mln mat mtk mso mto mwr mwp mop mfs mws mst mnc mnk mnr mdn mgu mgl) ∧ Fr [66] h h')) :=
  (s_X11_differs H_md H_a ha0 hN hT (by omega) hVm).end (fun v h' q => by
    obtain ⟨rfl, rfl⟩ := q
    rw [mR_N hN R, mR_M hN R, mR_U hN hV R]
    exact ⟨_, rfl, bI_congr ⟨fun z => Nat.mul_pos z.1 z.2, fun z => ⟨Nat.pos_of_mul_pos_right z, Nat.pos_of_mul_pos_left z⟩⟩, H_md.s, (Fr.refl _ _).up (by decide)⟩)
theorem mul_49 {a b : Int} (ha : -4851 ≤ a ∧ a ≤ 4851) (hb : 0 ≤ b ∧ b ≤ 49) : -1000000000000000 ≤ a * b ∧ a * b ≤ 1000000000000000 := by have := mul_in ha hb; omega

theorem s_X11_asFar {h : AH} {N T S0 A : Nat} {a dl : Nat → Int32} {L : List Nat} {ans less : Nat → Int32} {mtp mfl mfa mln mat mtk mso mto mwr mwp mop mfs mws mst mnc mnk mnr : Int32} {mup mlo mgu mgl : Int64} (H_md : Hs h 66 (oMd mtp mfl mfa mup mlo mln mat mtk mso mto mwr mwp mop mfs mws mst mnc mnk mnr (nI L.length) mgu mgl)) (H_a : Hs h 67 (aI 380 a)) (ha0 : a 0 = nI N) (hN : N ≤ 14) (H_mdl : Hs h 87 (aI 16384 dl)) (hT : T < 12) (hS0 : S0 < 16384) (hVm : ∀ c, c < N → a (150 + 14 * T + c) = -1 ∨ ∃ v, v ≤ 99 ∧ a (150 + 14 * T + c) = nI v) (hV : ∀ t, t < 12 → ∀ c, c < 14 → ans (t * 14 + c) = -1 ∨ ∃ v, v ≤ 99 ∧ ans (t * 14 + c) = nI v) (R : mAn a ans less N T A 2) (hRw : RwL dl L) (hL8 : L.length ≤ 16384) (hL9 : ∀ x, x ∈ L → x < 16384) : Sp M_X11_asFar (0, 0) h [.ref 66, .int (nI T), .int (nI S0)] (rI (fun x h' => x = farC ans less A (dlF L) T S0 L.length ∧ (∃ up9 lo9 : Int64, Hs h' 66 (oMd mtp mfl mfa up9 lo9 mln mat mtk mso mto mwr mwp mop mfs mws mst mnc mnk mnr (nI L.length) mgu mgl)) ∧ Fr [66] h h')) := by
  refine ⟨Nat.le_of_ble_eq_true rfl, ?_⟩
  show E _ _ _ 0 h [some (.ref 66), some (.int (nI T)), some (.int (nI S0)), none, none, none, none, none, none] []
  have G_a := H_a
  have G_mdl := H_mdl
  refine e_aloadn d_X11_asFar_0 rfl ?_
  refine e_get d_X11_asFar_1 f_X11_343 H_md rfl ?_
  refine e_if_eq d_X11_asFar_4 (fun c4 => ?_) (fun c4 => ?_)
  · have hd0 : L.length = 0 := (nI_eq (b := 0) (by omega) (by decide)).mp c4
    refine e_iconst (v := -1) d_X11_asFar_17 (by decide) ?_
    exact e_iret d_X11_asFar_18 rfl (rfl) (⟨_, rfl, by first | (rw [farC, if_pos (Or.inr hd0)]; done) | (rw [farC, if_pos (Or.inl hl0)]; done), ⟨_, _, H_md⟩, by first | exact Fr.refl _ _ | exact fr_11⟩)
  · have hd0 : ¬ L.length = 0 := fun z => c4 (by rw [z]; rfl)
    refine e_aloadn d_X11_asFar_7 rfl ?_
    refine e_iloadn d_X11_asFar_8 rfl ?_
    refine e_iloadn d_X11_asFar_9 rfl ?_
    refine e_iconst (v := 2) d_X11_asFar_10 (by decide) ?_
    refine e_callRVI d_X11_asFar_11 l_X11_asFar_135 H_md rfl rfl (s_X11_differs2 (T := T) (S := S0) (A := A) H_md H_a ha0 hN hT hS0 (hVm) (hV T hT) R) rfl rfl (Nat.le_of_ble_eq_true rfl) (fun x_11 h_11 q_11 s_11 => ?_)
    obtain ⟨rfl, H_md, fr_11⟩ := q_11
    have H_a := fr_11.hs H_a (by first | decide | (simp; omega))
    have H_mdl := fr_11.hs H_mdl (by first | decide | (simp; omega))
    refine e_if_ne d_X11_asFar_14 (fun c14 => ?_) (fun c14 => ?_)
    · have hl0 : 0 < (dN (cF ans T A) S0 14 * dM (cF ans T A) S0 14) := bI_1.mp (bI_z.resolve_left c14)
      refine e_aloadn d_X11_asFar_19 rfl ?_
      refine e_get d_X11_asFar_20 f_X11_119 H_md rfl ?_
      refine e_lstoren d_X11_asFar_23 (by decide) rfl ?_
      refine e_aloadn d_X11_asFar_24 rfl ?_
      refine e_get d_X11_asFar_25 f_X11_126 H_md rfl ?_
      refine e_lstore d_X11_asFar_28 (by decide) rfl ?_
      refine e_iconst (v := 0) d_X11_asFar_30 (by decide) ?_
      refine e_istore d_X11_asFar_31 (by decide) rfl ?_
      refine e_iconst (v := 0) d_X11_asFar_33 (by decide) ?_
      refine e_istore d_X11_asFar_34 (by decide) rfl ?_
      have hA_36 : ∀ i, i ≤ L.length → ∀ (k : AH) (F : Unit) (M : Unit) (f : Int32) (y : Int32), (Fr [66] h k) → (∃ up9 lo9 : Int64, Hs k 66 (oMd mtp mfl mfa up9 lo9 mln mat mtk mso mto mwr mwp mop mfs mws mst mnc mnk mnr (nI L.length) mgu mgl)) → (f = nI (cnt (asF (cF ans T A) (cV ans less T) (dU (cF ans T A) (cV ans less T) S0 14) (dN (cF ans T A) S0 14 * dM (cF ans T A) S0 14)) (dlF L) i)) → (y = nI i) → E M_X11_asFar (0, 0) (rI (fun x h' => x = farC ans less A (dlF L) T S0 L.length ∧ (∃ up9 lo9 : Int64, Hs h' 66 (oMd mtp mfl mfa up9 lo9 mln mat mtk mso mto mwr mwp mop mfs mws mst mnc mnk mnr (nI L.length) mgu mgl)) ∧ Fr [66] h h')) 36 (k) [some (.ref 66), some (.int (nI T)), some (.int (nI S0)), some (.long (Int64.ofInt (dU (cF ans T A) (cV ans less T) S0 14))), none, some (.long (Int64.ofInt (((dN (cF ans T A) S0 14 * dM (cF ans T A) S0 14) : Nat) : Int))), none, some (.int f), some (.int y)] [] := by
        refine loop_ind (n := L.length) ?_
        intro i hi_i ih_36 k F M f y h_F h_M h_f h_y
        subst h_y
        obtain ⟨up9, lo9, H_md⟩ := id h_M
        have H_a := h_F.hs G_a (by decide)
        have H_mdl := h_F.hs G_mdl (by decide)
        refine e_iload d_X11_asFar_36 rfl ?_
        refine e_aloadn d_X11_asFar_38 rfl ?_
        refine e_get d_X11_asFar_39 f_X11_343 H_md rfl ?_
        refine e_icmp_ge d_X11_asFar_42 (fun c => ?_) (fun c => ?_)
        · have c := i_le (by omega) (by omega) c
          have ei : i = L.length := by omega
          refine e_iload d_X11_asFar_94 rfl ?_
          exact e_iret d_X11_asFar_96 rfl (rfl) (⟨_, rfl, by rw [h_f, ei, farC, if_neg (by omega)], ⟨up9, lo9, H_md⟩, h_F⟩)
        · have c := i_nle (by omega) (by omega) c
          refine e_iload d_X11_asFar_45 rfl ?_
          refine e_aloadn d_X11_asFar_47 rfl ?_
          refine e_iloadn d_X11_asFar_48 rfl ?_
          refine e_aloadn d_X11_asFar_49 rfl ?_
          refine e_get d_X11_asFar_50 f_X11_79 H_md rfl ?_
          refine e_iload d_X11_asFar_53 rfl ?_
          refine e_ialdN (k := i) d_X11_asFar_55 H_mdl rfl (by omega) (by omega) ?_
          have hr1 : dl i = nI (dlF L i) := hRw i _ (dlF_at c)
          have hr2 : dlF L i < 16384 := hL9 _ (List.mem_of_getElem? (dlF_at c))
          rw [hr1]
          generalize hds : dlF L i = ds at hr2
          refine e_iconst (v := 2) d_X11_asFar_56 (by decide) ?_
          refine e_callRVI d_X11_asFar_57 l_X11_asFar_135 H_md rfl rfl (s_X11_differs2 (T := T) (S := ds) (A := A) H_md H_a ha0 hN hT hr2 (hVm) (hV T hT) R) rfl rfl (Nat.le_of_ble_eq_true rfl) (fun x_57 h_57 q_57 s_57 => ?_)
          obtain ⟨rfl, H_md, fr_57⟩ := q_57
          have H_a := fr_57.hs H_a (by first | decide | (simp; omega))
          have H_mdl := fr_57.hs H_mdl (by first | decide | (simp; omega))
          refine e_if_eq d_X11_asFar_60 (fun c60 => ?_) (fun c60 => ?_)
          · have hP : (asF (cF ans T A) (cV ans less T) (dU (cF ans T A) (cV ans less T) S0 14) (dN (cF ans T A) S0 14 * dM (cF ans T A) S0 14)) (dlF L i) = false := by rw [hds]; exact Bool.eq_false_iff.mpr (fun z => bI_0.mp c60 (asF_iff.mp z).1)
            refine e_iconst (v := 0) d_X11_asFar_84 (by decide) ?_
            refine e_iadd d_X11_asFar_85 ?_
            refine e_istore d_X11_asFar_86 (by decide) rfl ?_
            refine e_iincw (w := 1) d_X11_asFar_88 rfl (by decide) (by decide) rfl ?_
            refine e_gt d_X11_asFar_91 ?_
            refine ih_36 (i + 1) (by omega) (by omega) _ () () _ _ ?_ ?_ ?_ ?_
            · exact h_F.trans fr_57
            · exact ⟨_, _, H_md⟩
            · rw [h_f, cnt, cnt, sm]
              first | (rw [if_pos hP, nI_1]; done) | (rw [if_neg (by simpa using hP)]; exact nI_p0 _)
            · exact nI_1 i
          · have hl1 : 0 < (dN (cF ans T A) ds 14 * dM (cF ans T A) ds 14) := bI_1.mp (bI_z.resolve_left c60)
            refine e_aloadn d_X11_asFar_63 rfl ?_
            refine e_get d_X11_asFar_64 f_X11_119 H_md rfl ?_
            refine e_lload d_X11_asFar_67 rfl ?_
            refine e_lmul d_X11_asFar_69 ?_
            refine e_lloadn d_X11_asFar_70 rfl ?_
            refine e_aloadn d_X11_asFar_71 rfl ?_
            refine e_get d_X11_asFar_72 f_X11_126 H_md rfl ?_
            refine e_lmul d_X11_asFar_75 ?_
            rw [← Int64.ofInt_mul, ← Int64.ofInt_mul]
            have hcmp := i64_lt (mul_49 (dU_bnd (F := cF ans T A) (V := cV ans less T) (S := ds) (k := 14) (by decide) (cV_99 (hV T hT))) (b := (((dN (cF ans T A) S0 14 * dM (cF ans T A) S0 14) : Nat) : Int)) (by have := dNM_mul (F := cF ans T A) (S := S0) (k := 14) (by decide); omega)) (mul_49 (dU_bnd (F := cF ans T A) (V := cV ans less T) (S := S0) (k := 14) (by decide) (cV_99 (hV T hT))) (b := (((dN (cF ans T A) ds 14 * dM (cF ans T A) ds 14) : Nat) : Int)) (by have := dNM_mul (F := cF ans T A) (S := ds) (k := 14) (by decide); omega))
            refine e_lcmp_lt d_X11_asFar_76 d_X11_asFar_77 (fun c76 => ?_) (fun c76 => ?_)
            · have hP : (asF (cF ans T A) (cV ans less T) (dU (cF ans T A) (cV ans less T) S0 14) (dN (cF ans T A) S0 14 * dM (cF ans T A) S0 14)) (dlF L i) = false := by rw [hds]; exact Bool.eq_false_iff.mpr (fun z => absurd (hcmp.mp c76) (by have := (asF_iff.mp z).2; omega))
              refine e_iconst (v := 0) d_X11_asFar_84 (by decide) ?_
              refine e_iadd d_X11_asFar_85 ?_
              refine e_istore d_X11_asFar_86 (by decide) rfl ?_
              refine e_iincw (w := 1) d_X11_asFar_88 rfl (by decide) (by decide) rfl ?_
              refine e_gt d_X11_asFar_91 ?_
              refine ih_36 (i + 1) (by omega) (by omega) _ () () _ _ ?_ ?_ ?_ ?_
              · exact h_F.trans fr_57
              · exact ⟨_, _, H_md⟩
              · rw [h_f, cnt, cnt, sm]
                first | (rw [if_pos hP, nI_1]; done) | (rw [if_neg (by simpa using hP)]; exact nI_p0 _)
              · exact nI_1 i
            · have hP : (asF (cF ans T A) (cV ans less T) (dU (cF ans T A) (cV ans less T) S0 14) (dN (cF ans T A) S0 14 * dM (cF ans T A) S0 14)) (dlF L i) = true := by rw [hds]; exact asF_iff.mpr ⟨hl1, Int.not_lt.mp (fun z => c76 (hcmp.mpr z))⟩
              refine e_iconst (v := 1) d_X11_asFar_80 (by decide) ?_
              refine e_gt d_X11_asFar_81 ?_
              refine e_iadd d_X11_asFar_85 ?_
              refine e_istore d_X11_asFar_86 (by decide) rfl ?_
              refine e_iincw (w := 1) d_X11_asFar_88 rfl (by decide) (by decide) rfl ?_
              refine e_gt d_X11_asFar_91 ?_
              refine ih_36 (i + 1) (by omega) (by omega) _ () () _ _ ?_ ?_ ?_ ?_
              · exact h_F.trans fr_57
              · exact ⟨_, _, H_md⟩
              · rw [h_f, cnt, cnt, sm]
                first | (rw [if_pos hP, nI_1]; done) | (rw [if_neg (by simpa using hP)]; exact nI_p0 _)
              · exact nI_1 i
      exact hA_36 0 (by omega) _ () () _ _ (fr_11) (⟨_, _, H_md⟩) (rfl) (rfl)
    · have hl0 : (dN (cF ans T A) S0 14 * dM (cF ans T A) S0 14) = 0 := by have := bI_0.mp c14; omega
      refine e_iconst (v := -1) d_X11_asFar_17 (by decide) ?_
      exact e_iret d_X11_asFar_18 rfl (rfl) (⟨_, rfl, by first | (rw [farC, if_pos (Or.inr hd0)]; done) | (rw [farC, if_pos (Or.inl hl0)]; done), ⟨_, _, H_md⟩, by first | exact Fr.refl _ _ | exact fr_11⟩)

theorem s_X11_stands {h : AH} {f t : Int32} {D : Nat} {mtp mfl mfa mln mat mtk mso mto mwr mwp mop mfs mws mst mnc mnk mnr : Int32} {mup mlo mgu mgl : Int64} (H_md : Hs h 66 (oMd mtp mfl mfa mup mlo mln mat mtk mso mto mwr mwp mop mfs mws mst mnc mnk mnr (nI D) mgu mgl)) : Sp M_X11_stands (0, 0) h [.ref 66, .int f, .int t] (pI (bI (stC f t D = true)) h) := by
  refine ⟨Nat.le_of_ble_eq_true rfl, ?_⟩
  show E _ _ _ 0 h [some (.ref 66), some (.int f), some (.int t)] []
  refine e_iloadn d_X11_stands_0 rfl ?_
  refine e_iconst (v := -1) d_X11_stands_1 (by decide) ?_
  refine e_icmp_eq d_X11_stands_2 (fun c_2 => ?_) (fun c_2 => ?_)
  · have hP : ¬ stC f t D = true := by simp [stC, c_2]
    refine e_iconst (v := 0) d_X11_stands_23 (by decide) ?_
    exact e_iret d_X11_stands_24 rfl (rfl) (⟨by first | rw [bI_t hP] | rw [bI_f hP], rfl⟩)
  · refine e_iloadn d_X11_stands_5 rfl ?_
    refine e_sipush (v := 1000) d_X11_stands_6 (by decide) ?_
    refine e_imul d_X11_stands_9 ?_
    refine e_iloadn d_X11_stands_10 rfl ?_
    refine e_aloadn d_X11_stands_11 rfl ?_
    refine e_get d_X11_stands_12 f_X11_343 H_md rfl ?_
    refine e_imul d_X11_stands_15 ?_
    refine e_icmp_gt d_X11_stands_16 (fun c_16 => ?_) (fun c_16 => ?_)
    · have hP : ¬ stC f t D = true := by simp only [stC, decide_eq_true_eq]; grind
      refine e_iconst (v := 0) d_X11_stands_23 (by decide) ?_
      exact e_iret d_X11_stands_24 rfl (rfl) (⟨by first | rw [bI_t hP] | rw [bI_f hP], rfl⟩)
    · have hP : stC f t D = true := by simp only [stC, decide_eq_true_eq]; grind
      refine e_iconst (v := 1) d_X11_stands_19 (by decide) ?_
      refine e_gt d_X11_stands_20 ?_
      exact e_iret d_X11_stands_24 rfl (rfl) (⟨by first | rw [bI_t hP] | rw [bI_f hP], rfl⟩)

theorem s_X11_thousandths {h : AH} {U L : Int} {mtp mfl mfa mln mat mtk mso mto mwr mwp mop mfs mws mst mnc mnk mnr mdn : Int32} {mgu mgl : Int64} (H_md : Hs h 66 (oMd mtp mfl mfa (Int64.ofInt U) (Int64.ofInt L) mln mat mtk mso mto mwr mwp mop mfs mws mst mnc mnk mnr mdn mgu mgl)) (hU : -1000000000 ≤ U ∧ U ≤ 1000000000) (hL : 0 < L ∧ L ≤ 1000000000) : Sp M_X11_thousandths (0, 0) h [.ref 66] (pI (Int32.ofInt ((U * 1000).tdiv L)) h) := by
  refine ⟨Nat.le_of_ble_eq_true rfl, ?_⟩
  show E _ _ _ 0 h [some (.ref 66)] []
  refine e_ldc2 d_X11_thousandths_0 v_X11_129 ?_
  refine e_aloadn d_X11_thousandths_3 rfl ?_
  refine e_get d_X11_thousandths_4 f_X11_119 H_md rfl ?_
  refine e_lmul d_X11_thousandths_7 ?_
  rw [show (1000 : Int64) = Int64.ofInt 1000 from rfl, ← Int64.ofInt_mul]
  refine e_aloadn d_X11_thousandths_8 rfl ?_
  refine e_get d_X11_thousandths_9 f_X11_126 H_md rfl ?_
  refine e_ldiv d_X11_thousandths_12 (fun z => absurd ((i64_eq (b := 0) (by omega) (by omega)).mp z) (by omega)) ?_
  rw [i64_div (by omega) (by omega)]
  refine e_l2i d_X11_thousandths_13 ?_
  exact e_iret d_X11_thousandths_14 rfl (rfl) (⟨by rw [Int64.toInt32_ofInt, Int.mul_comm], rfl⟩)

theorem s_X11_part {h : AH} {x w : Int} (hx : -1241856000 ≤ x ∧ x ≤ 1241856000) (hw : -200 ≤ w ∧ w ≤ 200) : Sp M_X11_part (0, 0) h [.int (Int32.ofInt x), .int (Int32.ofInt w)] (pI (Int32.ofInt ((x * w).tdiv 100)) h) := by
  refine ⟨Nat.le_of_ble_eq_true rfl, ?_⟩
  show E _ _ _ 0 h [some (.int (Int32.ofInt x)), some (.int (Int32.ofInt w))] []
  refine e_iloadn d_X11_part_0 rfl ?_
  refine e_i2l d_X11_part_1 ?_
  refine e_iloadn d_X11_part_2 rfl ?_
  refine e_i2l d_X11_part_3 ?_
  refine e_lmul d_X11_part_4 ?_
  refine e_ldc2 d_X11_part_5 v_X11_399 ?_
  refine e_ldiv d_X11_part_8 (by decide) ?_
  rw [i64_of32 (z := x) (by omega) (by omega), td64 hx hw rfl]
  refine e_l2i d_X11_part_9 ?_
  exact e_iret d_X11_part_10 rfl (rfl) (⟨by rw [Int64.toInt32_ofInt], rfl⟩)

theorem nI_le1 {n : Nat} (h : 0 < n) : nI n - 1 = nI (n - 1) := by
  obtain ⟨k, rfl⟩ : ∃ k, n = k + 1 := ⟨n - 1, by omega⟩
  exact nI_m

theorem s_X11_difference {h : AH} {N n S0 : Nat} {ca : Nat → Nat → Nat} {a : Nat → Int32} {ans less : Nat → Int32} {mtp mfl mfa mln mat mtk mso mto mwr mwp mop mfs mws mst mnc mnk mnr mdn : Int32} {mup mlo mgu mgl : Int64} {T A : Nat} {s w : Int32} (H_md : Hs h 66 (oMd mtp mfl mfa mup mlo mln mat mtk mso mto mwr mwp mop mfs mws mst mnc mnk mnr mdn mgu mgl)) (H_a : Hs h 67 (aI 380 a)) (ha0 : a 0 = nI N) (hN : N ≤ 14) (hca : ∀ c k, c < N → k < 4 → ca c k ≤ 99) (hca4 : ∀ c k, c < N → k < 4 → a (10 + 5 * c + k) = nI (ca c k)) (ha1 : a 1 = nI n) (hn : n ≤ 12) (hbits : bitsOf (fun c => a (80 + c)) N = nI S0) (hS0 : S0 < 2 ^ N) (hV : ∀ t, t < 12 → ∀ c, c < 14 → ans (t * 14 + c) = -1 ∨ ∃ v, v ≤ 99 ∧ ans (t * 14 + c) = nI v) (hVm : ∀ t, t < n → ∀ c, c < N → a (150 + 14 * t + c) = -1 ∨ ∃ v, v ≤ 99 ∧ a (150 + 14 * t + c) = nI v) (R : ∀ t, t < n → mAn a ans less N t (2 ^ N - 1) 2) (hTn : T < n) (RA : mAn a ans less N T A s) (hs2 : 0 ≤ s ∧ s ≤ 2) (hw2 : 0 ≤ w ∧ w ≤ 2) : Sp M_X11_difference (0, 0) h [.ref 66, .int (nI T), .int s, .int w] (rI (fun x h' => x = dfX (dU (cF ans T A) (cV ans less T) S0 14) (dN (cF ans T A) S0 14 * dM (cF ans T A) S0 14) w ∧ MdO h' mtp mfl mfa ∧ Fr [66] h h')) := by
  refine ⟨Nat.le_of_ble_eq_true rfl, ?_⟩
  show E _ _ _ 0 h [some (.ref 66), some (.int (nI T)), some (.int s), some (.int w)] []
  have hS1 : S0 < 16384 := Nat.lt_of_lt_of_le hS0 (pw_31 N hN)
  refine e_aloadn d_X11_difference_0 rfl ?_
  refine e_iloadn d_X11_difference_1 rfl ?_
  refine e_callVI d_X11_difference_2 l_X11_difference_109 H_md rfl rfl (s_X11_isThing H_md H_a) rfl rfl (Nat.le_of_ble_eq_true rfl) ?_
  refine e_if_eq d_X11_difference_5 (fun z => by first | exact absurd (fun z => bI_0.mp z ⟨(nI_leI (a := 0) (by decide) (by omega)).mpr (by omega), by rw [ha1, nI_le1 (by omega)]; exact (nI_leI (by omega) (by omega)).mpr (by omega)⟩) z | exact absurd z (fun z => bI_0.mp z ⟨(nI_leI (a := 0) (by decide) (by omega)).mpr (by omega), by rw [ha1, nI_le1 (by omega)]; exact (nI_leI (by omega) (by omega)).mpr (by omega)⟩)) (fun _ => ?_)
  refine e_iloadn d_X11_difference_8 rfl ?_
  refine e_iconst (v := 0) d_X11_difference_9 (by decide) ?_
  refine e_iconst (v := 2) d_X11_difference_10 (by decide) ?_
  refine e_callSI d_X11_difference_11 l_X11_difference_101 (s_X11_in) rfl rfl (Nat.le_of_ble_eq_true rfl) ?_
  refine e_if_eq d_X11_difference_14 (fun z => by first | exact absurd (fun z => bI_0.mp z hs2) z | exact absurd z (fun z => bI_0.mp z hs2)) (fun _ => ?_)
  refine e_iloadn d_X11_difference_17 rfl ?_
  refine e_iconst (v := 0) d_X11_difference_18 (by decide) ?_
  refine e_iconst (v := 2) d_X11_difference_19 (by decide) ?_
  refine e_callSI d_X11_difference_20 l_X11_difference_101 (s_X11_in) rfl rfl (Nat.le_of_ble_eq_true rfl) ?_
  refine e_if_eq d_X11_difference_23 (fun z => by first | exact absurd (fun z => bI_0.mp z hw2) z | exact absurd z (fun z => bI_0.mp z hw2)) (fun _ => ?_)
  refine e_aloadn d_X11_difference_26 rfl ?_
  refine e_iloadn d_X11_difference_27 rfl ?_
  refine e_aloadn d_X11_difference_28 rfl ?_
  refine e_callVI d_X11_difference_29 l_X11_difference_131 H_md rfl rfl (s_X11_hadBits H_md H_a ha0 hN) rfl rfl (Nat.le_of_ble_eq_true rfl) ?_
  rw [hbits]
  refine e_iloadn d_X11_difference_32 rfl ?_
  refine e_callRVI d_X11_difference_33 l_X11_difference_135 H_md rfl rfl (s_X11_differs2 (T := T) (S := S0) (A := A) H_md H_a ha0 hN (by omega) hS1 (hVm T hTn) (hV T (by omega)) RA) rfl rfl (Nat.le_of_ble_eq_true rfl) (fun x_33 h_33 q_33 s_33 => ?_)
  obtain ⟨rfl, H_md, fr_33⟩ := q_33
  have H_a := fr_33.hs H_a (by first | decide | (simp; omega))
  have hbU := dU_bnd (F := cF ans T A) (V := cV ans less T) (S := S0) (k := 14) (by decide) (cV_99 (hV T (by omega)))
  have hbL := dNM_mul (F := cF ans T A) (S := S0) (k := 14) (by decide)
  refine e_if_ne d_X11_difference_36 (fun c36 => ?_) (fun c36 => ?_)
  · have hz : 0 < (dN (cF ans T A) S0 14 * dM (cF ans T A) S0 14) := bI_1.mp (bI_z.resolve_left c36)
    refine e_iloadn d_X11_difference_42 rfl ?_
    refine e_if_ne d_X11_difference_43 (fun c43 => ?_) (fun c43 => ?_)
    · refine e_iloadn d_X11_difference_54 rfl ?_
      refine e_iconst (v := 1) d_X11_difference_55 (by decide) ?_
      refine e_icmp_ne d_X11_difference_56 (fun c56 => ?_) (fun c56 => ?_)
      · refine e_aloadn d_X11_difference_67 rfl ?_
        refine e_callVI d_X11_difference_68 l_X11_difference_139 H_md rfl rfl (s_X11_thousandths H_md (by omega) (by omega)) rfl rfl (Nat.le_of_ble_eq_true rfl) ?_
        exact e_iret d_X11_difference_71 rfl (rfl) (⟨_, rfl, by first | (rw [dfX, if_neg (by omega), if_neg (by rw [c43]; decide), if_pos c43, Int64.toInt32_ofInt]; done) | (rw [dfX, if_neg (by omega), if_neg (by rw [c56]; decide), if_neg c43, Int64.toInt32_ofInt]; rfl) | (rw [dfX, if_neg (by omega), if_pos (by grind)]; done), ⟨_, _, _, _, _, _, _, _, _, _, _, _, _, _, _, _, _, _, _, H_md⟩, fr_33⟩)
      · refine e_aloadn d_X11_difference_59 rfl ?_
        refine e_get d_X11_difference_60 f_X11_126 H_md rfl ?_
        refine e_l2i d_X11_difference_63 ?_
        refine e_gt d_X11_difference_64 ?_
        exact e_iret d_X11_difference_71 rfl (rfl) (⟨_, rfl, by first | (rw [dfX, if_neg (by omega), if_neg (by rw [c43]; decide), if_pos c43, Int64.toInt32_ofInt]; done) | (rw [dfX, if_neg (by omega), if_neg (by rw [c56]; decide), if_neg c43, Int64.toInt32_ofInt]; rfl) | (rw [dfX, if_neg (by omega), if_pos (by grind)]; done), ⟨_, _, _, _, _, _, _, _, _, _, _, _, _, _, _, _, _, _, _, H_md⟩, fr_33⟩)
    · refine e_aloadn d_X11_difference_46 rfl ?_
      refine e_get d_X11_difference_47 f_X11_119 H_md rfl ?_
      refine e_l2i d_X11_difference_50 ?_
      refine e_gt d_X11_difference_51 ?_
      exact e_iret d_X11_difference_71 rfl (rfl) (⟨_, rfl, by first | (rw [dfX, if_neg (by omega), if_neg (by rw [c43]; decide), if_pos c43, Int64.toInt32_ofInt]; done) | (rw [dfX, if_neg (by omega), if_neg (by rw [c56]; decide), if_neg c43, Int64.toInt32_ofInt]; rfl) | (rw [dfX, if_neg (by omega), if_pos (by grind)]; done), ⟨_, _, _, _, _, _, _, _, _, _, _, _, _, _, _, _, _, _, _, H_md⟩, fr_33⟩)
  · have hz : (dN (cF ans T A) S0 14 * dM (cF ans T A) S0 14) = 0 := by have := bI_0.mp c36; omega
    refine e_ldc d_X11_difference_39 v_X11_138 ?_
    exact e_iret d_X11_difference_41 rfl (rfl) (⟨_, rfl, by rw [dfX, if_pos hz], ⟨_, _, _, _, _, _, _, _, _, _, _, _, _, _, _, _, _, _, _, H_md⟩, fr_33⟩)

theorem s_X11_deals {h : AH} {N n S0 : Nat} {ca : Nat → Nat → Nat} {a : Nat → Int32} {ans less : Nat → Int32} {mtp mfl mfa mln mat mtk mso mto mwr mwp mop mfs mws mst mnc mnk mnr mdn : Int32} {mup mlo mgu mgl : Int64} {tp nc tcn : Nat} {kd : Nat → Nat} {cd : Nat → List Nat} {many near : Int32} {dl0 : Nat → Int32} {i : Int32} (H_md : Hs h 66 (oMd mtp mfl mfa mup mlo mln mat mtk mso mto mwr mwp mop mfs mws mst mnc mnk mnr mdn mgu mgl)) (H_a : Hs h 67 (aI 380 a)) (ha0 : a 0 = nI N) (hN : N ≤ 14) (hca : ∀ c k, c < N → k < 4 → ca c k ≤ 99) (hca4 : ∀ c k, c < N → k < 4 → a (10 + 5 * c + k) = nI (ca c k)) (ha1 : a 1 = nI n) (hn : n ≤ 12) (hbits : bitsOf (fun c => a (80 + c)) N = nI S0) (hS0 : S0 < 2 ^ N) (hV : ∀ t, t < 12 → ∀ c, c < 14 → ans (t * 14 + c) = -1 ∨ ∃ v, v ≤ 99 ∧ ans (t * 14 + c) = nI v) (hVm : ∀ t, t < n → ∀ c, c < N → a (150 + 14 * t + c) = -1 ∨ ∃ v, v ≤ 99 ∧ a (150 + 14 * t + c) = nI v) (R : ∀ t, t < n → mAn a ans less N t (2 ^ N - 1) 2) (ha2 : a 2 = nI tcn) (htp : tp < tcn) (htc : tcn ≤ 6) (hT0 : TxM h tp nc kd cd many near) (hok : okT nc kd cd) (hR0 : MdR h) (H_mdl : Hs h 87 (aI 16384 dl0)) (hi : -1 ≤ i) : Sp M_X11_deals (0, 0) h [.ref 66, .int (nI tp), .int i] (rI (fun x h' => x = dealsA (DLs ca N nc kd cd many near) i ∧ MdZ h h' mtp mfl mfa)) := by
  refine ⟨Nat.le_of_ble_eq_true rfl, ?_⟩
  show E _ _ _ 0 h [some (.ref 66), some (.int (nI tp)), some (.int i)] []
  have hS1 : S0 < 16384 := Nat.lt_of_lt_of_le hS0 (pw_31 N hN)
  obtain ⟨⟨⟨nms0, H_mnm⟩, pi0, H_mpi⟩, ⟨wi0, H_mwi⟩, wo0, H_mwo⟩ := id hR0
  refine e_aloadn d_X11_deals_0 rfl ?_
  refine e_iloadn d_X11_deals_1 rfl ?_
  refine e_callVI d_X11_deals_2 l_X11_deals_356 H_md rfl rfl (s_X11_isText H_md H_a) rfl rfl (Nat.le_of_ble_eq_true rfl) ?_
  refine e_if_eq d_X11_deals_5 (fun z => by first | exact absurd (fun z => bI_0.mp z ⟨(nI_leI (a := 0) (by decide) (by omega)).mpr (by omega), by rw [ha2, nI_le1 (by omega)]; exact (nI_leI (by omega) (by omega)).mpr (by omega)⟩) z | exact absurd z (fun z => bI_0.mp z ⟨(nI_leI (a := 0) (by decide) (by omega)).mpr (by omega), by rw [ha2, nI_le1 (by omega)]; exact (nI_leI (by omega) (by omega)).mpr (by omega)⟩)) (fun _ => ?_)
  refine e_iloadn d_X11_deals_8 rfl ?_
  refine e_iconst (v := -1) d_X11_deals_9 (by decide) ?_
  refine e_icmp_ge d_X11_deals_10 (fun _ => ?_) (fun z => by first | exact absurd (hi) z | exact absurd z (hi))
  refine e_aloadn d_X11_deals_15 rfl ?_
  refine e_iloadn d_X11_deals_16 rfl ?_
  have hLq := DL_len (fit := fitB ca N nc kd cd many near) (over := ovN ca N nc kd cd) (2 ^ N)
  have hLp := pw_31 N hN
  have hL8 : (DLs ca N nc kd cd many near).length ≤ 16384 := Nat.le_trans hLq hLp
  have hL9 : ∀ x, x ∈ (DLs ca N nc kd cd many near) → x < 16384 := fun x hx => Nat.lt_of_lt_of_le (DL_lt x hx) hLp
  refine e_callRVV d_X11_deals_17 l_X11_deals_359 H_md rfl rfl (s_X11_laysDeals H_md H_a ha0 hN hca hca4 hT0 hok H_mnm H_mpi H_mwi H_mwo H_mdl) rfl rfl (Nat.le_of_ble_eq_true rfl) (fun h_17 q_17 s_17 => ?_)
  obtain ⟨H_md, ⟨dl, H_mdl, hRw⟩, hR9, fq⟩ := q_17
  have H_a := fq.hs H_a (by first | decide | (simp; omega))
  refine e_iloadn d_X11_deals_20 rfl ?_
  refine e_iconst (v := -1) d_X11_deals_21 (by decide) ?_
  refine e_icmp_ne d_X11_deals_22 (fun c_22 => ?_) (fun c_22 => ?_)
  · obtain ⟨k9, hk9, rfl⟩ : ∃ k : Nat, k < 2 ^ 31 ∧ i = nI k := i_nat hi c_22
    refine e_iloadn d_X11_deals_32 rfl ?_
    refine e_aloadn d_X11_deals_33 rfl ?_
    refine e_get d_X11_deals_34 f_X11_343 H_md rfl ?_
    refine e_icmp_ge d_X11_deals_37 (fun c => ?_) (fun c => ?_)
    · have c := i_le (by omega) hk9 c
      have hl9 : (DLs ca N nc kd cd many near)[k9]? = none := List.getElem?_eq_none (by omega)
      refine e_iconst (v := -1) d_X11_deals_49 (by decide) ?_
      exact e_iret d_X11_deals_50 rfl (rfl) (⟨_, rfl, by first | (rw [dealsA, if_pos c_22]; done) | (rw [dealsA, if_neg c_22, nI_clamp hk9, hl9]; exact hRw k9 _ hl9) | rw [dealsA, if_neg c_22, nI_clamp hk9, hl9], ⟨⟨_, _, _, _, _, _, _, _, _, _, _, _, _, _, _, _, _, _, _, H_md⟩, ⟨dl, H_mdl⟩, hR9, fq.mono (by decide)⟩⟩)
    · have c := i_nle (by omega) hk9 c
      obtain ⟨v9, hl9⟩ : ∃ v, (DLs ca N nc kd cd many near)[k9]? = some v := ⟨_, List.getElem?_eq_getElem c⟩
      refine e_aloadn d_X11_deals_40 rfl ?_
      refine e_get d_X11_deals_41 f_X11_79 H_md rfl ?_
      refine e_iloadn d_X11_deals_44 rfl ?_
      refine e_ialdN (k := k9) d_X11_deals_45 H_mdl rfl (by omega) (by omega) ?_
      refine e_gt d_X11_deals_46 ?_
      exact e_iret d_X11_deals_50 rfl (rfl) (⟨_, rfl, by first | (rw [dealsA, if_pos c_22]; done) | (rw [dealsA, if_neg c_22, nI_clamp hk9, hl9]; exact hRw k9 _ hl9) | rw [dealsA, if_neg c_22, nI_clamp hk9, hl9], ⟨⟨_, _, _, _, _, _, _, _, _, _, _, _, _, _, _, _, _, _, _, H_md⟩, ⟨dl, H_mdl⟩, hR9, fq.mono (by decide)⟩⟩)
  · refine e_aloadn d_X11_deals_25 rfl ?_
    refine e_get d_X11_deals_26 f_X11_343 H_md rfl ?_
    refine e_gt d_X11_deals_29 ?_
    exact e_iret d_X11_deals_50 rfl (rfl) (⟨_, rfl, by first | (rw [dealsA, if_pos c_22]; done) | (rw [dealsA, if_neg c_22, nI_clamp hk9, hl9]; exact hRw k9 _ hl9) | rw [dealsA, if_neg c_22, nI_clamp hk9, hl9], ⟨⟨_, _, _, _, _, _, _, _, _, _, _, _, _, _, _, _, _, _, _, H_md⟩, ⟨dl, H_mdl⟩, hR9, fq.mono (by decide)⟩⟩)

theorem w_1001 {w : Int32} (h : 1 ≤ w - 1000 ∧ w - 1000 ≤ 1000) : 1001 ≤ w ∧ w ≤ 2000 := by
  obtain ⟨h1, h2⟩ := h
  rw [Int32.le_iff_toInt_le] at h1 h2 ⊢
  rw [Int32.le_iff_toInt_le]
  rw [Int32.toInt_sub] at h1 h2
  have b1 := Int32.toInt_lt w
  have b2 := Int32.le_toInt w
  have e1 : (1000 : Int32).toInt = 1000 := by decide
  have e2 : (1 : Int32).toInt = 1 := by decide
  have e3 : (1001 : Int32).toInt = 1001 := by decide
  have e4 : (2000 : Int32).toInt = 2000 := by decide
  rw [e1] at h1 h2
  rw [e2] at h1
  rw [e3, e4]
  simp only [Int.bmod] at h1 h2
  omega
theorem w_01 {w : Int32} (h0 : ¬ w = 0) (h1 : ¬ w = 1) : ¬ (0 ≤ w ∧ w ≤ 1) := by
  intro h
  obtain ⟨g1, g2⟩ := h
  rw [Int32.le_iff_toInt_le] at g1 g2
  have e1 : (0 : Int32).toInt = 0 := by decide
  have e2 : (1 : Int32).toInt = 1 := by decide
  have : w.toInt = 0 ∨ w.toInt = 1 := by omega
  rcases this with e | e
  · exact h0 (Int32.toInt_inj.mp (by rw [e, e1]))
  · exact h1 (Int32.toInt_inj.mp (by rw [e, e2]))
theorem odds_0 {f w : Int32} {D : Nat} (hf : ¬ f = -1) (h : w = 0) : oddsA f w D = f := by subst h; rw [oddsA, if_neg hf, if_neg (by decide), if_pos rfl]
theorem odds_1 {f w : Int32} {D : Nat} (hf : ¬ f = -1) (h : w = 1) : oddsA f w D = 1000 * f / nI D := by subst h; rw [oddsA, if_neg hf, if_neg (by decide), if_neg (by decide), Int32.mul_comm]
theorem odds_t {f w : Int32} {D : Nat} (hf : ¬ f = -1) (h : 1 ≤ w - 1000 ∧ w - 1000 ≤ 1000) : oddsA f w D = bI (stC f (w - 1000) D = true) := by rw [oddsA, if_neg hf, if_pos h]
theorem far_D {ans less : Nat → Int32} {A T S0 D : Nat} {dl : Nat → Nat} (h : ¬ farC ans less A dl T S0 D = -1) : ¬ D = 0 := fun z => h (by rw [z]; exact farC_D)

theorem s_X11_odds {h : AH} {N n S0 : Nat} {ca : Nat → Nat → Nat} {a : Nat → Int32} {ans less : Nat → Int32} {mtp mfl mfa mln mat mtk mso mto mwr mwp mop mfs mws mst mnc mnk mnr mdn : Int32} {mup mlo mgu mgl : Int64} {tp nc tcn : Nat} {kd : Nat → Nat} {cd : Nat → List Nat} {many near : Int32} {dl0 : Nat → Int32} {T : Nat} {w : Int32} (H_md : Hs h 66 (oMd mtp mfl mfa mup mlo mln mat mtk mso mto mwr mwp mop mfs mws mst mnc mnk mnr mdn mgu mgl)) (H_a : Hs h 67 (aI 380 a)) (ha0 : a 0 = nI N) (hN : N ≤ 14) (hca : ∀ c k, c < N → k < 4 → ca c k ≤ 99) (hca4 : ∀ c k, c < N → k < 4 → a (10 + 5 * c + k) = nI (ca c k)) (ha1 : a 1 = nI n) (hn : n ≤ 12) (hbits : bitsOf (fun c => a (80 + c)) N = nI S0) (hS0 : S0 < 2 ^ N) (hV : ∀ t, t < 12 → ∀ c, c < 14 → ans (t * 14 + c) = -1 ∨ ∃ v, v ≤ 99 ∧ ans (t * 14 + c) = nI v) (hVm : ∀ t, t < n → ∀ c, c < N → a (150 + 14 * t + c) = -1 ∨ ∃ v, v ≤ 99 ∧ a (150 + 14 * t + c) = nI v) (R : ∀ t, t < n → mAn a ans less N t (2 ^ N - 1) 2) (ha2 : a 2 = nI tcn) (htp : tp < tcn) (htc : tcn ≤ 6) (hT0 : TxM h tp nc kd cd many near) (hok : okT nc kd cd) (hR0 : MdR h) (H_mdl : Hs h 87 (aI 16384 dl0)) (hTn : T < n) (hw : (0 ≤ w ∧ w ≤ 1) ∨ (1 ≤ w - 1000 ∧ w - 1000 ≤ 1000)) : Sp M_X11_odds (0, 0) h [.ref 66, .int (nI tp), .int (nI T), .int w] (rI (fun x h' => x = oddsA (farC ans less (2 ^ N - 1) (dlF (DLs ca N nc kd cd many near)) T S0 (DLs ca N nc kd cd many near).length) w (DLs ca N nc kd cd many near).length ∧ MdZ h h' mtp mfl mfa)) := by
  refine ⟨Nat.le_of_ble_eq_true rfl, ?_⟩
  show E _ _ _ 0 h [some (.ref 66), some (.int (nI tp)), some (.int (nI T)), some (.int w), none] []
  have hS1 : S0 < 16384 := Nat.lt_of_lt_of_le hS0 (pw_31 N hN)
  obtain ⟨⟨⟨nms0, H_mnm⟩, pi0, H_mpi⟩, ⟨wi0, H_mwi⟩, wo0, H_mwo⟩ := id hR0
  refine e_aloadn d_X11_odds_0 rfl ?_
  refine e_iloadn d_X11_odds_1 rfl ?_
  refine e_callVI d_X11_odds_2 l_X11_odds_356 H_md rfl rfl (s_X11_isText H_md H_a) rfl rfl (Nat.le_of_ble_eq_true rfl) ?_
  refine e_if_eq d_X11_odds_5 (fun z => by first | exact absurd (fun z => bI_0.mp z ⟨(nI_leI (a := 0) (by decide) (by omega)).mpr (by omega), by rw [ha2, nI_le1 (by omega)]; exact (nI_leI (by omega) (by omega)).mpr (by omega)⟩) z | exact absurd z (fun z => bI_0.mp z ⟨(nI_leI (a := 0) (by decide) (by omega)).mpr (by omega), by rw [ha2, nI_le1 (by omega)]; exact (nI_leI (by omega) (by omega)).mpr (by omega)⟩)) (fun _ => ?_)
  refine e_aloadn d_X11_odds_8 rfl ?_
  refine e_iloadn d_X11_odds_9 rfl ?_
  refine e_callVI d_X11_odds_10 l_X11_odds_109 H_md rfl rfl (s_X11_isThing H_md H_a) rfl rfl (Nat.le_of_ble_eq_true rfl) ?_
  refine e_if_eq d_X11_odds_13 (fun z => by first | exact absurd (fun z => bI_0.mp z ⟨(nI_leI (a := 0) (by decide) (by omega)).mpr (by omega), by rw [ha1, nI_le1 (by omega)]; exact (nI_leI (by omega) (by omega)).mpr (by omega)⟩) z | exact absurd z (fun z => bI_0.mp z ⟨(nI_leI (a := 0) (by decide) (by omega)).mpr (by omega), by rw [ha1, nI_le1 (by omega)]; exact (nI_leI (by omega) (by omega)).mpr (by omega)⟩)) (fun _ => ?_)
  refine e_iloadn d_X11_odds_16 rfl ?_
  refine e_iconst (v := 0) d_X11_odds_17 (by decide) ?_
  refine e_iconst (v := 1) d_X11_odds_18 (by decide) ?_
  refine e_callSI d_X11_odds_19 l_X11_odds_101 (s_X11_in) rfl rfl (Nat.le_of_ble_eq_true rfl) ?_
  refine e_if_ne d_X11_odds_22 (fun c22 => ?_) (fun c22 => ?_)
  · refine e_aloadn d_X11_odds_40 rfl ?_
    refine e_iloadn d_X11_odds_41 rfl ?_
    have hLq := DL_len (fit := fitB ca N nc kd cd many near) (over := ovN ca N nc kd cd) (2 ^ N)
    have hLp := pw_31 N hN
    have hL8 : (DLs ca N nc kd cd many near).length ≤ 16384 := Nat.le_trans hLq hLp
    have hL9 : ∀ x, x ∈ (DLs ca N nc kd cd many near) → x < 16384 := fun x hx => Nat.lt_of_lt_of_le (DL_lt x hx) hLp
    refine e_callRVV d_X11_odds_42 l_X11_odds_359 H_md rfl rfl (s_X11_laysDeals H_md H_a ha0 hN hca hca4 hT0 hok H_mnm H_mpi H_mwi H_mwo H_mdl) rfl rfl (Nat.le_of_ble_eq_true rfl) (fun h_42 q_42 s_42 => ?_)
    obtain ⟨H_md, ⟨dl, H_mdl, hRw⟩, hR9, fq⟩ := q_42
    have H_a := fq.hs H_a (by first | decide | (simp; omega))
    refine e_aloadn d_X11_odds_45 rfl ?_
    refine e_iloadn d_X11_odds_46 rfl ?_
    refine e_aloadn d_X11_odds_47 rfl ?_
    refine e_callVI d_X11_odds_48 l_X11_odds_131 H_md rfl rfl (s_X11_hadBits H_md H_a ha0 hN) rfl rfl (Nat.le_of_ble_eq_true rfl) ?_
    rw [hbits]
    refine e_callRVI d_X11_odds_51 l_X11_odds_362 H_md rfl rfl (s_X11_asFar (T := T) (S0 := S0) (A := (2 ^ N - 1)) H_md H_a ha0 hN H_mdl (by omega) hS1 (hVm T (by omega)) hV (R T (by omega)) hRw hL8 hL9) rfl rfl (Nat.le_of_ble_eq_true rfl) (fun x_51 h_51 q_51 s_51 => ?_)
    obtain ⟨rfl, ⟨up_51, lo_51, H_md⟩, fr_51⟩ := q_51
    have H_a := fr_51.hs H_a (by first | decide | (simp; omega))
    have H_mdl := fr_51.hs H_mdl (by first | decide | (simp; omega))
    refine e_istore d_X11_odds_54 (by decide) rfl ?_
    refine e_iload d_X11_odds_56 rfl ?_
    refine e_iconst (v := -1) d_X11_odds_58 (by decide) ?_
    refine e_icmp_ne d_X11_odds_59 (fun c59 => ?_) (fun c59 => ?_)
    · refine e_iloadn d_X11_odds_64 rfl ?_
      refine e_if_ne d_X11_odds_65 (fun c65 => ?_) (fun c65 => ?_)
      · refine e_iloadn d_X11_odds_73 rfl ?_
        refine e_iconst (v := 1) d_X11_odds_74 (by decide) ?_
        refine e_icmp_ne d_X11_odds_75 (fun c75 => ?_) (fun c75 => ?_)
        · refine e_aloadn d_X11_odds_92 rfl ?_
          refine e_iload d_X11_odds_93 rfl ?_
          refine e_iloadn d_X11_odds_95 rfl ?_
          refine e_sipush (v := 1000) d_X11_odds_96 (by decide) ?_
          refine e_isub d_X11_odds_99 ?_
          refine e_callVI d_X11_odds_100 l_X11_odds_365 H_md rfl rfl (s_X11_stands H_md) rfl rfl (Nat.le_of_ble_eq_true rfl) ?_
          refine e_if_eq d_X11_odds_103 (fun c_103 => ?_) (fun c_103 => ?_)
          · have hs9 := bI_0.mp c_103
            refine e_iconst (v := 0) d_X11_odds_110 (by decide) ?_
            exact e_iret d_X11_odds_111 rfl (rfl) (⟨_, rfl, by first | (rw [odds_0 c59 c65]; done) | (rw [odds_1 c59 c75]; done) | (rw [odds_t c59 (hw.resolve_left (w_01 c65 c75)), bI_t hs9]; done) | (rw [odds_t c59 (hw.resolve_left (w_01 c65 c75)), bI_f hs9]; done), ⟨⟨_, _, _, _, _, _, _, _, _, _, _, _, _, _, _, _, _, _, _, H_md⟩, ⟨dl, H_mdl⟩, MdR.fr hR9 (fr_51) (by decide), ((fq.mono (by decide)).trans ((fr_51).mono (by decide)))⟩⟩)
          · have hs9 := bI_1.mp (bI_z.resolve_left c_103)
            refine e_iconst (v := 1) d_X11_odds_106 (by decide) ?_
            refine e_gt d_X11_odds_107 ?_
            exact e_iret d_X11_odds_111 rfl (rfl) (⟨_, rfl, by first | (rw [odds_0 c59 c65]; done) | (rw [odds_1 c59 c75]; done) | (rw [odds_t c59 (hw.resolve_left (w_01 c65 c75)), bI_t hs9]; done) | (rw [odds_t c59 (hw.resolve_left (w_01 c65 c75)), bI_f hs9]; done), ⟨⟨_, _, _, _, _, _, _, _, _, _, _, _, _, _, _, _, _, _, _, H_md⟩, ⟨dl, H_mdl⟩, MdR.fr hR9 (fr_51) (by decide), ((fq.mono (by decide)).trans ((fr_51).mono (by decide)))⟩⟩)
        · refine e_sipush (v := 1000) d_X11_odds_78 (by decide) ?_
          refine e_iload d_X11_odds_81 rfl ?_
          refine e_imul d_X11_odds_83 ?_
          refine e_aloadn d_X11_odds_84 rfl ?_
          refine e_get d_X11_odds_85 f_X11_343 H_md rfl ?_
          refine e_idiv d_X11_odds_88 (fun z => far_D c59 ((nI_eq (b := 0) (by omega) (by decide)).mp z)) ?_
          refine e_gt d_X11_odds_89 ?_
          exact e_iret d_X11_odds_111 rfl (rfl) (⟨_, rfl, by first | (rw [odds_0 c59 c65]; done) | (rw [odds_1 c59 c75]; done) | (rw [odds_t c59 (hw.resolve_left (w_01 c65 c75)), bI_t hs9]; done) | (rw [odds_t c59 (hw.resolve_left (w_01 c65 c75)), bI_f hs9]; done), ⟨⟨_, _, _, _, _, _, _, _, _, _, _, _, _, _, _, _, _, _, _, H_md⟩, ⟨dl, H_mdl⟩, MdR.fr hR9 (fr_51) (by decide), ((fq.mono (by decide)).trans ((fr_51).mono (by decide)))⟩⟩)
      · refine e_iload d_X11_odds_68 rfl ?_
        refine e_gt d_X11_odds_70 ?_
        exact e_iret d_X11_odds_111 rfl (rfl) (⟨_, rfl, by first | (rw [odds_0 c59 c65]; done) | (rw [odds_1 c59 c75]; done) | (rw [odds_t c59 (hw.resolve_left (w_01 c65 c75)), bI_t hs9]; done) | (rw [odds_t c59 (hw.resolve_left (w_01 c65 c75)), bI_f hs9]; done), ⟨⟨_, _, _, _, _, _, _, _, _, _, _, _, _, _, _, _, _, _, _, H_md⟩, ⟨dl, H_mdl⟩, MdR.fr hR9 (fr_51) (by decide), ((fq.mono (by decide)).trans ((fr_51).mono (by decide)))⟩⟩)
    · refine e_iconst (v := -1) d_X11_odds_62 (by decide) ?_
      exact e_iret d_X11_odds_63 rfl (rfl) (⟨_, rfl, by rw [oddsA, if_pos c59], ⟨⟨_, _, _, _, _, _, _, _, _, _, _, _, _, _, _, _, _, _, _, H_md⟩, ⟨dl, H_mdl⟩, MdR.fr hR9 (fr_51) (by decide), ((fq.mono (by decide)).trans ((fr_51).mono (by decide)))⟩⟩)
  · have hw1 := bI_0.mp c22
    refine e_iloadn d_X11_odds_25 rfl ?_
    refine e_sipush (v := 1001) d_X11_odds_26 (by decide) ?_
    refine e_sipush (v := 2000) d_X11_odds_29 (by decide) ?_
    refine e_callSI d_X11_odds_32 l_X11_odds_101 (s_X11_in) rfl rfl (Nat.le_of_ble_eq_true rfl) ?_
    refine e_if_ne d_X11_odds_35 (fun _ => ?_) (fun z => by first | exact absurd (fun z => bI_0.mp z (w_1001 (hw.resolve_left hw1))) z | exact absurd z (fun z => bI_0.mp z (w_1001 (hw.resolve_left hw1))))
    refine e_aloadn d_X11_odds_40 rfl ?_
    refine e_iloadn d_X11_odds_41 rfl ?_
    have hLq := DL_len (fit := fitB ca N nc kd cd many near) (over := ovN ca N nc kd cd) (2 ^ N)
    have hLp := pw_31 N hN
    have hL8 : (DLs ca N nc kd cd many near).length ≤ 16384 := Nat.le_trans hLq hLp
    have hL9 : ∀ x, x ∈ (DLs ca N nc kd cd many near) → x < 16384 := fun x hx => Nat.lt_of_lt_of_le (DL_lt x hx) hLp
    refine e_callRVV d_X11_odds_42 l_X11_odds_359 H_md rfl rfl (s_X11_laysDeals H_md H_a ha0 hN hca hca4 hT0 hok H_mnm H_mpi H_mwi H_mwo H_mdl) rfl rfl (Nat.le_of_ble_eq_true rfl) (fun h_42 q_42 s_42 => ?_)
    obtain ⟨H_md, ⟨dl, H_mdl, hRw⟩, hR9, fq⟩ := q_42
    have H_a := fq.hs H_a (by first | decide | (simp; omega))
    refine e_aloadn d_X11_odds_45 rfl ?_
    refine e_iloadn d_X11_odds_46 rfl ?_
    refine e_aloadn d_X11_odds_47 rfl ?_
    refine e_callVI d_X11_odds_48 l_X11_odds_131 H_md rfl rfl (s_X11_hadBits H_md H_a ha0 hN) rfl rfl (Nat.le_of_ble_eq_true rfl) ?_
    rw [hbits]
    refine e_callRVI d_X11_odds_51 l_X11_odds_362 H_md rfl rfl (s_X11_asFar (T := T) (S0 := S0) (A := (2 ^ N - 1)) H_md H_a ha0 hN H_mdl (by omega) hS1 (hVm T (by omega)) hV (R T (by omega)) hRw hL8 hL9) rfl rfl (Nat.le_of_ble_eq_true rfl) (fun x_51 h_51 q_51 s_51 => ?_)
    obtain ⟨rfl, ⟨up_51, lo_51, H_md⟩, fr_51⟩ := q_51
    have H_a := fr_51.hs H_a (by first | decide | (simp; omega))
    have H_mdl := fr_51.hs H_mdl (by first | decide | (simp; omega))
    refine e_istore d_X11_odds_54 (by decide) rfl ?_
    refine e_iload d_X11_odds_56 rfl ?_
    refine e_iconst (v := -1) d_X11_odds_58 (by decide) ?_
    refine e_icmp_ne d_X11_odds_59 (fun c59 => ?_) (fun c59 => ?_)
    · refine e_iloadn d_X11_odds_64 rfl ?_
      refine e_if_ne d_X11_odds_65 (fun c65 => ?_) (fun c65 => ?_)
      · refine e_iloadn d_X11_odds_73 rfl ?_
        refine e_iconst (v := 1) d_X11_odds_74 (by decide) ?_
        refine e_icmp_ne d_X11_odds_75 (fun c75 => ?_) (fun c75 => ?_)
        · refine e_aloadn d_X11_odds_92 rfl ?_
          refine e_iload d_X11_odds_93 rfl ?_
          refine e_iloadn d_X11_odds_95 rfl ?_
          refine e_sipush (v := 1000) d_X11_odds_96 (by decide) ?_
          refine e_isub d_X11_odds_99 ?_
          refine e_callVI d_X11_odds_100 l_X11_odds_365 H_md rfl rfl (s_X11_stands H_md) rfl rfl (Nat.le_of_ble_eq_true rfl) ?_
          refine e_if_eq d_X11_odds_103 (fun c_103 => ?_) (fun c_103 => ?_)
          · have hs9 := bI_0.mp c_103
            refine e_iconst (v := 0) d_X11_odds_110 (by decide) ?_
            exact e_iret d_X11_odds_111 rfl (rfl) (⟨_, rfl, by first | (rw [odds_0 c59 c65]; done) | (rw [odds_1 c59 c75]; done) | (rw [odds_t c59 (hw.resolve_left (w_01 c65 c75)), bI_t hs9]; done) | (rw [odds_t c59 (hw.resolve_left (w_01 c65 c75)), bI_f hs9]; done), ⟨⟨_, _, _, _, _, _, _, _, _, _, _, _, _, _, _, _, _, _, _, H_md⟩, ⟨dl, H_mdl⟩, MdR.fr hR9 (fr_51) (by decide), ((fq.mono (by decide)).trans ((fr_51).mono (by decide)))⟩⟩)
          · have hs9 := bI_1.mp (bI_z.resolve_left c_103)
            refine e_iconst (v := 1) d_X11_odds_106 (by decide) ?_
            refine e_gt d_X11_odds_107 ?_
            exact e_iret d_X11_odds_111 rfl (rfl) (⟨_, rfl, by first | (rw [odds_0 c59 c65]; done) | (rw [odds_1 c59 c75]; done) | (rw [odds_t c59 (hw.resolve_left (w_01 c65 c75)), bI_t hs9]; done) | (rw [odds_t c59 (hw.resolve_left (w_01 c65 c75)), bI_f hs9]; done), ⟨⟨_, _, _, _, _, _, _, _, _, _, _, _, _, _, _, _, _, _, _, H_md⟩, ⟨dl, H_mdl⟩, MdR.fr hR9 (fr_51) (by decide), ((fq.mono (by decide)).trans ((fr_51).mono (by decide)))⟩⟩)
        · refine e_sipush (v := 1000) d_X11_odds_78 (by decide) ?_
          refine e_iload d_X11_odds_81 rfl ?_
          refine e_imul d_X11_odds_83 ?_
          refine e_aloadn d_X11_odds_84 rfl ?_
          refine e_get d_X11_odds_85 f_X11_343 H_md rfl ?_
          refine e_idiv d_X11_odds_88 (fun z => far_D c59 ((nI_eq (b := 0) (by omega) (by decide)).mp z)) ?_
          refine e_gt d_X11_odds_89 ?_
          exact e_iret d_X11_odds_111 rfl (rfl) (⟨_, rfl, by first | (rw [odds_0 c59 c65]; done) | (rw [odds_1 c59 c75]; done) | (rw [odds_t c59 (hw.resolve_left (w_01 c65 c75)), bI_t hs9]; done) | (rw [odds_t c59 (hw.resolve_left (w_01 c65 c75)), bI_f hs9]; done), ⟨⟨_, _, _, _, _, _, _, _, _, _, _, _, _, _, _, _, _, _, _, H_md⟩, ⟨dl, H_mdl⟩, MdR.fr hR9 (fr_51) (by decide), ((fq.mono (by decide)).trans ((fr_51).mono (by decide)))⟩⟩)
      · refine e_iload d_X11_odds_68 rfl ?_
        refine e_gt d_X11_odds_70 ?_
        exact e_iret d_X11_odds_111 rfl (rfl) (⟨_, rfl, by first | (rw [odds_0 c59 c65]; done) | (rw [odds_1 c59 c75]; done) | (rw [odds_t c59 (hw.resolve_left (w_01 c65 c75)), bI_t hs9]; done) | (rw [odds_t c59 (hw.resolve_left (w_01 c65 c75)), bI_f hs9]; done), ⟨⟨_, _, _, _, _, _, _, _, _, _, _, _, _, _, _, _, _, _, _, H_md⟩, ⟨dl, H_mdl⟩, MdR.fr hR9 (fr_51) (by decide), ((fq.mono (by decide)).trans ((fr_51).mono (by decide)))⟩⟩)
    · refine e_iconst (v := -1) d_X11_odds_62 (by decide) ?_
      exact e_iret d_X11_odds_63 rfl (rfl) (⟨_, rfl, by rw [oddsA, if_pos c59], ⟨⟨_, _, _, _, _, _, _, _, _, _, _, _, _, _, _, _, _, _, _, H_md⟩, ⟨dl, H_mdl⟩, MdR.fr hR9 (fr_51) (by decide), ((fq.mono (by decide)).trans ((fr_51).mono (by decide)))⟩⟩)
