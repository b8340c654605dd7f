/-! D, the model -/
theorem e_drop1 {M : MD} {κ : Nat × Nat} {Q : Option Value → AH → Prop} {pc : Nat} {h : AH} {ls : List (Option Value)} {st : List Value} (i : Nat) (k : E M κ Q pc h (ls.set i none) st) : E M κ Q pc h ls st := by
  refine e_dropl (ls.set i none) (fun j v hj => ?_) k
  rw [List.getElem?_set] at hj
  split at hj
  · split at hj <;> simp at hj
  · exact hj
theorem dN_succ {F : Nat → Bool} {S k : Nat} : dN F S (k + 1) = dN F S k + (if F k && bt S k then 1 else 0) := rfl
theorem dM_succ {F : Nat → Bool} {S k : Nat} : dM F S (k + 1) = dM F S k + (if F k && !bt S k then 1 else 0) := rfl
theorem dS_succ {F : Nat → Bool} {V : Nat → Nat} {S k : Nat} : dS F V S (k + 1) = dS F V S k + (if F k && bt S k then V k else 0) := rfl
theorem dR_succ {F : Nat → Bool} {V : Nat → Nat} {S k : Nat} : dR F V S (k + 1) = dR F V S k + (if F k && !bt S k then V k else 0) := rfl
/-- counted by the model: FOUND, and of the SEX -/
def mF (a : Nat → Int32) (T : Nat) (s : Int32) (c : Nat) : Bool := decide (a (150 + 14 * T + c) ≠ -1 ∧ (s = 2 ∨ a (10 + 5 * c + 0) = s))
def mV (a : Nat → Int32) (T c : Nat) : Nat := (a (150 + 14 * T + c)).toNatClampNeg
theorem bit0 {S c : Nat} (hS : S < 2 ^ 31) (hc : c < 31) (h : ¬ (nI S >>> (nI c &&& 31)) &&& 1 = 1) : bt S c = false := by
  cases e : bt S c
  · rfl
  · exact absurd ((bit1 hS hc).mpr e) h
theorem mV_99 {a : Nat → Int32} {T N : Nat} {s : Int32} (hV : ∀ c, c < N → a (150 + 14 * T + c) = -1 ∨ ∃ v, v ≤ 99 ∧ a (150 + 14 * T + c) = nI v) : ∀ c, c < N → mF a T s c = true → mV a T c ≤ 99 := by
  intro c hc hF
  simp only [mF, decide_eq_true_eq] at hF
  rcases hV c hc with h | ⟨v, hv, h⟩
  · exact absurd h hF.1
  · simp only [mV, h]; rw [nI_clamp (by omega)]; exact hv
theorem mV_eq {a : Nat → Int32} {T N : Nat} {s : Int32} (hV : ∀ c, c < N → a (150 + 14 * T + c) = -1 ∨ ∃ v, v ≤ 99 ∧ a (150 + 14 * T + c) = nI v) : ∀ c, c < N → mF a T s c = true → a (150 + 14 * T + c) = nI (mV a T c) := by
  intro c hc hF
  simp only [mF, decide_eq_true_eq] at hF
  rcases hV c hc with h | ⟨v, hv, h⟩
  · exact absurd h hF.1
  · simp only [mV, h]; rw [nI_clamp (by omega)]
theorem nI_subI (x y : Nat) : nI x - nI y = Int32.ofInt ((x : Int) - (y : Int)) := by rw [Int32.ofInt_sub]; rfl
theorem dU_long {F : Nat → Bool} {V : Nat → Nat} {S k : Nat} (hk : k ≤ 14) (hV : ∀ c, c < k → F c = true → V c ≤ 99) : (nI (dS F V S k) * nI (dM F S k) - nI (dR F V S k) * nI (dN F S k)).toInt64 = Int64.ofInt (dU F V S k) := by
  have hb := dU_bnd (S := S) hk hV
  rw [pk_mul, pk_mul, nI_subI]
  exact i64_of32 (by simp only [dU] at hb ⊢; omega) (by simp only [dU] at hb ⊢; omega)
theorem dL_long {F : Nat → Bool} {S k : Nat} (hk : k ≤ 14) : (nI (dN F S k) * nI (dM F S k)).toInt64 = Int64.ofInt ((dN F S k * dM F S k : Nat) : Int) := by
  have hb := dNM_mul (F := F) (S := S) hk
  rw [pk_mul, ofInt_nI]
  exact i64_of32 (by omega) (by omega)

theorem i_pos {n : Nat} (hn : n < 2 ^ 31) (h : ¬ nI n ≤ 0) : 0 < n := Nat.pos_of_ne_zero (fun z => h (by rw [z]; decide))
theorem i_np {n : Nat} (hn : n < 2 ^ 31) (h : nI n ≤ 0) : n = 0 := Nat.le_zero.mp ((nI_leI (b := 0) hn (by decide)).mp h)

theorem s_X11_differs {h : AH} {mtp mfl mfa mln mat mtk mso mto mwr mwp mop mfs mws mst mnc mnk mnr mdn : Int32} {mup mlo mgu mgl : Int64} {a : Nat → Int32} {s : Int32} {N T S : Nat} (H_md : Hs h 66 (oMd mtp mfl mfa mup mlo mln mat mtk mso mto mwr mwp mop mfs mws mst mnc mnk mnr mdn mgu mgl)) (H_a : Hs h 67 (aI 380 a)) (ha0 : a 0 = nI N) (hN : N ≤ 14) (hT : T < 12) (hS : S < 2 ^ 31) (hV : ∀ c, c < N → a (150 + 14 * T + c) = -1 ∨ ∃ v, v ≤ 99 ∧ a (150 + 14 * T + c) = nI v) : Sp M_X11_differs (0, 0) h [.ref 66, .int (nI T), .int (nI S), .int s] (pI (bI (0 < dN (mF a T s) S N ∧ 0 < dM (mF a T s) S N)) (up h 66 (oMd mtp mfl mfa (Int64.ofInt (if a (100 + 4 * T + 2) = 1 then -dU (mF a T s) (mV a T) S N else dU (mF a T s) (mV a T) S N)) (Int64.ofInt ((dN (mF a T s) S N * dM (mF a T s) S N : Nat) : Int)) mln mat mtk mso mto mwr mwp mop mfs mws mst mnc mnk mnr mdn mgu mgl))) := by
  refine ⟨Nat.le_of_ble_eq_true rfl, ?_⟩
  show E _ _ _ 0 h [some (.ref 66), some (.int (nI T)), some (.int (nI S)), some (.int s), none, none, none, none, none, none] []
  have hA : ∀ i, i ≤ N → ∀ (n : Int32) (m : Int32) (u : Int32) (r : Int32) (x : Int32), n = nI (dN (mF a T s) S i) → m = nI (dM (mF a T s) S i) → u = nI (dS (mF a T s) (mV a T) S i) → r = nI (dR (mF a T s) (mV a T) S i) → x = nI i → E M_X11_differs (0, 0) (pI (bI (0 < dN (mF a T s) S N ∧ 0 < dM (mF a T s) S N)) (up h 66 (oMd mtp mfl mfa (Int64.ofInt (if a (100 + 4 * T + 2) = 1 then -dU (mF a T s) (mV a T) S N else dU (mF a T s) (mV a T) S N)) (Int64.ofInt ((dN (mF a T s) S N * dM (mF a T s) S N : Nat) : Int)) mln mat mtk mso mto mwr mwp mop mfs mws mst mnc mnk mnr mdn mgu mgl))) 15 (h) [some (.ref 66), some (.int (nI T)), some (.int (nI S)), some (.int s), some (.int n), some (.int m), some (.int u), some (.int r), some (.int x), none] [] := by
    have dN_31 : dN (mF a T s) S N < 2 ^ 31 := Nat.lt_of_le_of_lt dN_le (by omega)
    have dM_31 : dM (mF a T s) S N < 2 ^ 31 := Nat.lt_of_le_of_lt dM_le (by omega)
    refine loop_ind (n := N) ?_
    intro i hi ih n m u r x h_n h_m h_u h_r h_x
    refine e_iload d_X11_differs_15 rfl ?_
    refine e_aloadn d_X11_differs_17 rfl ?_
    refine e_get d_X11_differs_18 f_X11_7 H_md rfl ?_
    refine e_iconst (v := 0) d_X11_differs_21 (by decide) ?_
    refine e_ialdN (k := 0) d_X11_differs_22 H_a rfl (by decide) (by decide) ?_
    subst h_x
    rw [ha0]
    refine e_icmp_ge d_X11_differs_23 (fun c => ?_) (fun c => ?_)
    · have c := i_le (by omega) (by omega) c
      obtain rfl : i = N := by omega
      refine e_aloadn d_X11_differs_96 rfl ?_
      refine e_iload d_X11_differs_97 rfl ?_
      refine e_iload d_X11_differs_99 rfl ?_
      refine e_imul d_X11_differs_101 ?_
      refine e_iload d_X11_differs_102 rfl ?_
      refine e_iload d_X11_differs_104 rfl ?_
      refine e_imul d_X11_differs_106 ?_
      refine e_isub d_X11_differs_107 ?_
      refine e_i2l d_X11_differs_108 ?_
      rw [h_n, h_m, h_u, h_r, dU_long hN (mV_99 hV)]
      refine e_putj d_X11_differs_109 f_X11_119 H_md (Nat.le_of_ble_eq_true rfl) ?_
      refine e_aloadn d_X11_differs_112 rfl ?_
      refine e_iloadn d_X11_differs_113 rfl ?_
      refine e_iconst (v := 2) d_X11_differs_114 (by decide) ?_
      refine e_callVI d_X11_differs_115 l_X11_differs_123 H_md.s rfl rfl (s_X11_of (c := T) (d := 2) H_md.s (H_a.n (by decide)) rfl rfl (by omega)) rfl rfl (Nat.le_of_ble_eq_true rfl) ?_
      refine e_iconst (v := 1) d_X11_differs_118 (by decide) ?_
      refine e_icmp_ne d_X11_differs_119 (fun c_119 => ?_) (fun c_119 => ?_)
      · refine e_aloadn d_X11_differs_131 rfl ?_
        refine e_iload d_X11_differs_132 rfl ?_
        refine e_iload d_X11_differs_134 rfl ?_
        refine e_imul d_X11_differs_136 ?_
        refine e_i2l d_X11_differs_137 ?_
        rw [dL_long hN]
        refine e_putj d_X11_differs_138 f_X11_126 H_md.s (Nat.le_of_ble_eq_true rfl) ?_
        refine e_iload d_X11_differs_141 rfl ?_
        refine e_if_le d_X11_differs_143 (fun c_143 => ?_) (fun c_143 => ?_)
        · refine e_iconst (v := 0) d_X11_differs_155 (by decide) ?_
          exact e_iret d_X11_differs_156 rfl (rfl) (⟨by first | (rw [bI_t ⟨i_pos dN_31 c_143, i_pos dM_31 c_148⟩]; done) | (rw [bI_f (fun z => absurd z.1 (by have := i_np dN_31 c_143; omega))]; done) | (rw [bI_f (fun z => absurd z.2 (by have := i_np dM_31 c_148; omega))]; done), by simp only [up_up]; first | (rw [if_neg (by assumption)]; rfl) | (rw [if_pos (by assumption), Int64.ofInt_neg]; rfl)⟩)
        · refine e_iload d_X11_differs_146 rfl ?_
          refine e_if_le d_X11_differs_148 (fun c_148 => ?_) (fun c_148 => ?_)
          · refine e_iconst (v := 0) d_X11_differs_155 (by decide) ?_
            exact e_iret d_X11_differs_156 rfl (rfl) (⟨by first | (rw [bI_t ⟨i_pos dN_31 c_143, i_pos dM_31 c_148⟩]; done) | (rw [bI_f (fun z => absurd z.1 (by have := i_np dN_31 c_143; omega))]; done) | (rw [bI_f (fun z => absurd z.2 (by have := i_np dM_31 c_148; omega))]; done), by simp only [up_up]; first | (rw [if_neg (by assumption)]; rfl) | (rw [if_pos (by assumption), Int64.ofInt_neg]; rfl)⟩)
          · refine e_iconst (v := 1) d_X11_differs_151 (by decide) ?_
            refine e_gt d_X11_differs_152 ?_
            exact e_iret d_X11_differs_156 rfl (rfl) (⟨by first | (rw [bI_t ⟨i_pos dN_31 c_143, i_pos dM_31 c_148⟩]; done) | (rw [bI_f (fun z => absurd z.1 (by have := i_np dN_31 c_143; omega))]; done) | (rw [bI_f (fun z => absurd z.2 (by have := i_np dM_31 c_148; omega))]; done), by simp only [up_up]; first | (rw [if_neg (by assumption)]; rfl) | (rw [if_pos (by assumption), Int64.ofInt_neg]; rfl)⟩)
      · refine e_aloadn d_X11_differs_122 rfl ?_
        refine e_aloadn d_X11_differs_123 rfl ?_
        refine e_get d_X11_differs_124 f_X11_119 H_md.s rfl ?_
        refine e_lneg d_X11_differs_127 ?_
        refine e_putj d_X11_differs_128 f_X11_119 H_md.s (Nat.le_of_ble_eq_true rfl) ?_
        refine e_aloadn d_X11_differs_131 rfl ?_
        refine e_iload d_X11_differs_132 rfl ?_
        refine e_iload d_X11_differs_134 rfl ?_
        refine e_imul d_X11_differs_136 ?_
        refine e_i2l d_X11_differs_137 ?_
        rw [dL_long hN]
        refine e_putj d_X11_differs_138 f_X11_126 H_md.s.s (Nat.le_of_ble_eq_true rfl) ?_
        refine e_iload d_X11_differs_141 rfl ?_
        refine e_if_le d_X11_differs_143 (fun c_143 => ?_) (fun c_143 => ?_)
        · refine e_iconst (v := 0) d_X11_differs_155 (by decide) ?_
          exact e_iret d_X11_differs_156 rfl (rfl) (⟨by first | (rw [bI_t ⟨i_pos dN_31 c_143, i_pos dM_31 c_148⟩]; done) | (rw [bI_f (fun z => absurd z.1 (by have := i_np dN_31 c_143; omega))]; done) | (rw [bI_f (fun z => absurd z.2 (by have := i_np dM_31 c_148; omega))]; done), by simp only [up_up]; first | (rw [if_neg (by assumption)]; rfl) | (rw [if_pos (by assumption), Int64.ofInt_neg]; rfl)⟩)
        · refine e_iload d_X11_differs_146 rfl ?_
          refine e_if_le d_X11_differs_148 (fun c_148 => ?_) (fun c_148 => ?_)
          · refine e_iconst (v := 0) d_X11_differs_155 (by decide) ?_
            exact e_iret d_X11_differs_156 rfl (rfl) (⟨by first | (rw [bI_t ⟨i_pos dN_31 c_143, i_pos dM_31 c_148⟩]; done) | (rw [bI_f (fun z => absurd z.1 (by have := i_np dN_31 c_143; omega))]; done) | (rw [bI_f (fun z => absurd z.2 (by have := i_np dM_31 c_148; omega))]; done), by simp only [up_up]; first | (rw [if_neg (by assumption)]; rfl) | (rw [if_pos (by assumption), Int64.ofInt_neg]; rfl)⟩)
          · refine e_iconst (v := 1) d_X11_differs_151 (by decide) ?_
            refine e_gt d_X11_differs_152 ?_
            exact e_iret d_X11_differs_156 rfl (rfl) (⟨by first | (rw [bI_t ⟨i_pos dN_31 c_143, i_pos dM_31 c_148⟩]; done) | (rw [bI_f (fun z => absurd z.1 (by have := i_np dN_31 c_143; omega))]; done) | (rw [bI_f (fun z => absurd z.2 (by have := i_np dM_31 c_148; omega))]; done), by simp only [up_up]; first | (rw [if_neg (by assumption)]; rfl) | (rw [if_pos (by assumption), Int64.ofInt_neg]; rfl)⟩)
    · have c := i_nle (by omega) (by omega) c
      refine e_aloadn d_X11_differs_26 rfl ?_
      refine e_iloadn d_X11_differs_27 rfl ?_
      refine e_iload d_X11_differs_28 rfl ?_
      refine e_callVI d_X11_differs_30 l_X11_differs_112 H_md rfl rfl (s_X11_answerOf (c := T) (d := i) H_md H_a rfl rfl (by omega)) rfl rfl (Nat.le_of_ble_eq_true rfl) ?_
      refine e_istore d_X11_differs_33 (by decide) rfl ?_
      refine e_iload d_X11_differs_35 rfl ?_
      refine e_iconst (v := -1) d_X11_differs_37 (by decide) ?_
      refine e_icmp_eq d_X11_differs_38 (fun c_38 => ?_) (fun c_38 => ?_)
      · have hF : mF a T s i = false := by simp [mF, c_38]
        refine e_iincw (w := 1) d_X11_differs_90 rfl (by decide) (by decide) rfl ?_
        refine e_gt d_X11_differs_93 ?_
        refine e_drop1 9 ?_
        refine ih (i + 1) (by omega) (by omega) _ _ _ _ _ ?_ ?_ ?_ ?_ ?_
        · simp only [dN_succ, dM_succ, dS_succ, dR_succ, hF, h_n, h_m, h_u, h_r]; first | (simp; done) | (simp [hb, nI_1]; done) | (rw [hv]; simp [hb, nI_add]; done)
        · simp only [dN_succ, dM_succ, dS_succ, dR_succ, hF, h_n, h_m, h_u, h_r]; first | (simp; done) | (simp [hb, nI_1]; done) | (rw [hv]; simp [hb, nI_add]; done)
        · simp only [dN_succ, dM_succ, dS_succ, dR_succ, hF, h_n, h_m, h_u, h_r]; first | (simp; done) | (simp [hb, nI_1]; done) | (rw [hv]; simp [hb, nI_add]; done)
        · simp only [dN_succ, dM_succ, dS_succ, dR_succ, hF, h_n, h_m, h_u, h_r]; first | (simp; done) | (simp [hb, nI_1]; done) | (rw [hv]; simp [hb, nI_add]; done)
        · exact nI_1 i
      · refine e_iloadn d_X11_differs_41 rfl ?_
        refine e_iconst (v := 2) d_X11_differs_42 (by decide) ?_
        refine e_icmp_eq d_X11_differs_43 (fun c_43 => ?_) (fun c_43 => ?_)
        · refine e_iloadn d_X11_differs_57 rfl ?_
          refine e_iload d_X11_differs_58 rfl ?_
          refine e_ishr d_X11_differs_60 ?_
          refine e_iconst (v := 1) d_X11_differs_61 (by decide) ?_
          refine e_iand d_X11_differs_62 ?_
          refine e_iconst (v := 1) d_X11_differs_63 (by decide) ?_
          have hF : mF a T s i = true := by simp only [mF, decide_eq_true_eq]; exact ⟨c_38, by first | exact Or.inl c_43 | exact Or.inr c_54⟩
          have hv := mV_eq hV i c hF
          refine e_icmp_ne d_X11_differs_64 (fun c_64 => ?_) (fun c_64 => ?_)
          · have hb := bit0 hS (by omega) c_64
            refine e_iincw (w := 1) d_X11_differs_80 rfl (by decide) (by decide) rfl ?_
            refine e_iload d_X11_differs_83 rfl ?_
            refine e_iload d_X11_differs_85 rfl ?_
            refine e_iadd d_X11_differs_87 ?_
            refine e_istore d_X11_differs_88 (by decide) rfl ?_
            refine e_iincw (w := 1) d_X11_differs_90 rfl (by decide) (by decide) rfl ?_
            refine e_gt d_X11_differs_93 ?_
            refine e_drop1 9 ?_
            refine ih (i + 1) (by omega) (by omega) _ _ _ _ _ ?_ ?_ ?_ ?_ ?_
            · simp only [dN_succ, dM_succ, dS_succ, dR_succ, hF, h_n, h_m, h_u, h_r]; first | (simp; done) | (simp [hb, nI_1]; done) | (rw [hv]; simp [hb, nI_add]; done)
            · simp only [dN_succ, dM_succ, dS_succ, dR_succ, hF, h_n, h_m, h_u, h_r]; first | (simp; done) | (simp [hb, nI_1]; done) | (rw [hv]; simp [hb, nI_add]; done)
            · simp only [dN_succ, dM_succ, dS_succ, dR_succ, hF, h_n, h_m, h_u, h_r]; first | (simp; done) | (simp [hb, nI_1]; done) | (rw [hv]; simp [hb, nI_add]; done)
            · simp only [dN_succ, dM_succ, dS_succ, dR_succ, hF, h_n, h_m, h_u, h_r]; first | (simp; done) | (simp [hb, nI_1]; done) | (rw [hv]; simp [hb, nI_add]; done)
            · exact nI_1 i
          · have hb := (bit1 hS (by omega)).mp c_64
            refine e_iincw (w := 1) d_X11_differs_67 rfl (by decide) (by decide) rfl ?_
            refine e_iload d_X11_differs_70 rfl ?_
            refine e_iload d_X11_differs_72 rfl ?_
            refine e_iadd d_X11_differs_74 ?_
            refine e_istore d_X11_differs_75 (by decide) rfl ?_
            refine e_gt d_X11_differs_77 ?_
            refine e_iincw (w := 1) d_X11_differs_90 rfl (by decide) (by decide) rfl ?_
            refine e_gt d_X11_differs_93 ?_
            refine e_drop1 9 ?_
            refine ih (i + 1) (by omega) (by omega) _ _ _ _ _ ?_ ?_ ?_ ?_ ?_
            · simp only [dN_succ, dM_succ, dS_succ, dR_succ, hF, h_n, h_m, h_u, h_r]; first | (simp; done) | (simp [hb, nI_1]; done) | (rw [hv]; simp [hb, nI_add]; done)
            · simp only [dN_succ, dM_succ, dS_succ, dR_succ, hF, h_n, h_m, h_u, h_r]; first | (simp; done) | (simp [hb, nI_1]; done) | (rw [hv]; simp [hb, nI_add]; done)
            · simp only [dN_succ, dM_succ, dS_succ, dR_succ, hF, h_n, h_m, h_u, h_r]; first | (simp; done) | (simp [hb, nI_1]; done) | (rw [hv]; simp [hb, nI_add]; done)
            · simp only [dN_succ, dM_succ, dS_succ, dR_succ, hF, h_n, h_m, h_u, h_r]; first | (simp; done) | (simp [hb, nI_1]; done) | (rw [hv]; simp [hb, nI_add]; done)
            · exact nI_1 i
        · refine e_aloadn d_X11_differs_46 rfl ?_
          refine e_iload d_X11_differs_47 rfl ?_
          refine e_iconst (v := 0) d_X11_differs_49 (by decide) ?_
          refine e_callVI d_X11_differs_50 l_X11_differs_116 H_md rfl rfl (s_X11_childOf (c := i) (d := 0) H_md H_a rfl rfl (by omega)) rfl rfl (Nat.le_of_ble_eq_true rfl) ?_
          refine e_iloadn d_X11_differs_53 rfl ?_
          refine e_icmp_ne d_X11_differs_54 (fun c_54 => ?_) (fun c_54 => ?_)
          · have hF : mF a T s i = false := by simp only [mF, decide_eq_false_iff_not]; exact fun z => z.2.elim c_43 c_54
            refine e_iincw (w := 1) d_X11_differs_90 rfl (by decide) (by decide) rfl ?_
            refine e_gt d_X11_differs_93 ?_
            refine e_drop1 9 ?_
            refine ih (i + 1) (by omega) (by omega) _ _ _ _ _ ?_ ?_ ?_ ?_ ?_
            · simp only [dN_succ, dM_succ, dS_succ, dR_succ, hF, h_n, h_m, h_u, h_r]; first | (simp; done) | (simp [hb, nI_1]; done) | (rw [hv]; simp [hb, nI_add]; done)
            · simp only [dN_succ, dM_succ, dS_succ, dR_succ, hF, h_n, h_m, h_u, h_r]; first | (simp; done) | (simp [hb, nI_1]; done) | (rw [hv]; simp [hb, nI_add]; done)
            · simp only [dN_succ, dM_succ, dS_succ, dR_succ, hF, h_n, h_m, h_u, h_r]; first | (simp; done) | (simp [hb, nI_1]; done) | (rw [hv]; simp [hb, nI_add]; done)
            · simp only [dN_succ, dM_succ, dS_succ, dR_succ, hF, h_n, h_m, h_u, h_r]; first | (simp; done) | (simp [hb, nI_1]; done) | (rw [hv]; simp [hb, nI_add]; done)
            · exact nI_1 i
          · refine e_iloadn d_X11_differs_57 rfl ?_
            refine e_iload d_X11_differs_58 rfl ?_
            refine e_ishr d_X11_differs_60 ?_
            refine e_iconst (v := 1) d_X11_differs_61 (by decide) ?_
            refine e_iand d_X11_differs_62 ?_
            refine e_iconst (v := 1) d_X11_differs_63 (by decide) ?_
            have hF : mF a T s i = true := by simp only [mF, decide_eq_true_eq]; exact ⟨c_38, by first | exact Or.inl c_43 | exact Or.inr c_54⟩
            have hv := mV_eq hV i c hF
            refine e_icmp_ne d_X11_differs_64 (fun c_64 => ?_) (fun c_64 => ?_)
            · have hb := bit0 hS (by omega) c_64
              refine e_iincw (w := 1) d_X11_differs_80 rfl (by decide) (by decide) rfl ?_
              refine e_iload d_X11_differs_83 rfl ?_
              refine e_iload d_X11_differs_85 rfl ?_
              refine e_iadd d_X11_differs_87 ?_
              refine e_istore d_X11_differs_88 (by decide) rfl ?_
              refine e_iincw (w := 1) d_X11_differs_90 rfl (by decide) (by decide) rfl ?_
              refine e_gt d_X11_differs_93 ?_
              refine e_drop1 9 ?_
              refine ih (i + 1) (by omega) (by omega) _ _ _ _ _ ?_ ?_ ?_ ?_ ?_
              · simp only [dN_succ, dM_succ, dS_succ, dR_succ, hF, h_n, h_m, h_u, h_r]; first | (simp; done) | (simp [hb, nI_1]; done) | (rw [hv]; simp [hb, nI_add]; done)
              · simp only [dN_succ, dM_succ, dS_succ, dR_succ, hF, h_n, h_m, h_u, h_r]; first | (simp; done) | (simp [hb, nI_1]; done) | (rw [hv]; simp [hb, nI_add]; done)
              · simp only [dN_succ, dM_succ, dS_succ, dR_succ, hF, h_n, h_m, h_u, h_r]; first | (simp; done) | (simp [hb, nI_1]; done) | (rw [hv]; simp [hb, nI_add]; done)
              · simp only [dN_succ, dM_succ, dS_succ, dR_succ, hF, h_n, h_m, h_u, h_r]; first | (simp; done) | (simp [hb, nI_1]; done) | (rw [hv]; simp [hb, nI_add]; done)
              · exact nI_1 i
            · have hb := (bit1 hS (by omega)).mp c_64
              refine e_iincw (w := 1) d_X11_differs_67 rfl (by decide) (by decide) rfl ?_
              refine e_iload d_X11_differs_70 rfl ?_
              refine e_iload d_X11_differs_72 rfl ?_
              refine e_iadd d_X11_differs_74 ?_
              refine e_istore d_X11_differs_75 (by decide) rfl ?_
              refine e_gt d_X11_differs_77 ?_
              refine e_iincw (w := 1) d_X11_differs_90 rfl (by decide) (by decide) rfl ?_
              refine e_gt d_X11_differs_93 ?_
              refine e_drop1 9 ?_
              refine ih (i + 1) (by omega) (by omega) _ _ _ _ _ ?_ ?_ ?_ ?_ ?_
              · simp only [dN_succ, dM_succ, dS_succ, dR_succ, hF, h_n, h_m, h_u, h_r]; first | (simp; done) | (simp [hb, nI_1]; done) | (rw [hv]; simp [hb, nI_add]; done)
              · simp only [dN_succ, dM_succ, dS_succ, dR_succ, hF, h_n, h_m, h_u, h_r]; first | (simp; done) | (simp [hb, nI_1]; done) | (rw [hv]; simp [hb, nI_add]; done)
              · simp only [dN_succ, dM_succ, dS_succ, dR_succ, hF, h_n, h_m, h_u, h_r]; first | (simp; done) | (simp [hb, nI_1]; done) | (rw [hv]; simp [hb, nI_add]; done)
              · simp only [dN_succ, dM_succ, dS_succ, dR_succ, hF, h_n, h_m, h_u, h_r]; first | (simp; done) | (simp [hb, nI_1]; done) | (rw [hv]; simp [hb, nI_add]; done)
              · exact nI_1 i
  refine e_iconst (v := 0) d_X11_differs_0 (by decide) ?_
  refine e_istore d_X11_differs_1 (by decide) rfl ?_
  refine e_iconst (v := 0) d_X11_differs_3 (by decide) ?_
  refine e_istore d_X11_differs_4 (by decide) rfl ?_
  refine e_iconst (v := 0) d_X11_differs_6 (by decide) ?_
  refine e_istore d_X11_differs_7 (by decide) rfl ?_
  refine e_iconst (v := 0) d_X11_differs_9 (by decide) ?_
  refine e_istore d_X11_differs_10 (by decide) rfl ?_
  refine e_iconst (v := 0) d_X11_differs_12 (by decide) ?_
  refine e_istore d_X11_differs_13 (by decide) rfl ?_
  exact hA 0 (by omega) _ _ _ _ _ (rfl) (rfl) (rfl) (rfl) (rfl)
