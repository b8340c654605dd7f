/-! THE MODEL: lost -/
/-- which way the model fills in -/
def uL (mo : Bool) (l : Int32) : Bool := if l = 0 then mo else !mo
theorem uL_0 {mo : Bool} {l : Int32} (h : l = 0) : uL mo l = mo := by rw [uL, if_pos h]
theorem uL_1 {mo : Bool} {l : Int32} (h : l = 1) : uL mo l = !mo := by rw [uL, if_neg (by rw [h]; decide)]
theorem lessn0 {l : Int32} (h : l = 0 ∨ l = 1) (hn : ¬ l = 1) : l = 0 := h.resolve_right hn
theorem uL_z {mo : Bool} {l z w : Int32} (hl : l = 0 ∨ l = 1) (h1 : (¬ l = 0 ∧ z = 0) ∨ (l = 0 ∧ z = 1)) (h2 : (¬ bI (mo = true) = z ∧ w = 0) ∨ (bI (mo = true) = z ∧ w = 1)) : w = bI (uL mo l = true) := by
  rcases hl with rfl | rfl
  · rw [uL_0 rfl]
    have hz : z = 1 := h1.elim (fun q => absurd rfl q.1) (fun q => q.2)
    subst hz
    rcases h2 with ⟨q, rfl⟩ | ⟨q, rfl⟩
    · rw [bI_f (fun m => q (bI_t m))]
    · rw [q]
  · rw [uL_1 rfl]
    have hz : z = 0 := h1.elim (fun q => q.2) (fun q => absurd q.1 (by decide))
    subst hz
    rcases h2 with ⟨q, rfl⟩ | ⟨q, rfl⟩
    · have := bI_1.mp (bI_z.resolve_left q)
      rw [this]; rfl
    · have := bI_0.mp q
      rw [bI_t (by simpa using this)]
theorem lo_flip {s r s2 r2 n k N : Nat} (h1 : s + s2 = 99 * k) (h2 : r + r2 = 99 * (N - k)) (hn : n = k) : Int32.ofInt ((-(((s * (N - n) : Nat) : Int) - ((r * n : Nat) : Int)) * 1000).tdiv ((n * (N - n) : Nat) : Int)) = Int32.ofInt (((((s2 * (N - n) : Nat) : Int) - ((r2 * n : Nat) : Int)) * 1000).tdiv ((n * (N - n) : Nat) : Int)) := by
  subst hn
  congr 3
  generalize N - n = m at *
  have g1 : (s : Int) = 99 * (n : Int) - (s2 : Int) := by omega
  have g2 : (r : Int) = 99 * (m : Int) - (r2 : Int) := by omega
  rw [Int.natCast_mul, Int.natCast_mul, Int.natCast_mul, Int.natCast_mul, g1, g2]
  grind
theorem s_X11_lost {h : AH} {N n S0 : Nat} {ca : Nat → Nat → Nat} {a : Nat → Int32} {ans less : Nat → Int32} {mtp mfl mfa mln mat mtk mso mto mwr mwp mop mfs mws mst mnc mnk mnr mdn : Int32} {mup mlo mgu mgl : Int64} {T : Nat} {mo : Bool} (H_md : Hs h 66 (oMd mtp mfl mfa mup mlo mln mat mtk mso mto mwr mwp mop mfs mws mst mnc mnk mnr mdn mgu mgl)) (H_a : Hs h 67 (aI 380 a)) (ha0 : a 0 = nI N) (hN : N ≤ 14) (hca : ∀ c k, c < N → k < 4 → ca c k ≤ 99) (hca4 : ∀ c k, c < N → k < 4 → a (10 + 5 * c + k) = nI (ca c k)) (ha1 : a 1 = nI n) (hn : n ≤ 12) (hbits : bitsOf (fun c => a (80 + c)) N = nI S0) (hS0 : S0 < 2 ^ N) (hV : ∀ t, t < 12 → ∀ c, c < 14 → ans (t * 14 + c) = -1 ∨ ∃ v, v ≤ 99 ∧ ans (t * 14 + c) = nI v) (hVm : ∀ t, t < n → ∀ c, c < N → a (150 + 14 * t + c) = -1 ∨ ∃ v, v ≤ 99 ∧ a (150 + 14 * t + c) = nI v) (R : ∀ t, t < n → mAn a ans less N t (2 ^ N - 1) 2) (hTn : T < n) (hAn : ∀ t, t < n → ∀ c, c < N → a (150 + 14 * t + c) = ans (t * 14 + c)) : Sp M_X11_lost (0, 0) h [.ref 66, .int (nI T), .int (bI (mo = true))] (rI (fun x h' => x = loA ans less T S0 mo N ∧ MdO h' mtp mfl mfa ∧ Fr [66] h h')) := by
  refine ⟨Nat.le_of_ble_eq_true rfl, ?_⟩
  show E _ _ _ 0 h [some (.ref 66), some (.int (nI T)), some (.int (bI (mo = true))), none, none, none, none, none, none, none] []
  have hS1 : S0 < 16384 := Nat.lt_of_lt_of_le hS0 (pw_31 N hN)
  have hpc := pc_14N hS0 hN
  refine e_aloadn d_X11_lost_0 rfl ?_
  refine e_callVI d_X11_lost_1 l_X11_lost_131 H_md rfl rfl (s_X11_hadBits H_md H_a ha0 hN) rfl rfl (Nat.le_of_ble_eq_true rfl) ?_
  rw [hbits]
  refine e_istoren d_X11_lost_4 (by decide) rfl ?_
  refine e_iloadn d_X11_lost_5 rfl ?_
  refine e_callSI d_X11_lost_6 l_X11_lost_350 (s_X11_ones hS1) rfl rfl (Nat.le_of_ble_eq_true rfl) ?_
  refine e_istore d_X11_lost_9 (by decide) rfl ?_
  refine e_aloadn d_X11_lost_11 rfl ?_
  refine e_iloadn d_X11_lost_12 rfl ?_
  refine e_callVI d_X11_lost_13 l_X11_lost_109 H_md rfl rfl (s_X11_isThing H_md H_a) rfl rfl (Nat.le_of_ble_eq_true rfl) ?_
  refine e_if_eq d_X11_lost_16 (fun z => by first | exact absurd (fun z => bI_0.mp z ⟨(nI_leI (a := 0) (by decide) (by omega)).mpr (by omega), by rw [ha1, nI_le1 (by omega)]; exact (nI_leI (by omega) (by omega)).mpr (by omega)⟩) z | exact absurd z (fun z => bI_0.mp z ⟨(nI_leI (a := 0) (by decide) (by omega)).mpr (by omega), by rw [ha1, nI_le1 (by omega)]; exact (nI_leI (by omega) (by omega)).mpr (by omega)⟩)) (fun _ => ?_)
  refine e_iload d_X11_lost_19 rfl ?_
  refine e_if_eq d_X11_lost_21 (fun c21 => ?_) (fun c21 => ?_)
  · have h0 : (pc S0 14) = 0 := (nI_eq (b := 0) (by omega) (by decide)).mp c21
    refine e_ldc d_X11_lost_35 v_X11_138 ?_
    exact e_iret d_X11_lost_37 rfl (rfl) (⟨_, rfl, by first | (rw [loA, if_pos (Or.inl h0)]; done) | (rw [loA, if_pos (Or.inr h1)]; done), ⟨_, _, _, _, _, _, _, _, _, _, _, _, _, _, _, _, _, _, _, H_md⟩, Fr.refl _ _⟩)
  · have h0 : 0 < (pc S0 14) := Nat.pos_of_ne_zero (fun z => c21 (by rw [z]; rfl))
    refine e_iload d_X11_lost_24 rfl ?_
    refine e_aloadn d_X11_lost_26 rfl ?_
    refine e_get d_X11_lost_27 f_X11_7 H_md rfl ?_
    refine e_iconst (v := 0) d_X11_lost_30 (by decide) ?_
    refine e_ialdN (k := 0) d_X11_lost_31 H_a rfl (by omega) (by omega) ?_
    rw [ha0]
    refine e_icmp_ne d_X11_lost_32 (fun c32 => ?_) (fun c32 => ?_)
    · have h1 : 0 < N - (pc S0 14) := by
        have : ¬ (pc S0 14) = N := fun z => c32 (by rw [z])
        omega
      refine e_iloadn d_X11_lost_38 rfl ?_
      refine e_aloadn d_X11_lost_39 rfl ?_
      refine e_iloadn d_X11_lost_40 rfl ?_
      refine e_iconst (v := 2) d_X11_lost_41 (by decide) ?_
      refine e_callVI d_X11_lost_42 l_X11_lost_123 H_md rfl rfl (s_X11_of (c := T) (d := 2) H_md H_a rfl rfl (by omega)) rfl rfl (Nat.le_of_ble_eq_true rfl) ?_
      rw [(R T hTn).2.2.1]
      refine e_dia 53 (0) (1) (fun kt kf => e_if_ne d_X11_lost_45 kt kf) (fun c_45 K_45 => ?_) (fun c_45 K_45 => ?_) (fun z_45 hz_45 => ?_)
      · refine e_iconst (v := 0) d_X11_lost_52 (by decide) ?_
        exact K_45
      · refine e_iconst (v := 1) d_X11_lost_48 (by decide) ?_
        refine e_gt d_X11_lost_49 ?_
        exact K_45
      · refine e_dia 61 (0) (1) (fun kt kf => e_icmp_ne d_X11_lost_53 kt kf) (fun c_53 K_53 => ?_) (fun c_53 K_53 => ?_) (fun z_53 hz_53 => ?_)
        · refine e_iconst (v := 0) d_X11_lost_60 (by decide) ?_
          exact K_53
        · refine e_iconst (v := 1) d_X11_lost_56 (by decide) ?_
          refine e_gt d_X11_lost_57 ?_
          exact K_53
        · have hz : z_53 = bI ((uL mo (less T)) = true) := uL_z (R T hTn).2.2.2 hz_45 hz_53
          subst hz
          refine e_istore d_X11_lost_61 (by decide) rfl ?_
          refine e_iconst (v := 0) d_X11_lost_63 (by decide) ?_
          refine e_istore d_X11_lost_64 (by decide) rfl ?_
          refine e_iconst (v := 0) d_X11_lost_66 (by decide) ?_
          refine e_istore d_X11_lost_67 (by decide) rfl ?_
          refine e_iconst (v := 0) d_X11_lost_69 (by decide) ?_
          refine e_istore d_X11_lost_70 (by decide) rfl ?_
          have hA_72 : ∀ i, i ≤ N → ∀ (s : Int32) (r : Int32) (y : Int32), (s = nI (mlS a T S0 (uL mo (less T)) i)) → (r = nI (mlR a T S0 (uL mo (less T)) i)) → (y = nI i) → E M_X11_lost (0, 0) (rI (fun x h' => x = loA ans less T S0 mo N ∧ MdO h' mtp mfl mfa ∧ Fr [66] h h')) 72 (h) [some (.ref 66), some (.int (nI T)), some (.int (bI (mo = true))), some (.int (nI S0)), some (.int (nI (pc S0 14))), some (.int (bI ((uL mo (less T)) = true))), some (.int s), some (.int r), some (.int y), none] [] := by
            refine loop_ind (n := N) ?_
            intro i hi_i ih_72 s r y h_s h_r h_y
            subst h_y
            refine e_iload d_X11_lost_72 rfl ?_
            refine e_aloadn d_X11_lost_74 rfl ?_
            refine e_get d_X11_lost_75 f_X11_7 H_md rfl ?_
            refine e_iconst (v := 0) d_X11_lost_78 (by decide) ?_
            refine e_ialdN (k := 0) d_X11_lost_79 H_a rfl (by omega) (by omega) ?_
            rw [ha0]
            refine e_icmp_ge d_X11_lost_80 (fun c => ?_) (fun c => ?_)
            · have c := i_le (by omega) (by omega) c
              obtain rfl : N = i := by omega
              have hs9 : (mlS a T S0 (uL mo (less T)) N) ≤ 1386 := by
                have := sm_le (f := fun c => if bt S0 c = true then mlV a T S0 (uL mo (less T)) c else 0) (b := 99) (k := N) (fun c hc => by
                  split
                  · exact mlV_99 (hVm T hTn c hc)
                  · omega)
                rw [mlS]; omega
              have hr9 : (mlR a T S0 (uL mo (less T)) N) ≤ 1386 := by
                have := sm_le (f := fun c => if bt S0 c = true then 0 else mlV a T S0 (uL mo (less T)) c) (b := 99) (k := N) (fun c hc => by
                  split
                  · omega
                  · exact mlV_99 (hVm T hTn c hc))
                rw [mlR]; omega
              have b1 := Nat.mul_le_mul hs9 (show N - (pc S0 14) ≤ 14 by omega)
              have b2 := Nat.mul_le_mul hr9 (show (pc S0 14) ≤ 14 by omega)
              have b3 := Nat.mul_le_mul (show (pc S0 14) ≤ 14 by omega) (show N - (pc S0 14) ≤ 14 by omega)
              have b4 := Nat.mul_pos h0 h1
              have hml := ml_l (less := less) (T := T) (S0 := S0) (mo := mo) (u := (uL mo (less T))) (fun c hc => hV T (by omega) c (by omega)) (fun c hc => hAn T hTn c hc)
              refine e_aloadn d_X11_lost_165 rfl ?_
              refine e_get d_X11_lost_166 f_X11_7 H_md rfl ?_
              refine e_iconst (v := 0) d_X11_lost_169 (by decide) ?_
              refine e_ialdN (k := 0) d_X11_lost_170 H_a rfl (by omega) (by omega) ?_
              rw [ha0]
              refine e_iload d_X11_lost_171 rfl ?_
              refine e_isub d_X11_lost_173 ?_
              rw [nI_subN hpc]
              refine e_istore d_X11_lost_174 (by decide) rfl ?_
              refine e_aloadn d_X11_lost_176 rfl ?_
              refine e_iload d_X11_lost_177 rfl ?_
              refine e_iload d_X11_lost_179 rfl ?_
              refine e_imul d_X11_lost_181 ?_
              refine e_iload d_X11_lost_182 rfl ?_
              refine e_iload d_X11_lost_184 rfl ?_
              refine e_imul d_X11_lost_186 ?_
              refine e_isub d_X11_lost_187 ?_
              rw [h_s, h_r, pk_mul, pk_mul, nI_subI]
              refine e_i2l d_X11_lost_188 ?_
              rw [i64_of32 (by omega) (by omega)]
              refine e_putj d_X11_lost_189 f_X11_119 H_md (Nat.le_of_ble_eq_true rfl) ?_
              refine e_aloadn d_X11_lost_192 rfl ?_
              refine e_iloadn d_X11_lost_193 rfl ?_
              refine e_iconst (v := 2) d_X11_lost_194 (by decide) ?_
              refine e_callVI d_X11_lost_195 l_X11_lost_123 H_md.s rfl rfl (s_X11_of (c := T) (d := 2) H_md.s (H_a.n (by decide)) rfl rfl (by omega)) rfl rfl (Nat.le_of_ble_eq_true rfl) ?_
              rw [(R T hTn).2.2.1]
              refine e_iconst (v := 1) d_X11_lost_198 (by decide) ?_
              refine e_icmp_ne d_X11_lost_199 (fun c199 => ?_) (fun c199 => ?_)
              · refine e_aloadn d_X11_lost_211 rfl ?_
                refine e_iload d_X11_lost_212 rfl ?_
                refine e_iload d_X11_lost_214 rfl ?_
                refine e_imul d_X11_lost_216 ?_
                rw [pk_mul]
                refine e_i2l d_X11_lost_217 ?_
                rw [show (nI ((pc S0 14) * (N - (pc S0 14)))).toInt64 = Int64.ofInt (((pc S0 14) * (N - (pc S0 14)) : Nat) : Int) from i64_of32 (z := (((pc S0 14) * (N - (pc S0 14)) : Nat) : Int)) (by omega) (by omega)]
                refine e_putj d_X11_lost_218 f_X11_126 H_md.s (Nat.le_of_ble_eq_true rfl) ?_
                refine e_aloadn d_X11_lost_221 rfl ?_
                refine e_callVI d_X11_lost_222 l_X11_lost_139 H_md.s.s rfl rfl (s_X11_thousandths H_md.s.s (by omega) (by omega)) rfl rfl (Nat.le_of_ble_eq_true rfl) ?_
                exact e_iret d_X11_lost_225 rfl (rfl) (⟨_, rfl, by rw [loA, if_neg (by omega)]; first | (rw [(hml.1 (lessn0 (R T hTn).2.2.2 c199) (uL_0 (lessn0 (R T hTn).2.2.2 c199))).1, (hml.1 (lessn0 (R T hTn).2.2.2 c199) (uL_0 (lessn0 (R T hTn).2.2.2 c199))).2]; done) | exact lo_flip (hml.2 c199 (uL_1 c199)).1 (hml.2 c199 (uL_1 c199)).2 (pc_N hS0 hN), ⟨_, _, _, _, _, _, _, _, _, _, _, _, _, _, _, _, _, _, _, H_md.s.s⟩, by first | exact (((Fr.refl [66] h).up (by decide)).up (by decide)) | exact ((((Fr.refl [66] h).up (by decide)).up (by decide)).up (by decide))⟩)
              · refine e_aloadn d_X11_lost_202 rfl ?_
                refine e_aloadn d_X11_lost_203 rfl ?_
                refine e_get d_X11_lost_204 f_X11_119 H_md.s rfl ?_
                refine e_lneg d_X11_lost_207 ?_
                rw [← Int64.ofInt_neg]
                refine e_putj d_X11_lost_208 f_X11_119 H_md.s (Nat.le_of_ble_eq_true rfl) ?_
                refine e_aloadn d_X11_lost_211 rfl ?_
                refine e_iload d_X11_lost_212 rfl ?_
                refine e_iload d_X11_lost_214 rfl ?_
                refine e_imul d_X11_lost_216 ?_
                rw [pk_mul]
                refine e_i2l d_X11_lost_217 ?_
                rw [show (nI ((pc S0 14) * (N - (pc S0 14)))).toInt64 = Int64.ofInt (((pc S0 14) * (N - (pc S0 14)) : Nat) : Int) from i64_of32 (z := (((pc S0 14) * (N - (pc S0 14)) : Nat) : Int)) (by omega) (by omega)]
                refine e_putj d_X11_lost_218 f_X11_126 H_md.s.s (Nat.le_of_ble_eq_true rfl) ?_
                refine e_aloadn d_X11_lost_221 rfl ?_
                refine e_callVI d_X11_lost_222 l_X11_lost_139 H_md.s.s.s rfl rfl (s_X11_thousandths H_md.s.s.s (by omega) (by omega)) rfl rfl (Nat.le_of_ble_eq_true rfl) ?_
                exact e_iret d_X11_lost_225 rfl (rfl) (⟨_, rfl, by rw [loA, if_neg (by omega)]; first | (rw [(hml.1 (lessn0 (R T hTn).2.2.2 c199) (uL_0 (lessn0 (R T hTn).2.2.2 c199))).1, (hml.1 (lessn0 (R T hTn).2.2.2 c199) (uL_0 (lessn0 (R T hTn).2.2.2 c199))).2]; done) | exact lo_flip (hml.2 c199 (uL_1 c199)).1 (hml.2 c199 (uL_1 c199)).2 (pc_N hS0 hN), ⟨_, _, _, _, _, _, _, _, _, _, _, _, _, _, _, _, _, _, _, H_md.s.s.s⟩, by first | exact (((Fr.refl [66] h).up (by decide)).up (by decide)) | exact ((((Fr.refl [66] h).up (by decide)).up (by decide)).up (by decide))⟩)
            · have c := i_nle (by omega) (by omega) c
              refine e_aloadn d_X11_lost_83 rfl ?_
              refine e_iloadn d_X11_lost_84 rfl ?_
              refine e_iload d_X11_lost_85 rfl ?_
              refine e_callVI d_X11_lost_87 l_X11_lost_112 H_md rfl rfl (s_X11_answerOf (c := T) (d := i) H_md H_a rfl rfl (by omega)) rfl rfl (Nat.le_of_ble_eq_true rfl) ?_
              refine e_istore d_X11_lost_90 (by decide) rfl ?_
              by_cases hb : bt S0 i = true
              · refine e_iloadn d_X11_lost_92 rfl ?_
                refine e_iload d_X11_lost_93 rfl ?_
                refine e_ishr d_X11_lost_95 ?_
                refine e_iconst (v := 1) d_X11_lost_96 (by decide) ?_
                refine e_iand d_X11_lost_97 ?_
                refine e_iconst (v := 1) d_X11_lost_98 (by decide) ?_
                refine e_icmp_ne d_X11_lost_99 (fun z => by first | exact absurd (fun z => z ((bit1 (by omega) (by omega)).mpr hb)) z | exact absurd z (fun z => z ((bit1 (by omega) (by omega)).mpr hb))) (fun _ => ?_)
                refine e_iload d_X11_lost_102 rfl ?_
                refine e_iload d_X11_lost_104 rfl ?_
                refine e_iconst (v := -1) d_X11_lost_106 (by decide) ?_
                refine e_icmp_eq d_X11_lost_107 (fun c9 => ?_) (fun c9 => ?_)
                · skip
                  refine e_iload d_X11_lost_115 rfl ?_
                  refine e_if_eq d_X11_lost_117 (fun c8 => ?_) (fun c8 => ?_)
                  · have hu : (uL mo (less T)) = false := Bool.eq_false_iff.mpr (bI_0.mp c8)
                    have hv : (0 : Int32) = nI (mlV a T S0 (uL mo (less T)) i) := by rw [mlV, if_pos c9, if_neg (by rw [hb, hu]; decide)]; rfl
                    refine e_iconst (v := 0) d_X11_lost_125 (by decide) ?_
                    refine e_iadd d_X11_lost_126 ?_
                    refine e_istore d_X11_lost_127 (by decide) rfl ?_
                    refine e_gt d_X11_lost_129 ?_
                    refine e_iincw (w := 1) d_X11_lost_159 rfl (by decide) (by decide) rfl ?_
                    refine e_gt d_X11_lost_162 ?_
                    refine e_drop1 9 ?_
                    refine ih_72 (i + 1) (by omega) (by omega) _ _ _ ?_ ?_ ?_
                    · first
                      | (rw [h_s, mlS, mlS, sm, if_pos hb, ← nI_add, ← hv]; done)
                      | (rw [h_s, mlS, mlS, sm, if_neg hb, Nat.add_zero]; done)
                    · first
                      | (rw [h_r, mlR, mlR, sm, if_neg hb, ← nI_add, ← hv]; done)
                      | (rw [h_r, mlR, mlR, sm, if_pos hb, Nat.add_zero]; done)
                    · exact nI_1 i
                  · have hu : (uL mo (less T)) = true := bI_1.mp (bI_z.resolve_left c8)
                    have hv : (99 : Int32) = nI (mlV a T S0 (uL mo (less T)) i) := by rw [mlV, if_pos c9, if_pos (by rw [hb, hu])]; rfl
                    refine e_bipush (v := 99) d_X11_lost_120 (by decide) ?_
                    refine e_gt d_X11_lost_122 ?_
                    refine e_iadd d_X11_lost_126 ?_
                    refine e_istore d_X11_lost_127 (by decide) rfl ?_
                    refine e_gt d_X11_lost_129 ?_
                    refine e_iincw (w := 1) d_X11_lost_159 rfl (by decide) (by decide) rfl ?_
                    refine e_gt d_X11_lost_162 ?_
                    refine e_drop1 9 ?_
                    refine ih_72 (i + 1) (by omega) (by omega) _ _ _ ?_ ?_ ?_
                    · first
                      | (rw [h_s, mlS, mlS, sm, if_pos hb, ← nI_add, ← hv]; done)
                      | (rw [h_s, mlS, mlS, sm, if_neg hb, Nat.add_zero]; done)
                    · first
                      | (rw [h_r, mlR, mlR, sm, if_neg hb, ← nI_add, ← hv]; done)
                      | (rw [h_r, mlR, mlR, sm, if_pos hb, Nat.add_zero]; done)
                    · exact nI_1 i
                · have hv : a (150 + 14 * T + i) = nI (mlV a T S0 (uL mo (less T)) i) := by
                    rcases hVm T hTn i c with e | ⟨v, hv, e⟩
                    · exact absurd e c9
                    · rw [mlV, if_neg c9, e, clamp99 hv]
                  refine e_iload d_X11_lost_110 rfl ?_
                  refine e_gt d_X11_lost_112 ?_
                  refine e_iadd d_X11_lost_126 ?_
                  refine e_istore d_X11_lost_127 (by decide) rfl ?_
                  refine e_gt d_X11_lost_129 ?_
                  refine e_iincw (w := 1) d_X11_lost_159 rfl (by decide) (by decide) rfl ?_
                  refine e_gt d_X11_lost_162 ?_
                  refine e_drop1 9 ?_
                  refine ih_72 (i + 1) (by omega) (by omega) _ _ _ ?_ ?_ ?_
                  · first
                    | (rw [h_s, mlS, mlS, sm, if_pos hb, ← nI_add, ← hv]; done)
                    | (rw [h_s, mlS, mlS, sm, if_neg hb, Nat.add_zero]; done)
                  · first
                    | (rw [h_r, mlR, mlR, sm, if_neg hb, ← nI_add, ← hv]; done)
                    | (rw [h_r, mlR, mlR, sm, if_pos hb, Nat.add_zero]; done)
                  · exact nI_1 i
              · refine e_iloadn d_X11_lost_92 rfl ?_
                refine e_iload d_X11_lost_93 rfl ?_
                refine e_ishr d_X11_lost_95 ?_
                refine e_iconst (v := 1) d_X11_lost_96 (by decide) ?_
                refine e_iand d_X11_lost_97 ?_
                refine e_iconst (v := 1) d_X11_lost_98 (by decide) ?_
                refine e_icmp_ne d_X11_lost_99 (fun _ => ?_) (fun z => by first | exact absurd (fun z => hb ((bit1 (by omega) (by omega)).mp z)) z | exact absurd z (fun z => hb ((bit1 (by omega) (by omega)).mp z)))
                refine e_iload d_X11_lost_132 rfl ?_
                refine e_iload d_X11_lost_134 rfl ?_
                refine e_iconst (v := -1) d_X11_lost_136 (by decide) ?_
                refine e_icmp_eq d_X11_lost_137 (fun c9 => ?_) (fun c9 => ?_)
                · skip
                  refine e_iload d_X11_lost_145 rfl ?_
                  refine e_if_eq d_X11_lost_147 (fun c8 => ?_) (fun c8 => ?_)
                  · have hu : (uL mo (less T)) = false := Bool.eq_false_iff.mpr (bI_0.mp c8)
                    have hv : (99 : Int32) = nI (mlV a T S0 (uL mo (less T)) i) := by rw [mlV, if_pos c9, if_pos (by rw [Bool.eq_false_iff.mpr hb, hu])]; rfl
                    refine e_bipush (v := 99) d_X11_lost_154 (by decide) ?_
                    refine e_iadd d_X11_lost_156 ?_
                    refine e_istore d_X11_lost_157 (by decide) rfl ?_
                    refine e_iincw (w := 1) d_X11_lost_159 rfl (by decide) (by decide) rfl ?_
                    refine e_gt d_X11_lost_162 ?_
                    refine e_drop1 9 ?_
                    refine ih_72 (i + 1) (by omega) (by omega) _ _ _ ?_ ?_ ?_
                    · first
                      | (rw [h_s, mlS, mlS, sm, if_pos hb, ← nI_add, ← hv]; done)
                      | (rw [h_s, mlS, mlS, sm, if_neg hb, Nat.add_zero]; done)
                    · first
                      | (rw [h_r, mlR, mlR, sm, if_neg hb, ← nI_add, ← hv]; done)
                      | (rw [h_r, mlR, mlR, sm, if_pos hb, Nat.add_zero]; done)
                    · exact nI_1 i
                  · have hu : (uL mo (less T)) = true := bI_1.mp (bI_z.resolve_left c8)
                    have hv : (0 : Int32) = nI (mlV a T S0 (uL mo (less T)) i) := by rw [mlV, if_pos c9, if_neg (by rw [Bool.eq_false_iff.mpr hb, hu]; decide)]; rfl
                    refine e_iconst (v := 0) d_X11_lost_150 (by decide) ?_
                    refine e_gt d_X11_lost_151 ?_
                    refine e_iadd d_X11_lost_156 ?_
                    refine e_istore d_X11_lost_157 (by decide) rfl ?_
                    refine e_iincw (w := 1) d_X11_lost_159 rfl (by decide) (by decide) rfl ?_
                    refine e_gt d_X11_lost_162 ?_
                    refine e_drop1 9 ?_
                    refine ih_72 (i + 1) (by omega) (by omega) _ _ _ ?_ ?_ ?_
                    · first
                      | (rw [h_s, mlS, mlS, sm, if_pos hb, ← nI_add, ← hv]; done)
                      | (rw [h_s, mlS, mlS, sm, if_neg hb, Nat.add_zero]; done)
                    · first
                      | (rw [h_r, mlR, mlR, sm, if_neg hb, ← nI_add, ← hv]; done)
                      | (rw [h_r, mlR, mlR, sm, if_pos hb, Nat.add_zero]; done)
                    · exact nI_1 i
                · have hv : a (150 + 14 * T + i) = nI (mlV a T S0 (uL mo (less T)) i) := by
                    rcases hVm T hTn i c with e | ⟨v, hv, e⟩
                    · exact absurd e c9
                    · rw [mlV, if_neg c9, e, clamp99 hv]
                  refine e_iload d_X11_lost_140 rfl ?_
                  refine e_gt d_X11_lost_142 ?_
                  refine e_iadd d_X11_lost_156 ?_
                  refine e_istore d_X11_lost_157 (by decide) rfl ?_
                  refine e_iincw (w := 1) d_X11_lost_159 rfl (by decide) (by decide) rfl ?_
                  refine e_gt d_X11_lost_162 ?_
                  refine e_drop1 9 ?_
                  refine ih_72 (i + 1) (by omega) (by omega) _ _ _ ?_ ?_ ?_
                  · first
                    | (rw [h_s, mlS, mlS, sm, if_pos hb, ← nI_add, ← hv]; done)
                    | (rw [h_s, mlS, mlS, sm, if_neg hb, Nat.add_zero]; done)
                  · first
                    | (rw [h_r, mlR, mlR, sm, if_neg hb, ← nI_add, ← hv]; done)
                    | (rw [h_r, mlR, mlR, sm, if_pos hb, Nat.add_zero]; done)
                  · exact nI_1 i
          exact hA_72 0 (by omega) _ _ _ (rfl) (rfl) (rfl)
    · have h1 : N - (pc S0 14) = 0 := by have := (nI_eq (by omega) (by omega)).mp c32; omega
      refine e_ldc d_X11_lost_35 v_X11_138 ?_
      exact e_iret d_X11_lost_37 rfl (rfl) (⟨_, rfl, by first | (rw [loA, if_pos (Or.inl h0)]; done) | (rw [loA, if_pos (Or.inr h1)]; done), ⟨_, _, _, _, _, _, _, _, _, _, _, _, _, _, _, _, _, _, _, H_md⟩, Fr.refl _ _⟩)
