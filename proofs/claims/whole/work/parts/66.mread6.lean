/-! THE MODEL'S READER: operators -/
theorem tk_ar {t : Nat} {so to : Int32} (h : TkM t so to) (hs : so = 3) (ht : to = 43 ∨ to = 45 ∨ to = 42 ∨ to = 47) : 27 ≤ t ∧ t ≤ 30 ∧ to = nI (encO t) := by
  have h9 : ∀ c, c < 35 → 21 ≤ c ∧ c ≠ 31 → (msg c = 43 ∨ msg c = 45 ∨ msg c = 42 ∨ msg c = 47) → 27 ≤ c ∧ c ≤ 30 ∧ encO c = msg c := by decide +kernel
  rcases tk_sign h hs with ⟨h1, h2, h3, e⟩ | ⟨-, e⟩
  · subst e
    have hm := (msg_tbl t (by omega) h1 h3).1
    have q : ∀ k, k < 1000 → nI (msg t) = nI k → msg t = k := fun k hk z => (nI_eq (by omega) (by omega)).mp z
    obtain ⟨g1, g2, g3⟩ := h9 t (by omega) ⟨h1, h3⟩ (by
      rcases ht with z | z | z | z
      · exact Or.inl (q 43 (by decide) z)
      · exact Or.inr (Or.inl (q 45 (by decide) z))
      · exact Or.inr (Or.inr (Or.inl (q 42 (by decide) z)))
      · exact Or.inr (Or.inr (Or.inr (q 47 (by decide) z))))
    exact ⟨g1, g2, by rw [g3]⟩
  · subst e
    rcases ht with z | z | z | z <;> exact absurd z (by decide)
theorem tk_nar {t : Nat} {so to : Int32} (h : TkM t so to) (ht : 27 ≤ t ∧ t ≤ 30) : so = 3 ∧ (to = 43 ∨ to = 45 ∨ to = 42 ∨ to = 47) := by
  obtain ⟨h1, h2⟩ := (tk_sg h (c := t) (by omega) (by omega) (by omega)).mpr rfl
  refine ⟨h1, ?_⟩
  rcases (by omega : t = 27 ∨ t = 28 ∨ t = 29 ∨ t = 30) with rfl | rfl | rfl | rfl
  · exact Or.inl h2
  · exact Or.inr (Or.inl h2)
  · exact Or.inr (Or.inr (Or.inl h2))
  · exact Or.inr (Or.inr (Or.inr h2))
theorem tk_ask {t : Nat} {so to : Int32} (h : TkM t so to) (hs : so = 3) : ∃ k, k < 1000 ∧ to = nI k ∧ ((k = 60 ∨ k = 62 ∨ k = 61 ∨ k = 35 ∨ k = 300 ∨ k = 301) ↔ (21 ≤ t ∧ t ≤ 26)) ∧ (21 ≤ t ∧ t ≤ 26 → k = encO t) := by
  have h9 : ∀ c, c < 35 → 21 ≤ c ∧ c ≠ 31 → ((msg c = 60 ∨ msg c = 62 ∨ msg c = 61 ∨ msg c = 35 ∨ msg c = 300 ∨ msg c = 301) ↔ (21 ≤ c ∧ c ≤ 26)) ∧ (21 ≤ c ∧ c ≤ 26 → msg c = encO c) := by decide +kernel
  rcases tk_sign h hs with ⟨h1, h2, h3, e⟩ | ⟨e0, e⟩
  · exact ⟨msg t, (msg_tbl t (by omega) h1 h3).1, e, (h9 t (by omega) ⟨h1, h3⟩).1, (h9 t (by omega) ⟨h1, h3⟩).2⟩
  · exact ⟨44, by decide, e, by omega, fun z => by omega⟩
theorem mr_S : ∀ t, t < 4 → ∀ x, x < 4 → (mrk (27 + t) ≤ mrk (27 + x) ↔ rkc (27 + t) ≤ rkc (27 + x)) := by decide +kernel
theorem mr_vS {t : Nat} {w : List Nat} (hw : vS w) (h1 : 27 ≤ t) (h2 : t ≤ 30) : ∀ x, x ∈ w → (mrk t ≤ mrk x ↔ rkc t ≤ rkc x) := fun x hx => by
  have hx := (vS_in hw).1 x hx
  have := mr_S (t - 27) (by omega) (x - 27) (by omega)
  rwa [show 27 + (t - 27) = t by omega, show 27 + (x - 27) = x by omega] at this
theorem mr_vE {t : Nat} {w : List Nat} (hw : vE w) (ht : t = 12 ∨ t = 13) : ∀ x, x ∈ w → (mrk t ≤ mrk x ↔ rkc t ≤ rkc x) := fun x hx => by
  rcases (vE_in hw).1 x hx with rfl | rfl <;> rcases ht with rfl | rfl <;> decide
theorem st_5 {w : List Nat} (hw : vS w) : stk 5 w = w ∧ sdr 5 w = [] ∧ ∀ x, x ∈ w → (3 ≤ mrk x ↔ 5 ≤ rkc x) := by
  have hm := (vS_in hw).1
  have := stk_app (r := 5) (a := w) (b := []) (fun x hx => by have := hm x hx; exact (rkc_S x (by omega) (by omega)).1) (fun x hx => by simp at hx)
  rw [List.append_nil] at this
  refine ⟨this.1, this.2, fun x hx => ?_⟩
  have hx := hm x hx
  rcases (by omega : x = 27 ∨ x = 28 ∨ x = 29 ∨ x = 30) with rfl | rfl | rfl | rfl <;> decide
/-- behind an ASK: the model between -/
def MC3 (h : AH) (tb : Nat → Nat) (L s : Nat) (G : LV) (nd : Nat) (kd : Nat → Nat) (cd : Nat → List Nat) (my ne : Int32) : Prop := ∃ r, MdP h tb L s 0 (-1) (nO G) G.length (nW G) nd r 3 (nI (kd nd - 14)) ∧ MGs h G ∧ MN h nd true kd cd my ne r
def gAsk3 (t : Nat) (e : List Nat) (nc : Nat) (kd : Nat → Nat) (cd : Nat → List Nat) (my ne : Int32) : Nat × PS := if t = 34 then (0, (4, [], nc, kd, cdA cd nc e, my, ne)) else if t = 12 ∨ t = 13 then (0, (0, [(2, t :: sdr (rkc t) e)], nc, kd, cdA cd nc (stk (rkc t) e), my, ne)) else (1, (2, [], nc, kd, cd, my, ne))
theorem gAsk_3 {t f nc : Nat} {w e : List Nat} {r : LV} {kd : Nat → Nat} {cd : Nat → List Nat} {my ne : Int32} (h : unt r = [(2, e)]) : (gAsk t f w r nc kd cd my ne).1 = (gAsk3 t e nc kd (cdA cd nc (w ++ ([f] ++ List.replicate (nts r) 11))) my ne).1 ∧ ((gAsk t f w r nc kd cd my ne).1 = 0 → (gAsk t f w r nc kd cd my ne).2 = (gAsk3 t e nc kd (cdA cd nc (w ++ ([f] ++ List.replicate (nts r) 11))) my ne).2) := by
  unfold gAsk gAsk3
  simp only [h]
  by_cases h1 : t = 34
  · rw [if_pos h1, if_pos h1, cdA_app]
    exact ⟨rfl, fun _ => by simp only [List.append_assoc]⟩
  · rw [if_neg h1, if_neg h1]
    by_cases h2 : t = 12 ∨ t = 13
    · rw [if_pos h2, if_pos h2, cdA_app]
      exact ⟨rfl, fun _ => by simp only [List.append_assoc]⟩
    · rw [if_neg h2, if_neg h2]
      exact ⟨rfl, fun z => absurd z (by simp)⟩

theorem MGs_tl {h : AH} {p : Nat × List Nat} {G : LV} (T : MGs h (p :: G)) : MGs h G := by
  obtain ⟨a, b, c, d, h1, h2, h3, h4, h5⟩ := T
  exact ⟨a, b, c, d, h1, h2, h3, h4, h5.2.2.2⟩
theorem neg_le : ∀ G : LV, neg G ≤ G.length
  | [] => Nat.le_refl _
  | (f, w) :: r => by
    have := neg_le r
    simp only [neg]
    split <;> simp <;> omega
theorem nts_le : ∀ G : LV, nts G ≤ G.length
  | [] => Nat.le_refl _
  | (f, w) :: r => by
    have := nts_le r
    simp only [nts]
    split <;> simp <;> omega
theorem s_X11_goesOn_6 {h : AH} {tb : Nat → Nat} {L s nd r : Nat} {w : List Nat} {r0 : LV} {kd : Nat → Nat} {cd : Nat → List Nat} {my ne : Int32} {mt : Nat → Int32} (hP : MdP h tb L s 0 (-1) (nO ((6, w) :: r0)) ((6, w) :: r0).length (nW ((6, w) :: r0)) nd r 2 (nI (kd nd - 14))) (hGs : MGs h ((6, w) :: r0)) (hN : MN h nd true kd cd my ne r) (H_mtape : Hs h 69 (aB 300 mt)) (hmt : ∀ k, k < 300 → mt k = sbI (tb k) ∧ tb k < 256) (hsL : s ≤ L) (hL : L ≤ 300) (hw : vS w) (hr : shI (kd nd) r0) (hgl : ((6, w) :: r0).length < 30) (hgw : nW ((6, w) :: r0) < 70) (hr3 : r ≤ 310) : Sp M_X11_goesOn (0, 0) h [.ref 66] (rV (fun h' => MqR h' tb L s (gOperator (tok tb L s).1 ((6, w) :: r0) (nd + 1) kd cd my ne) ∧ Fr [66, 76, 77, 78, 79, 80, 81, 82, 83, 84] h h')) := by
  refine ⟨Nat.le_of_ble_eq_true rfl, ?_⟩
  show E _ _ _ 0 h [some (.ref 66), none, none] []
  obtain ⟨so, to, mfl, mfa, mdn, mup, mlo, mgu, mgl, H_md, htk⟩ := id hP
  obtain ⟨fr, cm, wa, wf, H_mfr, H_mco, H_mwa, H_mwf, hG⟩ := id hGs
  have hvl := (vS_in hw).2
  have hgl9 : (r0 : LV).length + 1 < 30 := hgl
  have hgw9 : w.length + nW r0 < 70 := hgw
  refine e_aloadn d_X11_goesOn_0 rfl ?_
  refine e_callVI d_X11_goesOn_1 l_X11_goesOn_275 H_md rfl rfl (s_X11_top H_md H_mfr (by omega)) rfl rfl (Nat.le_of_ble_eq_true rfl) ?_
  rw [hG.1, show mfr 6 = 6 from rfl]
  refine e_istoren d_X11_goesOn_4 (by decide) rfl ?_
  refine e_aloadn d_X11_goesOn_5 rfl ?_
  refine e_get d_X11_goesOn_6 f_X11_200 H_md rfl ?_
  refine e_iconst (v := 3) d_X11_goesOn_9 (by decide) ?_
  refine e_icmp_ne d_X11_goesOn_10 (fun c10 => ?_) (fun c10 => ?_)
  · have hna : ¬ (27 ≤ (tok tb L s).1 ∧ (tok tb L s).1 ≤ 30) := fun z => c10 (tk_nar htk z).1
    refine e_iloadn d_X11_goesOn_65 rfl ?_
    refine e_bipush (v := 6) d_X11_goesOn_66 (by decide) ?_
    refine e_icmp_ne d_X11_goesOn_68 (fun z => by first | exact absurd (fun z => z rfl) z | exact absurd z (fun z => z rfl)) (fun _ => ?_)
    refine e_aloadn d_X11_goesOn_71 rfl ?_
    refine e_bipush (v := 41) d_X11_goesOn_72 (by decide) ?_
    refine e_callVI d_X11_goesOn_74 l_X11_goesOn_272 H_md rfl rfl (s_X11_isSign H_md) rfl rfl (Nat.le_of_ble_eq_true rfl) ?_
    refine e_if_eq d_X11_goesOn_77 (fun c77 => ?_) (fun c77 => ?_)
    · have c77 : ¬ (tok tb L s).1 = 33 := fun z => bI_0.mp c77 ((tk_sg htk (c := 33) (by decide) (by decide) (by decide)).mpr z)
      refine e_iloadn d_X11_goesOn_116 rfl ?_
      refine e_iconst (v := 4) d_X11_goesOn_117 (by decide) ?_
      refine e_icmp_ne d_X11_goesOn_118 (fun _ => ?_) (fun z => by first | exact absurd (by decide) z | exact absurd z (by decide))
      refine e_iloadn d_X11_goesOn_181 rfl ?_
      refine e_iconst (v := 5) d_X11_goesOn_182 (by decide) ?_
      refine e_icmp_ne d_X11_goesOn_183 (fun _ => ?_) (fun z => by first | exact absurd (by decide) z | exact absurd z (by decide))
      refine e_iloadn d_X11_goesOn_224 rfl ?_
      refine e_iconst (v := 1) d_X11_goesOn_225 (by decide) ?_
      refine e_icmp_ne d_X11_goesOn_226 (fun _ => ?_) (fun z => by first | exact absurd (by decide) z | exact absurd z (by decide))
      refine e_aloadn d_X11_goesOn_245 rfl ?_
      refine e_iconst (v := 1) d_X11_goesOn_246 (by decide) ?_
      have hg : (gOperator (tok tb L s).1 ((6, w) :: r0) (nd + 1) kd cd my ne).1 = 1 := by
        simp only [gOperator]
        rw [if_neg hna, if_pos trivial, if_neg (by omega)]
      refine e_callRVV d_X11_goesOn_247 l_X11_goesOn_231 H_md rfl rfl (s_X11_errs2 (q := 1) hP) rfl rfl (Nat.le_of_ble_eq_true rfl) (fun h_247 q_247 s_247 => ?_)
      exact e_vret d_X11_goesOn_250 rfl (⟨rfl, MqR_bad hg (by decide) q_247.1, q_247.2.mono (by decide)⟩)
    · have c77 : (tok tb L s).1 = 33 := (tk_sg htk (c := 33) (by decide) (by decide) (by decide)).mp (bI_1.mp (bI_z.resolve_left c77))
      refine e_aloadn d_X11_goesOn_80 rfl ?_
      refine e_iconst (v := 3) d_X11_goesOn_81 (by decide) ?_
      refine e_callRVV d_X11_goesOn_82 l_X11_goesOn_251 H_md rfl rfl (s_X11_works (q := 3) (R := 5) hP hGs hN (st_5 hw).2.2 (vSF hw) (by omega) (by omega) (by decide) (by omega)) rfl rfl (Nat.le_of_ble_eq_true rfl) (fun h_82 q_82 s_82 => ?_)
      obtain ⟨hP82, hGs82, hN82, fr_82⟩ := q_82
      rw [(st_5 hw).1, (st_5 hw).2.1] at hP82
      rw [(st_5 hw).1] at hN82
      rw [(st_5 hw).2.1] at hGs82
      obtain ⟨so82, to82, mfl82, mfa82, mdn82, mup82, mlo82, mgu82, mgl82, H_md82, htk82⟩ := id hP82
      refine e_aloadn d_X11_goesOn_85 rfl ?_
      refine e_dup d_X11_goesOn_86 rfl ?_
      refine e_get d_X11_goesOn_87 f_X11_225 H_md82 rfl ?_
      refine e_iconst (v := 1) d_X11_goesOn_90 (by decide) ?_
      refine e_isub d_X11_goesOn_91 ?_
      rw [show nI (r0.length + 1) - 1 = nI r0.length from nI_m]
      refine e_puti d_X11_goesOn_92 f_X11_225 H_md82 (Nat.le_of_ble_eq_true rfl) ?_
      refine e_aloadn d_X11_goesOn_95 rfl ?_
      refine e_dup d_X11_goesOn_96 rfl ?_
      refine e_get d_X11_goesOn_97 f_X11_228 H_md82.s rfl ?_
      refine e_iconst (v := 1) d_X11_goesOn_100 (by decide) ?_
      refine e_isub d_X11_goesOn_101 ?_
      rw [show nI (nO ((6, w) :: r0)) - 1 = nI (nO r0) from by rw [show nO ((6, w) :: r0) = nO r0 + 1 from by simp [nO]; omega]; exact nI_m]
      refine e_puti d_X11_goesOn_102 f_X11_228 H_md82.s (Nat.le_of_ble_eq_true rfl) ?_
      refine e_aloadn d_X11_goesOn_105 rfl ?_
      refine e_callRVV d_X11_goesOn_106 l_X11_goesOn_237 H_md82.s.s rfl rfl (s_X11_next2 (MdP.mk H_md82.s.s htk82) ((fr_82.hs H_mtape (by decide)).n (by decide) |>.n (by decide)) hmt (tok_nx hsL (by omega)).2.2 hL) rfl rfl (Nat.le_of_ble_eq_true rfl) (fun h_106 q_106 s_106 => ?_)
      obtain ⟨hP106, fr_106⟩ := q_106
      rw [show ([] : List Nat).length + nW r0 = nW r0 from Nat.zero_add _] at hP106
      obtain ⟨so106, to106, mfl106, mfa106, mdn106, mup106, mlo106, mgu106, mgl106, H_md106, htk106⟩ := id hP106
      refine e_aloadn d_X11_goesOn_109 rfl ?_
      refine e_callRVV d_X11_goesOn_110 l_X11_goesOn_266 H_md106 rfl rfl (s_X11_oneIsOver (kk := kd nd) hP106 (MGs_tl (hGs82.fr ((((Fr.refl [66] _).up (by decide)).up (by decide)).trans fr_106) (by simp))) (hN82.fr ((((Fr.refl [66] _).up (by decide)).up (by decide)).trans fr_106) (by simp)) hr (by have := neg_le r0; omega) (by omega)) rfl rfl (Nat.le_of_ble_eq_true rfl) (fun h_110 q_110 s_110 => ?_)
      obtain ⟨hP110, hGs110, hN110, fr_110⟩ := q_110
      refine e_gt d_X11_goesOn_113 ?_
      exact e_vret d_X11_goesOn_250 rfl (⟨rfl, by rw [c77]; exact MqR_ok (S := (2, unn r0, nd + 1, kd, cdA cd (nd + 1) (w ++ List.replicate (neg r0) 31), my, ne)) (by simp only [gOperator]; rw [if_neg (by decide), if_pos trivial, if_pos trivial]) (by rw [← cdA_app]; exact MCs_mk (by decide) hP110 hGs110 hN110), (((fr_82.mono (by decide)).up (by decide)).up (by decide)).trans ((fr_106.mono (by decide)).trans (fr_110.mono (by decide)))⟩)
  · have c10 : so = 3 := by first | exact c10 | exact Decidable.of_not_not c10
    refine e_aloadn d_X11_goesOn_13 rfl ?_
    refine e_get d_X11_goesOn_14 f_X11_212 H_md rfl ?_
    refine e_bipush (v := 43) d_X11_goesOn_17 (by decide) ?_
    refine e_icmp_eq d_X11_goesOn_19 (fun c19 => ?_) (fun c19 => ?_)
    · refine e_aloadn d_X11_goesOn_49 rfl ?_
      refine e_aloadn d_X11_goesOn_50 rfl ?_
      refine e_get d_X11_goesOn_51 f_X11_212 H_md rfl ?_
      obtain ⟨ht1, ht2, ht3⟩ := tk_ar htk c10 (by first | exact Or.inl c19 | exact Or.inr (Or.inl c28) | exact Or.inr (Or.inr (Or.inl c37)) | exact Or.inr (Or.inr (Or.inr (by first | exact c46 | exact Decidable.of_not_not c46))))
      rw [ht3]
      refine e_callRVV d_X11_goesOn_54 l_X11_goesOn_278 H_md rfl rfl (s_X11_waitsFor (t := (tok tb L s).1) hP hGs hN (mr_vS hw ht1 ht2) (vSF hw) (by omega) (by omega) (by omega) (by omega) H_mtape hmt (tok_nx hsL (by omega)).2.2 hL) rfl rfl (Nat.le_of_ble_eq_true rfl) (fun h_54 q_54 s_54 => ?_)
      obtain ⟨hP54, hGs54, hN54, fr_54⟩ := q_54
      obtain ⟨so54, to54, mfl54, mfa54, mdn54, mup54, mlo54, mgu54, mgl54, H_md54, htk54⟩ := id hP54
      refine e_aloadn d_X11_goesOn_57 rfl ?_
      refine e_iconst (v := 1) d_X11_goesOn_58 (by decide) ?_
      refine e_puti d_X11_goesOn_59 f_X11_260 H_md54 (Nat.le_of_ble_eq_true rfl) ?_
      refine e_gt d_X11_goesOn_62 ?_
      exact e_vret d_X11_goesOn_250 rfl (⟨rfl, MqR_ok (S := (1, (6, (tok tb L s).1 :: sdr (rkc (tok tb L s).1) w) :: r0, nd + 1, kd, cdA cd (nd + 1) (stk (rkc (tok tb L s).1) w), my, ne)) (by simp only [gOperator]; rw [if_pos ⟨ht1, ht2⟩]) (MCs_mk (by decide) ⟨_, _, _, _, _, _, _, _, _, H_md54.s, htk54⟩ (hGs54.fr ((Fr.refl [66] _).up (by decide)) (by simp)) (hN54.fr ((Fr.refl [66] _).up (by decide)) (by simp))), (fr_54.up (k := 66) (by decide)).mono (by decide)⟩)
    · refine e_aloadn d_X11_goesOn_22 rfl ?_
      refine e_get d_X11_goesOn_23 f_X11_212 H_md rfl ?_
      refine e_bipush (v := 45) d_X11_goesOn_26 (by decide) ?_
      refine e_icmp_eq d_X11_goesOn_28 (fun c28 => ?_) (fun c28 => ?_)
      · refine e_aloadn d_X11_goesOn_49 rfl ?_
        refine e_aloadn d_X11_goesOn_50 rfl ?_
        refine e_get d_X11_goesOn_51 f_X11_212 H_md rfl ?_
        obtain ⟨ht1, ht2, ht3⟩ := tk_ar htk c10 (by first | exact Or.inl c19 | exact Or.inr (Or.inl c28) | exact Or.inr (Or.inr (Or.inl c37)) | exact Or.inr (Or.inr (Or.inr (by first | exact c46 | exact Decidable.of_not_not c46))))
        rw [ht3]
        refine e_callRVV d_X11_goesOn_54 l_X11_goesOn_278 H_md rfl rfl (s_X11_waitsFor (t := (tok tb L s).1) hP hGs hN (mr_vS hw ht1 ht2) (vSF hw) (by omega) (by omega) (by omega) (by omega) H_mtape hmt (tok_nx hsL (by omega)).2.2 hL) rfl rfl (Nat.le_of_ble_eq_true rfl) (fun h_54 q_54 s_54 => ?_)
        obtain ⟨hP54, hGs54, hN54, fr_54⟩ := q_54
        obtain ⟨so54, to54, mfl54, mfa54, mdn54, mup54, mlo54, mgu54, mgl54, H_md54, htk54⟩ := id hP54
        refine e_aloadn d_X11_goesOn_57 rfl ?_
        refine e_iconst (v := 1) d_X11_goesOn_58 (by decide) ?_
        refine e_puti d_X11_goesOn_59 f_X11_260 H_md54 (Nat.le_of_ble_eq_true rfl) ?_
        refine e_gt d_X11_goesOn_62 ?_
        exact e_vret d_X11_goesOn_250 rfl (⟨rfl, MqR_ok (S := (1, (6, (tok tb L s).1 :: sdr (rkc (tok tb L s).1) w) :: r0, nd + 1, kd, cdA cd (nd + 1) (stk (rkc (tok tb L s).1) w), my, ne)) (by simp only [gOperator]; rw [if_pos ⟨ht1, ht2⟩]) (MCs_mk (by decide) ⟨_, _, _, _, _, _, _, _, _, H_md54.s, htk54⟩ (hGs54.fr ((Fr.refl [66] _).up (by decide)) (by simp)) (hN54.fr ((Fr.refl [66] _).up (by decide)) (by simp))), (fr_54.up (k := 66) (by decide)).mono (by decide)⟩)
      · refine e_aloadn d_X11_goesOn_31 rfl ?_
        refine e_get d_X11_goesOn_32 f_X11_212 H_md rfl ?_
        refine e_bipush (v := 42) d_X11_goesOn_35 (by decide) ?_
        refine e_icmp_eq d_X11_goesOn_37 (fun c37 => ?_) (fun c37 => ?_)
        · refine e_aloadn d_X11_goesOn_49 rfl ?_
          refine e_aloadn d_X11_goesOn_50 rfl ?_
          refine e_get d_X11_goesOn_51 f_X11_212 H_md rfl ?_
          obtain ⟨ht1, ht2, ht3⟩ := tk_ar htk c10 (by first | exact Or.inl c19 | exact Or.inr (Or.inl c28) | exact Or.inr (Or.inr (Or.inl c37)) | exact Or.inr (Or.inr (Or.inr (by first | exact c46 | exact Decidable.of_not_not c46))))
          rw [ht3]
          refine e_callRVV d_X11_goesOn_54 l_X11_goesOn_278 H_md rfl rfl (s_X11_waitsFor (t := (tok tb L s).1) hP hGs hN (mr_vS hw ht1 ht2) (vSF hw) (by omega) (by omega) (by omega) (by omega) H_mtape hmt (tok_nx hsL (by omega)).2.2 hL) rfl rfl (Nat.le_of_ble_eq_true rfl) (fun h_54 q_54 s_54 => ?_)
          obtain ⟨hP54, hGs54, hN54, fr_54⟩ := q_54
          obtain ⟨so54, to54, mfl54, mfa54, mdn54, mup54, mlo54, mgu54, mgl54, H_md54, htk54⟩ := id hP54
          refine e_aloadn d_X11_goesOn_57 rfl ?_
          refine e_iconst (v := 1) d_X11_goesOn_58 (by decide) ?_
          refine e_puti d_X11_goesOn_59 f_X11_260 H_md54 (Nat.le_of_ble_eq_true rfl) ?_
          refine e_gt d_X11_goesOn_62 ?_
          exact e_vret d_X11_goesOn_250 rfl (⟨rfl, MqR_ok (S := (1, (6, (tok tb L s).1 :: sdr (rkc (tok tb L s).1) w) :: r0, nd + 1, kd, cdA cd (nd + 1) (stk (rkc (tok tb L s).1) w), my, ne)) (by simp only [gOperator]; rw [if_pos ⟨ht1, ht2⟩]) (MCs_mk (by decide) ⟨_, _, _, _, _, _, _, _, _, H_md54.s, htk54⟩ (hGs54.fr ((Fr.refl [66] _).up (by decide)) (by simp)) (hN54.fr ((Fr.refl [66] _).up (by decide)) (by simp))), (fr_54.up (k := 66) (by decide)).mono (by decide)⟩)
        · refine e_aloadn d_X11_goesOn_40 rfl ?_
          refine e_get d_X11_goesOn_41 f_X11_212 H_md rfl ?_
          refine e_bipush (v := 47) d_X11_goesOn_44 (by decide) ?_
          refine e_icmp_ne d_X11_goesOn_46 (fun c46 => ?_) (fun c46 => ?_)
          · have hna : ¬ (27 ≤ (tok tb L s).1 ∧ (tok tb L s).1 ≤ 30) := fun z => by
              rcases (tk_nar htk z).2 with q | q | q | q
              · exact c19 q
              · exact c28 q
              · exact c37 q
              · exact c46 q
            refine e_iloadn d_X11_goesOn_65 rfl ?_
            refine e_bipush (v := 6) d_X11_goesOn_66 (by decide) ?_
            refine e_icmp_ne d_X11_goesOn_68 (fun z => by first | exact absurd (fun z => z rfl) z | exact absurd z (fun z => z rfl)) (fun _ => ?_)
            refine e_aloadn d_X11_goesOn_71 rfl ?_
            refine e_bipush (v := 41) d_X11_goesOn_72 (by decide) ?_
            refine e_callVI d_X11_goesOn_74 l_X11_goesOn_272 H_md rfl rfl (s_X11_isSign H_md) rfl rfl (Nat.le_of_ble_eq_true rfl) ?_
            refine e_if_eq d_X11_goesOn_77 (fun c77 => ?_) (fun c77 => ?_)
            · have c77 : ¬ (tok tb L s).1 = 33 := fun z => bI_0.mp c77 ((tk_sg htk (c := 33) (by decide) (by decide) (by decide)).mpr z)
              refine e_iloadn d_X11_goesOn_116 rfl ?_
              refine e_iconst (v := 4) d_X11_goesOn_117 (by decide) ?_
              refine e_icmp_ne d_X11_goesOn_118 (fun _ => ?_) (fun z => by first | exact absurd (by decide) z | exact absurd z (by decide))
              refine e_iloadn d_X11_goesOn_181 rfl ?_
              refine e_iconst (v := 5) d_X11_goesOn_182 (by decide) ?_
              refine e_icmp_ne d_X11_goesOn_183 (fun _ => ?_) (fun z => by first | exact absurd (by decide) z | exact absurd z (by decide))
              refine e_iloadn d_X11_goesOn_224 rfl ?_
              refine e_iconst (v := 1) d_X11_goesOn_225 (by decide) ?_
              refine e_icmp_ne d_X11_goesOn_226 (fun _ => ?_) (fun z => by first | exact absurd (by decide) z | exact absurd z (by decide))
              refine e_aloadn d_X11_goesOn_245 rfl ?_
              refine e_iconst (v := 1) d_X11_goesOn_246 (by decide) ?_
              have hg : (gOperator (tok tb L s).1 ((6, w) :: r0) (nd + 1) kd cd my ne).1 = 1 := by
                simp only [gOperator]
                rw [if_neg hna, if_pos trivial, if_neg (by omega)]
              refine e_callRVV d_X11_goesOn_247 l_X11_goesOn_231 H_md rfl rfl (s_X11_errs2 (q := 1) hP) rfl rfl (Nat.le_of_ble_eq_true rfl) (fun h_247 q_247 s_247 => ?_)
              exact e_vret d_X11_goesOn_250 rfl (⟨rfl, MqR_bad hg (by decide) q_247.1, q_247.2.mono (by decide)⟩)
            · have c77 : (tok tb L s).1 = 33 := (tk_sg htk (c := 33) (by decide) (by decide) (by decide)).mp (bI_1.mp (bI_z.resolve_left c77))
              refine e_aloadn d_X11_goesOn_80 rfl ?_
              refine e_iconst (v := 3) d_X11_goesOn_81 (by decide) ?_
              refine e_callRVV d_X11_goesOn_82 l_X11_goesOn_251 H_md rfl rfl (s_X11_works (q := 3) (R := 5) hP hGs hN (st_5 hw).2.2 (vSF hw) (by omega) (by omega) (by decide) (by omega)) rfl rfl (Nat.le_of_ble_eq_true rfl) (fun h_82 q_82 s_82 => ?_)
              obtain ⟨hP82, hGs82, hN82, fr_82⟩ := q_82
              rw [(st_5 hw).1, (st_5 hw).2.1] at hP82
              rw [(st_5 hw).1] at hN82
              rw [(st_5 hw).2.1] at hGs82
              obtain ⟨so82, to82, mfl82, mfa82, mdn82, mup82, mlo82, mgu82, mgl82, H_md82, htk82⟩ := id hP82
              refine e_aloadn d_X11_goesOn_85 rfl ?_
              refine e_dup d_X11_goesOn_86 rfl ?_
              refine e_get d_X11_goesOn_87 f_X11_225 H_md82 rfl ?_
              refine e_iconst (v := 1) d_X11_goesOn_90 (by decide) ?_
              refine e_isub d_X11_goesOn_91 ?_
              rw [show nI (r0.length + 1) - 1 = nI r0.length from nI_m]
              refine e_puti d_X11_goesOn_92 f_X11_225 H_md82 (Nat.le_of_ble_eq_true rfl) ?_
              refine e_aloadn d_X11_goesOn_95 rfl ?_
              refine e_dup d_X11_goesOn_96 rfl ?_
              refine e_get d_X11_goesOn_97 f_X11_228 H_md82.s rfl ?_
              refine e_iconst (v := 1) d_X11_goesOn_100 (by decide) ?_
              refine e_isub d_X11_goesOn_101 ?_
              rw [show nI (nO ((6, w) :: r0)) - 1 = nI (nO r0) from by rw [show nO ((6, w) :: r0) = nO r0 + 1 from by simp [nO]; omega]; exact nI_m]
              refine e_puti d_X11_goesOn_102 f_X11_228 H_md82.s (Nat.le_of_ble_eq_true rfl) ?_
              refine e_aloadn d_X11_goesOn_105 rfl ?_
              refine e_callRVV d_X11_goesOn_106 l_X11_goesOn_237 H_md82.s.s rfl rfl (s_X11_next2 (MdP.mk H_md82.s.s htk82) ((fr_82.hs H_mtape (by decide)).n (by decide) |>.n (by decide)) hmt (tok_nx hsL (by omega)).2.2 hL) rfl rfl (Nat.le_of_ble_eq_true rfl) (fun h_106 q_106 s_106 => ?_)
              obtain ⟨hP106, fr_106⟩ := q_106
              rw [show ([] : List Nat).length + nW r0 = nW r0 from Nat.zero_add _] at hP106
              obtain ⟨so106, to106, mfl106, mfa106, mdn106, mup106, mlo106, mgu106, mgl106, H_md106, htk106⟩ := id hP106
              refine e_aloadn d_X11_goesOn_109 rfl ?_
              refine e_callRVV d_X11_goesOn_110 l_X11_goesOn_266 H_md106 rfl rfl (s_X11_oneIsOver (kk := kd nd) hP106 (MGs_tl (hGs82.fr ((((Fr.refl [66] _).up (by decide)).up (by decide)).trans fr_106) (by simp))) (hN82.fr ((((Fr.refl [66] _).up (by decide)).up (by decide)).trans fr_106) (by simp)) hr (by have := neg_le r0; omega) (by omega)) rfl rfl (Nat.le_of_ble_eq_true rfl) (fun h_110 q_110 s_110 => ?_)
              obtain ⟨hP110, hGs110, hN110, fr_110⟩ := q_110
              refine e_gt d_X11_goesOn_113 ?_
              exact e_vret d_X11_goesOn_250 rfl (⟨rfl, by rw [c77]; exact MqR_ok (S := (2, unn r0, nd + 1, kd, cdA cd (nd + 1) (w ++ List.replicate (neg r0) 31), my, ne)) (by simp only [gOperator]; rw [if_neg (by decide), if_pos trivial, if_pos trivial]) (by rw [← cdA_app]; exact MCs_mk (by decide) hP110 hGs110 hN110), (((fr_82.mono (by decide)).up (by decide)).up (by decide)).trans ((fr_106.mono (by decide)).trans (fr_110.mono (by decide)))⟩)
          · refine e_aloadn d_X11_goesOn_49 rfl ?_
            refine e_aloadn d_X11_goesOn_50 rfl ?_
            refine e_get d_X11_goesOn_51 f_X11_212 H_md rfl ?_
            obtain ⟨ht1, ht2, ht3⟩ := tk_ar htk c10 (by first | exact Or.inl c19 | exact Or.inr (Or.inl c28) | exact Or.inr (Or.inr (Or.inl c37)) | exact Or.inr (Or.inr (Or.inr (by first | exact c46 | exact Decidable.of_not_not c46))))
            rw [ht3]
            refine e_callRVV d_X11_goesOn_54 l_X11_goesOn_278 H_md rfl rfl (s_X11_waitsFor (t := (tok tb L s).1) hP hGs hN (mr_vS hw ht1 ht2) (vSF hw) (by omega) (by omega) (by omega) (by omega) H_mtape hmt (tok_nx hsL (by omega)).2.2 hL) rfl rfl (Nat.le_of_ble_eq_true rfl) (fun h_54 q_54 s_54 => ?_)
            obtain ⟨hP54, hGs54, hN54, fr_54⟩ := q_54
            obtain ⟨so54, to54, mfl54, mfa54, mdn54, mup54, mlo54, mgu54, mgl54, H_md54, htk54⟩ := id hP54
            refine e_aloadn d_X11_goesOn_57 rfl ?_
            refine e_iconst (v := 1) d_X11_goesOn_58 (by decide) ?_
            refine e_puti d_X11_goesOn_59 f_X11_260 H_md54 (Nat.le_of_ble_eq_true rfl) ?_
            refine e_gt d_X11_goesOn_62 ?_
            exact e_vret d_X11_goesOn_250 rfl (⟨rfl, MqR_ok (S := (1, (6, (tok tb L s).1 :: sdr (rkc (tok tb L s).1) w) :: r0, nd + 1, kd, cdA cd (nd + 1) (stk (rkc (tok tb L s).1) w), my, ne)) (by simp only [gOperator]; rw [if_pos ⟨ht1, ht2⟩]) (MCs_mk (by decide) ⟨_, _, _, _, _, _, _, _, _, H_md54.s, htk54⟩ (hGs54.fr ((Fr.refl [66] _).up (by decide)) (by simp)) (hN54.fr ((Fr.refl [66] _).up (by decide)) (by simp))), (fr_54.up (k := 66) (by decide)).mono (by decide)⟩)

theorem s_X11_goesOn_4 {h : AH} {tb : Nat → Nat} {L s nd r : Nat} {w : List Nat} {r0 : LV} {kd : Nat → Nat} {cd : Nat → List Nat} {my ne : Int32} {mt : Nat → Int32} (hP : MdP h tb L s 0 (-1) (nO ((4, w) :: r0)) ((4, w) :: r0).length (nW ((4, w) :: r0)) nd r 2 (nI (kd nd - 14))) (hGs : MGs h ((4, w) :: r0)) (hN : MN h nd true kd cd my ne r) (H_mtape : Hs h 69 (aB 300 mt)) (hmt : ∀ k, k < 300 → mt k = sbI (tb k) ∧ tb k < 256) (hsL : s ≤ L) (hL : L ≤ 300) (hw : vS w) (hE : shE r0) (hgl : ((4, w) :: r0).length < 30) (hgw : nW ((4, w) :: r0) < 70) (hr3 : r ≤ 310) : Sp M_X11_goesOn (0, 0) h [.ref 66] (rV (fun h' => MqR h' tb L s (gOperator (tok tb L s).1 ((4, w) :: r0) (nd + 1) kd cd my ne) ∧ Fr [66, 76, 77, 78, 79, 80, 81, 82, 83, 84] h h')) := by
  refine ⟨Nat.le_of_ble_eq_true rfl, ?_⟩
  show E _ _ _ 0 h [some (.ref 66), none, none] []
  obtain ⟨so, to, mfl, mfa, mdn, mup, mlo, mgu, mgl, H_md, htk⟩ := id hP
  obtain ⟨fr, cm, wa, wf, H_mfr, H_mco, H_mwa, H_mwf, hG⟩ := id hGs
  have hvl := (vS_in hw).2
  have hgl9 : (r0 : LV).length + 1 < 30 := hgl
  have hgw9 : w.length + nW r0 < 70 := hgw
  refine e_aloadn d_X11_goesOn_0 rfl ?_
  refine e_callVI d_X11_goesOn_1 l_X11_goesOn_275 H_md rfl rfl (s_X11_top H_md H_mfr (by omega)) rfl rfl (Nat.le_of_ble_eq_true rfl) ?_
  rw [hG.1, show mfr 4 = 4 from rfl]
  refine e_istoren d_X11_goesOn_4 (by decide) rfl ?_
  refine e_aloadn d_X11_goesOn_5 rfl ?_
  refine e_get d_X11_goesOn_6 f_X11_200 H_md rfl ?_
  refine e_iconst (v := 3) d_X11_goesOn_9 (by decide) ?_
  refine e_icmp_ne d_X11_goesOn_10 (fun c10 => ?_) (fun c10 => ?_)
  · have hna : ¬ (27 ≤ (tok tb L s).1 ∧ (tok tb L s).1 ≤ 30) := fun z => c10 (tk_nar htk z).1
    refine e_iloadn d_X11_goesOn_65 rfl ?_
    refine e_bipush (v := 6) d_X11_goesOn_66 (by decide) ?_
    refine e_icmp_ne d_X11_goesOn_68 (fun _ => ?_) (fun z => by first | exact absurd (by decide) z | exact absurd z (by decide))
    refine e_iloadn d_X11_goesOn_116 rfl ?_
    refine e_iconst (v := 4) d_X11_goesOn_117 (by decide) ?_
    refine e_icmp_ne d_X11_goesOn_118 (fun z => by first | exact absurd (fun z => z rfl) z | exact absurd z (fun z => z rfl)) (fun _ => ?_)
    refine e_aloadn d_X11_goesOn_121 rfl ?_
    refine e_get d_X11_goesOn_122 f_X11_200 H_md rfl ?_
    refine e_iconst (v := 3) d_X11_goesOn_125 (by decide) ?_
    refine e_icmp_ne d_X11_goesOn_126 (fun c126 => ?_) (fun c126 => ?_)
    · have hnq : ¬ (21 ≤ (tok tb L s).1 ∧ (tok tb L s).1 ≤ 26) := fun z => c126 ((tk_sg htk (c := (tok tb L s).1) (by omega) (by omega) (by omega)).mpr rfl).1
      refine e_iloadn d_X11_goesOn_181 rfl ?_
      refine e_iconst (v := 5) d_X11_goesOn_182 (by decide) ?_
      refine e_icmp_ne d_X11_goesOn_183 (fun _ => ?_) (fun z => by first | exact absurd (by decide) z | exact absurd z (by decide))
      refine e_iloadn d_X11_goesOn_224 rfl ?_
      refine e_iconst (v := 1) d_X11_goesOn_225 (by decide) ?_
      refine e_icmp_ne d_X11_goesOn_226 (fun _ => ?_) (fun z => by first | exact absurd (by decide) z | exact absurd z (by decide))
      refine e_aloadn d_X11_goesOn_245 rfl ?_
      refine e_iconst (v := 1) d_X11_goesOn_246 (by decide) ?_
      have hg : (gOperator (tok tb L s).1 ((4, w) :: r0) (nd + 1) kd cd my ne).1 = 1 := by
        simp only [gOperator]
        rw [if_neg hna, if_neg (by omega), if_pos trivial, if_neg hnq]
      refine e_callRVV d_X11_goesOn_247 l_X11_goesOn_231 H_md rfl rfl (s_X11_errs2 (q := 1) hP) rfl rfl (Nat.le_of_ble_eq_true rfl) (fun h_247 q_247 s_247 => ?_)
      exact e_vret d_X11_goesOn_250 rfl (⟨rfl, MqR_bad hg (by decide) q_247.1, q_247.2.mono (by decide)⟩)
    · have c126 : so = 3 := by first | exact c126 | exact Decidable.of_not_not c126
      obtain ⟨k9, hk1, hk2, hk3, hk4⟩ := tk_ask htk c126
      subst hk2
      refine e_aloadn d_X11_goesOn_129 rfl ?_
      refine e_get d_X11_goesOn_130 f_X11_212 H_md rfl ?_
      refine e_callSI d_X11_goesOn_133 l_X11_goesOn_281 (s_X11_isAsking hk1) rfl rfl (Nat.le_of_ble_eq_true rfl) ?_
      refine e_if_eq d_X11_goesOn_136 (fun c136 => ?_) (fun c136 => ?_)
      · have hnq : ¬ (21 ≤ (tok tb L s).1 ∧ (tok tb L s).1 ≤ 26) := fun z => bI_0.mp c136 (hk3.mpr z)
        refine e_iloadn d_X11_goesOn_181 rfl ?_
        refine e_iconst (v := 5) d_X11_goesOn_182 (by decide) ?_
        refine e_icmp_ne d_X11_goesOn_183 (fun _ => ?_) (fun z => by first | exact absurd (by decide) z | exact absurd z (by decide))
        refine e_iloadn d_X11_goesOn_224 rfl ?_
        refine e_iconst (v := 1) d_X11_goesOn_225 (by decide) ?_
        refine e_icmp_ne d_X11_goesOn_226 (fun _ => ?_) (fun z => by first | exact absurd (by decide) z | exact absurd z (by decide))
        refine e_aloadn d_X11_goesOn_245 rfl ?_
        refine e_iconst (v := 1) d_X11_goesOn_246 (by decide) ?_
        have hg : (gOperator (tok tb L s).1 ((4, w) :: r0) (nd + 1) kd cd my ne).1 = 1 := by
          simp only [gOperator]
          rw [if_neg hna, if_neg (by omega), if_pos trivial, if_neg hnq]
        refine e_callRVV d_X11_goesOn_247 l_X11_goesOn_231 H_md rfl rfl (s_X11_errs2 (q := 1) hP) rfl rfl (Nat.le_of_ble_eq_true rfl) (fun h_247 q_247 s_247 => ?_)
        exact e_vret d_X11_goesOn_250 rfl (⟨rfl, MqR_bad hg (by decide) q_247.1, q_247.2.mono (by decide)⟩)
      · have hq9 : 21 ≤ (tok tb L s).1 ∧ (tok tb L s).1 ≤ 26 := hk3.mp (bI_1.mp (bI_z.resolve_left c136))
        have hkk := hk4 hq9
        have htk9 := htk
        refine e_aloadn d_X11_goesOn_139 rfl ?_
        refine e_iconst (v := 3) d_X11_goesOn_140 (by decide) ?_
        refine e_callRVV d_X11_goesOn_141 l_X11_goesOn_251 H_md rfl rfl (s_X11_works (q := 3) (R := 5) hP hGs hN (st_5 hw).2.2 (vSF hw) (by omega) (by omega) (by decide) (by omega)) rfl rfl (Nat.le_of_ble_eq_true rfl) (fun h_141 q_141 s_141 => ?_)
        obtain ⟨hP141, hGs141, hN142, fr_141⟩ := q_141
        rw [(st_5 hw).1, (st_5 hw).2.1] at hP141
        rw [(st_5 hw).1] at hN142
        rw [(st_5 hw).2.1] at hGs141
        obtain ⟨so141, to141, mfl141, mfa141, mdn141, mup141, mlo141, mgu141, mgl141, H_md142, htk141⟩ := id hP141
        obtain ⟨fr142, cm142, wa142, wf142, H_mfr142, H_mco142, H_mwa142, H_mwf142, hG142⟩ := id hGs141
        have hto : to141 = nI (encO (tok tb L s).1) := by
          rw [encO_msg (tok tb L s).1 (by omega) (by omega)]
          exact ((tk_sg htk141 (c := (tok tb L s).1) (by omega) (by omega) (by omega)).mpr rfl).2
        subst hto
        refine e_aloadn d_X11_goesOn_144 rfl ?_
        refine e_get d_X11_goesOn_145 f_X11_48 H_md142 rfl ?_
        refine e_aloadn d_X11_goesOn_148 rfl ?_
        refine e_get d_X11_goesOn_149 f_X11_225 H_md142 rfl ?_
        refine e_aloadn d_X11_goesOn_152 rfl ?_
        refine e_get d_X11_goesOn_153 f_X11_212 H_md142 rfl ?_
        refine e_iastN (k := (r0.length + 1)) d_X11_goesOn_156 H_mco142 rfl (by omega) (by omega) ?_
        refine e_aloadn d_X11_goesOn_157 rfl ?_
        refine e_get d_X11_goesOn_158 f_X11_45 (H_md142.n (by decide)) rfl ?_
        refine e_aloadn d_X11_goesOn_161 rfl ?_
        refine e_get d_X11_goesOn_162 f_X11_225 (H_md142.n (by decide)) rfl ?_
        refine e_iconst (v := 1) d_X11_goesOn_165 (by decide) ?_
        refine e_isub d_X11_goesOn_166 ?_
        refine e_iconst (v := 5) d_X11_goesOn_167 (by decide) ?_
        rw [show nI (r0.length + 1) - 1 = nI r0.length from nI_m]
        refine e_iastN (k := r0.length) d_X11_goesOn_168 (H_mfr142.n (by decide)) rfl (by omega) (by omega) ?_
        refine e_aloadn d_X11_goesOn_169 rfl ?_
        refine e_callRVV d_X11_goesOn_170 l_X11_goesOn_237 ((H_md142.n (by decide)).n (by decide)) rfl rfl (s_X11_next2 (MdP.mk ((H_md142.n (by decide)).n (by decide)) htk141) ((fr_141.hs H_mtape (by decide)).n (by decide) |>.n (by decide)) hmt (tok_nx hsL (by omega)).2.2 hL) rfl rfl (Nat.le_of_ble_eq_true rfl) (fun h_170 q_170 s_170 => ?_)
        obtain ⟨hP170, fr_170⟩ := q_170
        obtain ⟨so170, to170, mfl170, mfa170, mdn170, mup170, mlo170, mgu170, mgl170, H_md170, htk170⟩ := id hP170
        have hO9 : nO (((tok tb L s).1, []) :: r0) = nO ((4, w) :: r0) := by simp only [nO]; rw [if_neg (by omega), if_neg (by decide)]
        have hW9 : nW (((tok tb L s).1, []) :: r0) = ([] : List Nat).length + nW r0 := rfl
        refine e_aloadn d_X11_goesOn_173 rfl ?_
        refine e_iconst (v := 1) d_X11_goesOn_174 (by decide) ?_
        refine e_puti d_X11_goesOn_175 f_X11_260 H_md170 (Nat.le_of_ble_eq_true rfl) ?_
        refine e_gt d_X11_goesOn_178 ?_
        exact e_vret d_X11_goesOn_250 rfl (⟨rfl, MqR_ok (S := (1, ((tok tb L s).1, []) :: r0, nd + 1, kd, cdA cd (nd + 1) w, my, ne)) (by simp only [gOperator]; rw [if_neg hna, if_neg (by omega), if_pos trivial, if_pos hq9]) (MCs_mk (by decide) ⟨_, _, _, _, _, _, _, _, _, by rw [hO9, hW9]; exact H_md170.s, htk170⟩ ⟨_, _, wa142, wf142, (fr_170.hs ((Hs.s (H_mfr142.n (by decide)))) (by decide)).n (by decide), (fr_170.hs (H_mco142.s.n (by decide)) (by decide)).n (by decide), (fr_170.hs ((H_mwa142.n (by decide)).n (by decide)) (by decide)).n (by decide), (fr_170.hs ((H_mwf142.n (by decide)).n (by decide)) (by decide)).n (by decide), by rw [va_up_self, mfr, if_pos hq9.1]; rfl, fun _ => by rw [va_up_self], trivial, hG142.2.2.2.upf (Nat.le_refl _) (Nat.lt_succ_self _)⟩ (hN142.fr ((((Fr.refl [66, 76, 77] _).up (by decide)).up (by decide)).trans ((fr_170.mono (by decide)).up (by decide))) (by simp))), ((((fr_141.mono (by decide)).up (by decide)).up (by decide)).trans ((fr_170.mono (by decide)).up (by decide)))⟩)
  · have c10 : so = 3 := by first | exact c10 | exact Decidable.of_not_not c10
    refine e_aloadn d_X11_goesOn_13 rfl ?_
    refine e_get d_X11_goesOn_14 f_X11_212 H_md rfl ?_
    refine e_bipush (v := 43) d_X11_goesOn_17 (by decide) ?_
    refine e_icmp_eq d_X11_goesOn_19 (fun c19 => ?_) (fun c19 => ?_)
    · refine e_aloadn d_X11_goesOn_49 rfl ?_
      refine e_aloadn d_X11_goesOn_50 rfl ?_
      refine e_get d_X11_goesOn_51 f_X11_212 H_md rfl ?_
      obtain ⟨ht1, ht2, ht3⟩ := tk_ar htk c10 (by first | exact Or.inl c19 | exact Or.inr (Or.inl c28) | exact Or.inr (Or.inr (Or.inl c37)) | exact Or.inr (Or.inr (Or.inr (by first | exact c46 | exact Decidable.of_not_not c46))))
      rw [ht3]
      refine e_callRVV d_X11_goesOn_54 l_X11_goesOn_278 H_md rfl rfl (s_X11_waitsFor (t := (tok tb L s).1) hP hGs hN (mr_vS hw ht1 ht2) (vSF hw) (by omega) (by omega) (by omega) (by omega) H_mtape hmt (tok_nx hsL (by omega)).2.2 hL) rfl rfl (Nat.le_of_ble_eq_true rfl) (fun h_54 q_54 s_54 => ?_)
      obtain ⟨hP54, hGs54, hN54, fr_54⟩ := q_54
      obtain ⟨so54, to54, mfl54, mfa54, mdn54, mup54, mlo54, mgu54, mgl54, H_md54, htk54⟩ := id hP54
      refine e_aloadn d_X11_goesOn_57 rfl ?_
      refine e_iconst (v := 1) d_X11_goesOn_58 (by decide) ?_
      refine e_puti d_X11_goesOn_59 f_X11_260 H_md54 (Nat.le_of_ble_eq_true rfl) ?_
      refine e_gt d_X11_goesOn_62 ?_
      exact e_vret d_X11_goesOn_250 rfl (⟨rfl, MqR_ok (S := (1, (4, (tok tb L s).1 :: sdr (rkc (tok tb L s).1) w) :: r0, nd + 1, kd, cdA cd (nd + 1) (stk (rkc (tok tb L s).1) w), my, ne)) (by simp only [gOperator]; rw [if_pos ⟨ht1, ht2⟩]) (MCs_mk (by decide) ⟨_, _, _, _, _, _, _, _, _, H_md54.s, htk54⟩ (hGs54.fr ((Fr.refl [66] _).up (by decide)) (by simp)) (hN54.fr ((Fr.refl [66] _).up (by decide)) (by simp))), (fr_54.up (k := 66) (by decide)).mono (by decide)⟩)
    · refine e_aloadn d_X11_goesOn_22 rfl ?_
      refine e_get d_X11_goesOn_23 f_X11_212 H_md rfl ?_
      refine e_bipush (v := 45) d_X11_goesOn_26 (by decide) ?_
      refine e_icmp_eq d_X11_goesOn_28 (fun c28 => ?_) (fun c28 => ?_)
      · refine e_aloadn d_X11_goesOn_49 rfl ?_
        refine e_aloadn d_X11_goesOn_50 rfl ?_
        refine e_get d_X11_goesOn_51 f_X11_212 H_md rfl ?_
        obtain ⟨ht1, ht2, ht3⟩ := tk_ar htk c10 (by first | exact Or.inl c19 | exact Or.inr (Or.inl c28) | exact Or.inr (Or.inr (Or.inl c37)) | exact Or.inr (Or.inr (Or.inr (by first | exact c46 | exact Decidable.of_not_not c46))))
        rw [ht3]
        refine e_callRVV d_X11_goesOn_54 l_X11_goesOn_278 H_md rfl rfl (s_X11_waitsFor (t := (tok tb L s).1) hP hGs hN (mr_vS hw ht1 ht2) (vSF hw) (by omega) (by omega) (by omega) (by omega) H_mtape hmt (tok_nx hsL (by omega)).2.2 hL) rfl rfl (Nat.le_of_ble_eq_true rfl) (fun h_54 q_54 s_54 => ?_)
        obtain ⟨hP54, hGs54, hN54, fr_54⟩ := q_54
        obtain ⟨so54, to54, mfl54, mfa54, mdn54, mup54, mlo54, mgu54, mgl54, H_md54, htk54⟩ := id hP54
        refine e_aloadn d_X11_goesOn_57 rfl ?_
        refine e_iconst (v := 1) d_X11_goesOn_58 (by decide) ?_
        refine e_puti d_X11_goesOn_59 f_X11_260 H_md54 (Nat.le_of_ble_eq_true rfl) ?_
        refine e_gt d_X11_goesOn_62 ?_
        exact e_vret d_X11_goesOn_250 rfl (⟨rfl, MqR_ok (S := (1, (4, (tok tb L s).1 :: sdr (rkc (tok tb L s).1) w) :: r0, nd + 1, kd, cdA cd (nd + 1) (stk (rkc (tok tb L s).1) w), my, ne)) (by simp only [gOperator]; rw [if_pos ⟨ht1, ht2⟩]) (MCs_mk (by decide) ⟨_, _, _, _, _, _, _, _, _, H_md54.s, htk54⟩ (hGs54.fr ((Fr.refl [66] _).up (by decide)) (by simp)) (hN54.fr ((Fr.refl [66] _).up (by decide)) (by simp))), (fr_54.up (k := 66) (by decide)).mono (by decide)⟩)
      · refine e_aloadn d_X11_goesOn_31 rfl ?_
        refine e_get d_X11_goesOn_32 f_X11_212 H_md rfl ?_
        refine e_bipush (v := 42) d_X11_goesOn_35 (by decide) ?_
        refine e_icmp_eq d_X11_goesOn_37 (fun c37 => ?_) (fun c37 => ?_)
        · refine e_aloadn d_X11_goesOn_49 rfl ?_
          refine e_aloadn d_X11_goesOn_50 rfl ?_
          refine e_get d_X11_goesOn_51 f_X11_212 H_md rfl ?_
          obtain ⟨ht1, ht2, ht3⟩ := tk_ar htk c10 (by first | exact Or.inl c19 | exact Or.inr (Or.inl c28) | exact Or.inr (Or.inr (Or.inl c37)) | exact Or.inr (Or.inr (Or.inr (by first | exact c46 | exact Decidable.of_not_not c46))))
          rw [ht3]
          refine e_callRVV d_X11_goesOn_54 l_X11_goesOn_278 H_md rfl rfl (s_X11_waitsFor (t := (tok tb L s).1) hP hGs hN (mr_vS hw ht1 ht2) (vSF hw) (by omega) (by omega) (by omega) (by omega) H_mtape hmt (tok_nx hsL (by omega)).2.2 hL) rfl rfl (Nat.le_of_ble_eq_true rfl) (fun h_54 q_54 s_54 => ?_)
          obtain ⟨hP54, hGs54, hN54, fr_54⟩ := q_54
          obtain ⟨so54, to54, mfl54, mfa54, mdn54, mup54, mlo54, mgu54, mgl54, H_md54, htk54⟩ := id hP54
          refine e_aloadn d_X11_goesOn_57 rfl ?_
          refine e_iconst (v := 1) d_X11_goesOn_58 (by decide) ?_
          refine e_puti d_X11_goesOn_59 f_X11_260 H_md54 (Nat.le_of_ble_eq_true rfl) ?_
          refine e_gt d_X11_goesOn_62 ?_
          exact e_vret d_X11_goesOn_250 rfl (⟨rfl, MqR_ok (S := (1, (4, (tok tb L s).1 :: sdr (rkc (tok tb L s).1) w) :: r0, nd + 1, kd, cdA cd (nd + 1) (stk (rkc (tok tb L s).1) w), my, ne)) (by simp only [gOperator]; rw [if_pos ⟨ht1, ht2⟩]) (MCs_mk (by decide) ⟨_, _, _, _, _, _, _, _, _, H_md54.s, htk54⟩ (hGs54.fr ((Fr.refl [66] _).up (by decide)) (by simp)) (hN54.fr ((Fr.refl [66] _).up (by decide)) (by simp))), (fr_54.up (k := 66) (by decide)).mono (by decide)⟩)
        · refine e_aloadn d_X11_goesOn_40 rfl ?_
          refine e_get d_X11_goesOn_41 f_X11_212 H_md rfl ?_
          refine e_bipush (v := 47) d_X11_goesOn_44 (by decide) ?_
          refine e_icmp_ne d_X11_goesOn_46 (fun c46 => ?_) (fun c46 => ?_)
          · have hna : ¬ (27 ≤ (tok tb L s).1 ∧ (tok tb L s).1 ≤ 30) := fun z => by
              rcases (tk_nar htk z).2 with q | q | q | q
              · exact c19 q
              · exact c28 q
              · exact c37 q
              · exact c46 q
            refine e_iloadn d_X11_goesOn_65 rfl ?_
            refine e_bipush (v := 6) d_X11_goesOn_66 (by decide) ?_
            refine e_icmp_ne d_X11_goesOn_68 (fun _ => ?_) (fun z => by first | exact absurd (by decide) z | exact absurd z (by decide))
            refine e_iloadn d_X11_goesOn_116 rfl ?_
            refine e_iconst (v := 4) d_X11_goesOn_117 (by decide) ?_
            refine e_icmp_ne d_X11_goesOn_118 (fun z => by first | exact absurd (fun z => z rfl) z | exact absurd z (fun z => z rfl)) (fun _ => ?_)
            refine e_aloadn d_X11_goesOn_121 rfl ?_
            refine e_get d_X11_goesOn_122 f_X11_200 H_md rfl ?_
            refine e_iconst (v := 3) d_X11_goesOn_125 (by decide) ?_
            refine e_icmp_ne d_X11_goesOn_126 (fun c126 => ?_) (fun c126 => ?_)
            · have hnq : ¬ (21 ≤ (tok tb L s).1 ∧ (tok tb L s).1 ≤ 26) := fun z => c126 ((tk_sg htk (c := (tok tb L s).1) (by omega) (by omega) (by omega)).mpr rfl).1
              refine e_iloadn d_X11_goesOn_181 rfl ?_
              refine e_iconst (v := 5) d_X11_goesOn_182 (by decide) ?_
              refine e_icmp_ne d_X11_goesOn_183 (fun _ => ?_) (fun z => by first | exact absurd (by decide) z | exact absurd z (by decide))
              refine e_iloadn d_X11_goesOn_224 rfl ?_
              refine e_iconst (v := 1) d_X11_goesOn_225 (by decide) ?_
              refine e_icmp_ne d_X11_goesOn_226 (fun _ => ?_) (fun z => by first | exact absurd (by decide) z | exact absurd z (by decide))
              refine e_aloadn d_X11_goesOn_245 rfl ?_
              refine e_iconst (v := 1) d_X11_goesOn_246 (by decide) ?_
              have hg : (gOperator (tok tb L s).1 ((4, w) :: r0) (nd + 1) kd cd my ne).1 = 1 := by
                simp only [gOperator]
                rw [if_neg hna, if_neg (by omega), if_pos trivial, if_neg hnq]
              refine e_callRVV d_X11_goesOn_247 l_X11_goesOn_231 H_md rfl rfl (s_X11_errs2 (q := 1) hP) rfl rfl (Nat.le_of_ble_eq_true rfl) (fun h_247 q_247 s_247 => ?_)
              exact e_vret d_X11_goesOn_250 rfl (⟨rfl, MqR_bad hg (by decide) q_247.1, q_247.2.mono (by decide)⟩)
            · have c126 : so = 3 := by first | exact c126 | exact Decidable.of_not_not c126
              obtain ⟨k9, hk1, hk2, hk3, hk4⟩ := tk_ask htk c126
              subst hk2
              refine e_aloadn d_X11_goesOn_129 rfl ?_
              refine e_get d_X11_goesOn_130 f_X11_212 H_md rfl ?_
              refine e_callSI d_X11_goesOn_133 l_X11_goesOn_281 (s_X11_isAsking hk1) rfl rfl (Nat.le_of_ble_eq_true rfl) ?_
              refine e_if_eq d_X11_goesOn_136 (fun c136 => ?_) (fun c136 => ?_)
              · have hnq : ¬ (21 ≤ (tok tb L s).1 ∧ (tok tb L s).1 ≤ 26) := fun z => bI_0.mp c136 (hk3.mpr z)
                refine e_iloadn d_X11_goesOn_181 rfl ?_
                refine e_iconst (v := 5) d_X11_goesOn_182 (by decide) ?_
                refine e_icmp_ne d_X11_goesOn_183 (fun _ => ?_) (fun z => by first | exact absurd (by decide) z | exact absurd z (by decide))
                refine e_iloadn d_X11_goesOn_224 rfl ?_
                refine e_iconst (v := 1) d_X11_goesOn_225 (by decide) ?_
                refine e_icmp_ne d_X11_goesOn_226 (fun _ => ?_) (fun z => by first | exact absurd (by decide) z | exact absurd z (by decide))
                refine e_aloadn d_X11_goesOn_245 rfl ?_
                refine e_iconst (v := 1) d_X11_goesOn_246 (by decide) ?_
                have hg : (gOperator (tok tb L s).1 ((4, w) :: r0) (nd + 1) kd cd my ne).1 = 1 := by
                  simp only [gOperator]
                  rw [if_neg hna, if_neg (by omega), if_pos trivial, if_neg hnq]
                refine e_callRVV d_X11_goesOn_247 l_X11_goesOn_231 H_md rfl rfl (s_X11_errs2 (q := 1) hP) rfl rfl (Nat.le_of_ble_eq_true rfl) (fun h_247 q_247 s_247 => ?_)
                exact e_vret d_X11_goesOn_250 rfl (⟨rfl, MqR_bad hg (by decide) q_247.1, q_247.2.mono (by decide)⟩)
              · have hq9 : 21 ≤ (tok tb L s).1 ∧ (tok tb L s).1 ≤ 26 := hk3.mp (bI_1.mp (bI_z.resolve_left c136))
                have hkk := hk4 hq9
                have htk9 := htk
                refine e_aloadn d_X11_goesOn_139 rfl ?_
                refine e_iconst (v := 3) d_X11_goesOn_140 (by decide) ?_
                refine e_callRVV d_X11_goesOn_141 l_X11_goesOn_251 H_md rfl rfl (s_X11_works (q := 3) (R := 5) hP hGs hN (st_5 hw).2.2 (vSF hw) (by omega) (by omega) (by decide) (by omega)) rfl rfl (Nat.le_of_ble_eq_true rfl) (fun h_141 q_141 s_141 => ?_)
                obtain ⟨hP141, hGs141, hN142, fr_141⟩ := q_141
                rw [(st_5 hw).1, (st_5 hw).2.1] at hP141
                rw [(st_5 hw).1] at hN142
                rw [(st_5 hw).2.1] at hGs141
                obtain ⟨so141, to141, mfl141, mfa141, mdn141, mup141, mlo141, mgu141, mgl141, H_md142, htk141⟩ := id hP141
                obtain ⟨fr142, cm142, wa142, wf142, H_mfr142, H_mco142, H_mwa142, H_mwf142, hG142⟩ := id hGs141
                have hto : to141 = nI (encO (tok tb L s).1) := by
                  rw [encO_msg (tok tb L s).1 (by omega) (by omega)]
                  exact ((tk_sg htk141 (c := (tok tb L s).1) (by omega) (by omega) (by omega)).mpr rfl).2
                subst hto
                refine e_aloadn d_X11_goesOn_144 rfl ?_
                refine e_get d_X11_goesOn_145 f_X11_48 H_md142 rfl ?_
                refine e_aloadn d_X11_goesOn_148 rfl ?_
                refine e_get d_X11_goesOn_149 f_X11_225 H_md142 rfl ?_
                refine e_aloadn d_X11_goesOn_152 rfl ?_
                refine e_get d_X11_goesOn_153 f_X11_212 H_md142 rfl ?_
                refine e_iastN (k := (r0.length + 1)) d_X11_goesOn_156 H_mco142 rfl (by omega) (by omega) ?_
                refine e_aloadn d_X11_goesOn_157 rfl ?_
                refine e_get d_X11_goesOn_158 f_X11_45 (H_md142.n (by decide)) rfl ?_
                refine e_aloadn d_X11_goesOn_161 rfl ?_
                refine e_get d_X11_goesOn_162 f_X11_225 (H_md142.n (by decide)) rfl ?_
                refine e_iconst (v := 1) d_X11_goesOn_165 (by decide) ?_
                refine e_isub d_X11_goesOn_166 ?_
                refine e_iconst (v := 5) d_X11_goesOn_167 (by decide) ?_
                rw [show nI (r0.length + 1) - 1 = nI r0.length from nI_m]
                refine e_iastN (k := r0.length) d_X11_goesOn_168 (H_mfr142.n (by decide)) rfl (by omega) (by omega) ?_
                refine e_aloadn d_X11_goesOn_169 rfl ?_
                refine e_callRVV d_X11_goesOn_170 l_X11_goesOn_237 ((H_md142.n (by decide)).n (by decide)) rfl rfl (s_X11_next2 (MdP.mk ((H_md142.n (by decide)).n (by decide)) htk141) ((fr_141.hs H_mtape (by decide)).n (by decide) |>.n (by decide)) hmt (tok_nx hsL (by omega)).2.2 hL) rfl rfl (Nat.le_of_ble_eq_true rfl) (fun h_170 q_170 s_170 => ?_)
                obtain ⟨hP170, fr_170⟩ := q_170
                obtain ⟨so170, to170, mfl170, mfa170, mdn170, mup170, mlo170, mgu170, mgl170, H_md170, htk170⟩ := id hP170
                have hO9 : nO (((tok tb L s).1, []) :: r0) = nO ((4, w) :: r0) := by simp only [nO]; rw [if_neg (by omega), if_neg (by decide)]
                have hW9 : nW (((tok tb L s).1, []) :: r0) = ([] : List Nat).length + nW r0 := rfl
                refine e_aloadn d_X11_goesOn_173 rfl ?_
                refine e_iconst (v := 1) d_X11_goesOn_174 (by decide) ?_
                refine e_puti d_X11_goesOn_175 f_X11_260 H_md170 (Nat.le_of_ble_eq_true rfl) ?_
                refine e_gt d_X11_goesOn_178 ?_
                exact e_vret d_X11_goesOn_250 rfl (⟨rfl, MqR_ok (S := (1, ((tok tb L s).1, []) :: r0, nd + 1, kd, cdA cd (nd + 1) w, my, ne)) (by simp only [gOperator]; rw [if_neg hna, if_neg (by omega), if_pos trivial, if_pos hq9]) (MCs_mk (by decide) ⟨_, _, _, _, _, _, _, _, _, by rw [hO9, hW9]; exact H_md170.s, htk170⟩ ⟨_, _, wa142, wf142, (fr_170.hs ((Hs.s (H_mfr142.n (by decide)))) (by decide)).n (by decide), (fr_170.hs (H_mco142.s.n (by decide)) (by decide)).n (by decide), (fr_170.hs ((H_mwa142.n (by decide)).n (by decide)) (by decide)).n (by decide), (fr_170.hs ((H_mwf142.n (by decide)).n (by decide)) (by decide)).n (by decide), by rw [va_up_self, mfr, if_pos hq9.1]; rfl, fun _ => by rw [va_up_self], trivial, hG142.2.2.2.upf (Nat.le_refl _) (Nat.lt_succ_self _)⟩ (hN142.fr ((((Fr.refl [66, 76, 77] _).up (by decide)).up (by decide)).trans ((fr_170.mono (by decide)).up (by decide))) (by simp))), ((((fr_141.mono (by decide)).up (by decide)).up (by decide)).trans ((fr_170.mono (by decide)).up (by decide)))⟩)
          · refine e_aloadn d_X11_goesOn_49 rfl ?_
            refine e_aloadn d_X11_goesOn_50 rfl ?_
            refine e_get d_X11_goesOn_51 f_X11_212 H_md rfl ?_
            obtain ⟨ht1, ht2, ht3⟩ := tk_ar htk c10 (by first | exact Or.inl c19 | exact Or.inr (Or.inl c28) | exact Or.inr (Or.inr (Or.inl c37)) | exact Or.inr (Or.inr (Or.inr (by first | exact c46 | exact Decidable.of_not_not c46))))
            rw [ht3]
            refine e_callRVV d_X11_goesOn_54 l_X11_goesOn_278 H_md rfl rfl (s_X11_waitsFor (t := (tok tb L s).1) hP hGs hN (mr_vS hw ht1 ht2) (vSF hw) (by omega) (by omega) (by omega) (by omega) H_mtape hmt (tok_nx hsL (by omega)).2.2 hL) rfl rfl (Nat.le_of_ble_eq_true rfl) (fun h_54 q_54 s_54 => ?_)
            obtain ⟨hP54, hGs54, hN54, fr_54⟩ := q_54
            obtain ⟨so54, to54, mfl54, mfa54, mdn54, mup54, mlo54, mgu54, mgl54, H_md54, htk54⟩ := id hP54
            refine e_aloadn d_X11_goesOn_57 rfl ?_
            refine e_iconst (v := 1) d_X11_goesOn_58 (by decide) ?_
            refine e_puti d_X11_goesOn_59 f_X11_260 H_md54 (Nat.le_of_ble_eq_true rfl) ?_
            refine e_gt d_X11_goesOn_62 ?_
            exact e_vret d_X11_goesOn_250 rfl (⟨rfl, MqR_ok (S := (1, (4, (tok tb L s).1 :: sdr (rkc (tok tb L s).1) w) :: r0, nd + 1, kd, cdA cd (nd + 1) (stk (rkc (tok tb L s).1) w), my, ne)) (by simp only [gOperator]; rw [if_pos ⟨ht1, ht2⟩]) (MCs_mk (by decide) ⟨_, _, _, _, _, _, _, _, _, H_md54.s, htk54⟩ (hGs54.fr ((Fr.refl [66] _).up (by decide)) (by simp)) (hN54.fr ((Fr.refl [66] _).up (by decide)) (by simp))), (fr_54.up (k := 66) (by decide)).mono (by decide)⟩)

theorem s_X11_goesOn_c {h : AH} {tb : Nat → Nat} {L s nd r f : Nat} {w : List Nat} {r0 : LV} {kd : Nat → Nat} {cd : Nat → List Nat} {my ne : Int32} {mt : Nat → Int32} (hP : MdP h tb L s 0 (-1) (nO ((f, w) :: r0)) ((f, w) :: r0).length (nW ((f, w) :: r0)) nd r 2 (nI (kd nd - 14))) (hGs : MGs h ((f, w) :: r0)) (hN : MN h nd true kd cd my ne r) (H_mtape : Hs h 69 (aB 300 mt)) (hmt : ∀ k, k < 300 → mt k = sbI (tb k) ∧ tb k < 256) (hsL : s ≤ L) (hL : L ≤ 300) (hw : vS w) (hE : shE r0) (hf : 21 ≤ f ∧ f ≤ 26) (hgl : ((f, w) :: r0).length < 30) (hgw : nW ((f, w) :: r0) < 70) (hr3 : r ≤ 310) : Sp M_X11_goesOn (0, 0) h [.ref 66] (rV (fun h' => ((27 ≤ (tok tb L s).1 ∧ (tok tb L s).1 ≤ 30) → MqR h' tb L s (gOperator (tok tb L s).1 ((f, w) :: r0) (nd + 1) kd cd my ne)) ∧ (¬ (27 ≤ (tok tb L s).1 ∧ (tok tb L s).1 ≤ 30) → MC3 h' tb L s (unt r0) nd kd (cdA cd (nd + 1) (w ++ ([f] ++ List.replicate (nts r0) 11))) my ne) ∧ Fr [66, 76, 77, 78, 79, 80, 81, 82, 83, 84] h h')) := by
  refine ⟨Nat.le_of_ble_eq_true rfl, ?_⟩
  show E _ _ _ 0 h [some (.ref 66), none, none] []
  obtain ⟨so, to, mfl, mfa, mdn, mup, mlo, mgu, mgl, H_md, htk⟩ := id hP
  obtain ⟨fr, cm, wa, wf, H_mfr, H_mco, H_mwa, H_mwf, hG⟩ := id hGs
  have hvl := (vS_in hw).2
  have hgl9 : (r0 : LV).length + 1 < 30 := hgl
  have hgw9 : w.length + nW r0 < 70 := hgw
  refine e_aloadn d_X11_goesOn_0 rfl ?_
  refine e_callVI d_X11_goesOn_1 l_X11_goesOn_275 H_md rfl rfl (s_X11_top H_md H_mfr (by omega)) rfl rfl (Nat.le_of_ble_eq_true rfl) ?_
  rw [hG.1, show mfr f = 5 from by unfold mfr; rw [if_pos hf.1]]
  refine e_istoren d_X11_goesOn_4 (by decide) rfl ?_
  refine e_aloadn d_X11_goesOn_5 rfl ?_
  refine e_get d_X11_goesOn_6 f_X11_200 H_md rfl ?_
  refine e_iconst (v := 3) d_X11_goesOn_9 (by decide) ?_
  refine e_icmp_ne d_X11_goesOn_10 (fun c10 => ?_) (fun c10 => ?_)
  · have hna : ¬ (27 ≤ (tok tb L s).1 ∧ (tok tb L s).1 ≤ 30) := fun z => c10 (tk_nar htk z).1
    refine e_iloadn d_X11_goesOn_65 rfl ?_
    refine e_bipush (v := 6) d_X11_goesOn_66 (by decide) ?_
    refine e_icmp_ne d_X11_goesOn_68 (fun _ => ?_) (fun z => by first | exact absurd (by decide) z | exact absurd z (by decide))
    refine e_iloadn d_X11_goesOn_116 rfl ?_
    refine e_iconst (v := 4) d_X11_goesOn_117 (by decide) ?_
    refine e_icmp_ne d_X11_goesOn_118 (fun _ => ?_) (fun z => by first | exact absurd (by decide) z | exact absurd z (by decide))
    refine e_iloadn d_X11_goesOn_181 rfl ?_
    refine e_iconst (v := 5) d_X11_goesOn_182 (by decide) ?_
    refine e_icmp_ne d_X11_goesOn_183 (fun z => by first | exact absurd (fun z => z rfl) z | exact absurd z (fun z => z rfl)) (fun _ => ?_)
    refine e_aloadn d_X11_goesOn_186 rfl ?_
    refine e_iconst (v := 3) d_X11_goesOn_187 (by decide) ?_
    refine e_callRVV d_X11_goesOn_188 l_X11_goesOn_251 H_md rfl rfl (s_X11_works (q := 3) (R := 5) hP hGs hN (st_5 hw).2.2 (vSF hw) (by omega) (by omega) (by decide) (by omega)) rfl rfl (Nat.le_of_ble_eq_true rfl) (fun h_188 q_188 s_188 => ?_)
    obtain ⟨hP188, hGs188, hN188, fr_188⟩ := q_188
    rw [(st_5 hw).1, (st_5 hw).2.1] at hP188
    rw [(st_5 hw).1] at hN188
    rw [(st_5 hw).2.1] at hGs188
    obtain ⟨so188, to188, mfl188, mfa188, mdn188, mup188, mlo188, mgu188, mgl188, H_md188, htk188⟩ := id hP188
    obtain ⟨fr188, cm188, wa188, wf188, H_mfr188, H_mco188, H_mwa188, H_mwf188, hG188⟩ := id hGs188
    refine e_aloadn d_X11_goesOn_191 rfl ?_
    refine e_get d_X11_goesOn_192 f_X11_48 H_md188 rfl ?_
    refine e_aloadn d_X11_goesOn_195 rfl ?_
    refine e_get d_X11_goesOn_196 f_X11_225 H_md188 rfl ?_
    refine e_ialdN (k := (r0.length + 1)) d_X11_goesOn_199 H_mco188 rfl (by omega) (by omega) ?_
    rw [hG188.2.1 hf.1]
    refine e_istoren d_X11_goesOn_200 (by decide) rfl ?_
    refine e_aloadn d_X11_goesOn_201 rfl ?_
    refine e_dup d_X11_goesOn_202 rfl ?_
    refine e_get d_X11_goesOn_203 f_X11_225 H_md188 rfl ?_
    refine e_iconst (v := 1) d_X11_goesOn_206 (by decide) ?_
    refine e_isub d_X11_goesOn_207 ?_
    rw [show nI (r0.length + 1) - 1 = nI r0.length from nI_m]
    refine e_puti d_X11_goesOn_208 f_X11_225 H_md188 (Nat.le_of_ble_eq_true rfl) ?_
    refine e_aloadn d_X11_goesOn_211 rfl ?_
    refine e_iloadn d_X11_goesOn_212 rfl ?_
    refine e_iconst (v := 0) d_X11_goesOn_213 (by decide) ?_
    refine e_callRVV d_X11_goesOn_214 l_X11_goesOn_247 H_md188.s rfl rfl (s_X11_emits2 (t := f) (MdP.mk H_md188.s htk188) (hN188.fr (S := [66]) ((Fr.refl _ _).up (by decide)) (by simp)) (by omega) rfl (fun z => by omega) (fun z => by omega)) rfl rfl (Nat.le_of_ble_eq_true rfl) (fun h_214 q_214 s_214 => ?_)
    obtain ⟨hP214, hN214, fr_214⟩ := q_214
    rw [show ([] : List Nat).length + nW r0 = nW r0 from Nat.zero_add _, show nO ((f, w) :: r0) = nO r0 from by simp only [nO]; rw [if_neg (by omega), Nat.zero_add]] at hP214
    obtain ⟨so214, to214, mfl214, mfa214, mdn214, mup214, mlo214, mgu214, mgl214, H_md214, htk214⟩ := id hP214
    refine e_aloadn d_X11_goesOn_217 rfl ?_
    refine e_callRVV d_X11_goesOn_218 l_X11_goesOn_284 H_md214 rfl rfl (s_X11_askIsOver hP214 (MGs_tl (hGs188.fr (((Fr.refl [66, 83, 84] _).up (by decide)).trans fr_214) (by simp))) hN214 hE (by have := nts_le r0; omega) (by omega)) rfl rfl (Nat.le_of_ble_eq_true rfl) (fun h_218 q_218 s_218 => ?_)
    obtain ⟨hP218, hGs218, hN218, fr_218⟩ := q_218
    refine e_gt d_X11_goesOn_221 ?_
    exact e_vret d_X11_goesOn_250 rfl (⟨rfl, fun z => absurd z hna, fun _ => ⟨_, hP218, hGs218, by rw [← List.append_assoc, ← cdA_app, ← cdA_app]; exact hN218⟩, ((((fr_188.mono (by decide)).up (by decide)).trans (fr_214.mono (by decide))).trans (fr_218.mono (by decide)))⟩)
  · have c10 : so = 3 := by first | exact c10 | exact Decidable.of_not_not c10
    refine e_aloadn d_X11_goesOn_13 rfl ?_
    refine e_get d_X11_goesOn_14 f_X11_212 H_md rfl ?_
    refine e_bipush (v := 43) d_X11_goesOn_17 (by decide) ?_
    refine e_icmp_eq d_X11_goesOn_19 (fun c19 => ?_) (fun c19 => ?_)
    · refine e_aloadn d_X11_goesOn_49 rfl ?_
      refine e_aloadn d_X11_goesOn_50 rfl ?_
      refine e_get d_X11_goesOn_51 f_X11_212 H_md rfl ?_
      obtain ⟨ht1, ht2, ht3⟩ := tk_ar htk c10 (by first | exact Or.inl c19 | exact Or.inr (Or.inl c28) | exact Or.inr (Or.inr (Or.inl c37)) | exact Or.inr (Or.inr (Or.inr (by first | exact c46 | exact Decidable.of_not_not c46))))
      rw [ht3]
      refine e_callRVV d_X11_goesOn_54 l_X11_goesOn_278 H_md rfl rfl (s_X11_waitsFor (t := (tok tb L s).1) hP hGs hN (mr_vS hw ht1 ht2) (vSF hw) (by omega) (by omega) (by omega) (by omega) H_mtape hmt (tok_nx hsL (by omega)).2.2 hL) rfl rfl (Nat.le_of_ble_eq_true rfl) (fun h_54 q_54 s_54 => ?_)
      obtain ⟨hP54, hGs54, hN54, fr_54⟩ := q_54
      obtain ⟨so54, to54, mfl54, mfa54, mdn54, mup54, mlo54, mgu54, mgl54, H_md54, htk54⟩ := id hP54
      refine e_aloadn d_X11_goesOn_57 rfl ?_
      refine e_iconst (v := 1) d_X11_goesOn_58 (by decide) ?_
      refine e_puti d_X11_goesOn_59 f_X11_260 H_md54 (Nat.le_of_ble_eq_true rfl) ?_
      refine e_gt d_X11_goesOn_62 ?_
      exact e_vret d_X11_goesOn_250 rfl (⟨rfl, fun _ => MqR_ok (S := (1, (f, (tok tb L s).1 :: sdr (rkc (tok tb L s).1) w) :: r0, nd + 1, kd, cdA cd (nd + 1) (stk (rkc (tok tb L s).1) w), my, ne)) (by simp only [gOperator]; rw [if_pos ⟨ht1, ht2⟩]) (MCs_mk (by decide) ⟨_, _, _, _, _, _, _, _, _, H_md54.s, htk54⟩ (hGs54.fr ((Fr.refl [66] _).up (by decide)) (by simp)) (hN54.fr ((Fr.refl [66] _).up (by decide)) (by simp))), fun z => absurd ⟨ht1, ht2⟩ z, (fr_54.up (k := 66) (by decide)).mono (by decide)⟩)
    · refine e_aloadn d_X11_goesOn_22 rfl ?_
      refine e_get d_X11_goesOn_23 f_X11_212 H_md rfl ?_
      refine e_bipush (v := 45) d_X11_goesOn_26 (by decide) ?_
      refine e_icmp_eq d_X11_goesOn_28 (fun c28 => ?_) (fun c28 => ?_)
      · refine e_aloadn d_X11_goesOn_49 rfl ?_
        refine e_aloadn d_X11_goesOn_50 rfl ?_
        refine e_get d_X11_goesOn_51 f_X11_212 H_md rfl ?_
        obtain ⟨ht1, ht2, ht3⟩ := tk_ar htk c10 (by first | exact Or.inl c19 | exact Or.inr (Or.inl c28) | exact Or.inr (Or.inr (Or.inl c37)) | exact Or.inr (Or.inr (Or.inr (by first | exact c46 | exact Decidable.of_not_not c46))))
        rw [ht3]
        refine e_callRVV d_X11_goesOn_54 l_X11_goesOn_278 H_md rfl rfl (s_X11_waitsFor (t := (tok tb L s).1) hP hGs hN (mr_vS hw ht1 ht2) (vSF hw) (by omega) (by omega) (by omega) (by omega) H_mtape hmt (tok_nx hsL (by omega)).2.2 hL) rfl rfl (Nat.le_of_ble_eq_true rfl) (fun h_54 q_54 s_54 => ?_)
        obtain ⟨hP54, hGs54, hN54, fr_54⟩ := q_54
        obtain ⟨so54, to54, mfl54, mfa54, mdn54, mup54, mlo54, mgu54, mgl54, H_md54, htk54⟩ := id hP54
        refine e_aloadn d_X11_goesOn_57 rfl ?_
        refine e_iconst (v := 1) d_X11_goesOn_58 (by decide) ?_
        refine e_puti d_X11_goesOn_59 f_X11_260 H_md54 (Nat.le_of_ble_eq_true rfl) ?_
        refine e_gt d_X11_goesOn_62 ?_
        exact e_vret d_X11_goesOn_250 rfl (⟨rfl, fun _ => MqR_ok (S := (1, (f, (tok tb L s).1 :: sdr (rkc (tok tb L s).1) w) :: r0, nd + 1, kd, cdA cd (nd + 1) (stk (rkc (tok tb L s).1) w), my, ne)) (by simp only [gOperator]; rw [if_pos ⟨ht1, ht2⟩]) (MCs_mk (by decide) ⟨_, _, _, _, _, _, _, _, _, H_md54.s, htk54⟩ (hGs54.fr ((Fr.refl [66] _).up (by decide)) (by simp)) (hN54.fr ((Fr.refl [66] _).up (by decide)) (by simp))), fun z => absurd ⟨ht1, ht2⟩ z, (fr_54.up (k := 66) (by decide)).mono (by decide)⟩)
      · refine e_aloadn d_X11_goesOn_31 rfl ?_
        refine e_get d_X11_goesOn_32 f_X11_212 H_md rfl ?_
        refine e_bipush (v := 42) d_X11_goesOn_35 (by decide) ?_
        refine e_icmp_eq d_X11_goesOn_37 (fun c37 => ?_) (fun c37 => ?_)
        · refine e_aloadn d_X11_goesOn_49 rfl ?_
          refine e_aloadn d_X11_goesOn_50 rfl ?_
          refine e_get d_X11_goesOn_51 f_X11_212 H_md rfl ?_
          obtain ⟨ht1, ht2, ht3⟩ := tk_ar htk c10 (by first | exact Or.inl c19 | exact Or.inr (Or.inl c28) | exact Or.inr (Or.inr (Or.inl c37)) | exact Or.inr (Or.inr (Or.inr (by first | exact c46 | exact Decidable.of_not_not c46))))
          rw [ht3]
          refine e_callRVV d_X11_goesOn_54 l_X11_goesOn_278 H_md rfl rfl (s_X11_waitsFor (t := (tok tb L s).1) hP hGs hN (mr_vS hw ht1 ht2) (vSF hw) (by omega) (by omega) (by omega) (by omega) H_mtape hmt (tok_nx hsL (by omega)).2.2 hL) rfl rfl (Nat.le_of_ble_eq_true rfl) (fun h_54 q_54 s_54 => ?_)
          obtain ⟨hP54, hGs54, hN54, fr_54⟩ := q_54
          obtain ⟨so54, to54, mfl54, mfa54, mdn54, mup54, mlo54, mgu54, mgl54, H_md54, htk54⟩ := id hP54
          refine e_aloadn d_X11_goesOn_57 rfl ?_
          refine e_iconst (v := 1) d_X11_goesOn_58 (by decide) ?_
          refine e_puti d_X11_goesOn_59 f_X11_260 H_md54 (Nat.le_of_ble_eq_true rfl) ?_
          refine e_gt d_X11_goesOn_62 ?_
          exact e_vret d_X11_goesOn_250 rfl (⟨rfl, fun _ => MqR_ok (S := (1, (f, (tok tb L s).1 :: sdr (rkc (tok tb L s).1) w) :: r0, nd + 1, kd, cdA cd (nd + 1) (stk (rkc (tok tb L s).1) w), my, ne)) (by simp only [gOperator]; rw [if_pos ⟨ht1, ht2⟩]) (MCs_mk (by decide) ⟨_, _, _, _, _, _, _, _, _, H_md54.s, htk54⟩ (hGs54.fr ((Fr.refl [66] _).up (by decide)) (by simp)) (hN54.fr ((Fr.refl [66] _).up (by decide)) (by simp))), fun z => absurd ⟨ht1, ht2⟩ z, (fr_54.up (k := 66) (by decide)).mono (by decide)⟩)
        · refine e_aloadn d_X11_goesOn_40 rfl ?_
          refine e_get d_X11_goesOn_41 f_X11_212 H_md rfl ?_
          refine e_bipush (v := 47) d_X11_goesOn_44 (by decide) ?_
          refine e_icmp_ne d_X11_goesOn_46 (fun c46 => ?_) (fun c46 => ?_)
          · have hna : ¬ (27 ≤ (tok tb L s).1 ∧ (tok tb L s).1 ≤ 30) := fun z => by
              rcases (tk_nar htk z).2 with q | q | q | q
              · exact c19 q
              · exact c28 q
              · exact c37 q
              · exact c46 q
            refine e_iloadn d_X11_goesOn_65 rfl ?_
            refine e_bipush (v := 6) d_X11_goesOn_66 (by decide) ?_
            refine e_icmp_ne d_X11_goesOn_68 (fun _ => ?_) (fun z => by first | exact absurd (by decide) z | exact absurd z (by decide))
            refine e_iloadn d_X11_goesOn_116 rfl ?_
            refine e_iconst (v := 4) d_X11_goesOn_117 (by decide) ?_
            refine e_icmp_ne d_X11_goesOn_118 (fun _ => ?_) (fun z => by first | exact absurd (by decide) z | exact absurd z (by decide))
            refine e_iloadn d_X11_goesOn_181 rfl ?_
            refine e_iconst (v := 5) d_X11_goesOn_182 (by decide) ?_
            refine e_icmp_ne d_X11_goesOn_183 (fun z => by first | exact absurd (fun z => z rfl) z | exact absurd z (fun z => z rfl)) (fun _ => ?_)
            refine e_aloadn d_X11_goesOn_186 rfl ?_
            refine e_iconst (v := 3) d_X11_goesOn_187 (by decide) ?_
            refine e_callRVV d_X11_goesOn_188 l_X11_goesOn_251 H_md rfl rfl (s_X11_works (q := 3) (R := 5) hP hGs hN (st_5 hw).2.2 (vSF hw) (by omega) (by omega) (by decide) (by omega)) rfl rfl (Nat.le_of_ble_eq_true rfl) (fun h_188 q_188 s_188 => ?_)
            obtain ⟨hP188, hGs188, hN188, fr_188⟩ := q_188
            rw [(st_5 hw).1, (st_5 hw).2.1] at hP188
            rw [(st_5 hw).1] at hN188
            rw [(st_5 hw).2.1] at hGs188
            obtain ⟨so188, to188, mfl188, mfa188, mdn188, mup188, mlo188, mgu188, mgl188, H_md188, htk188⟩ := id hP188
            obtain ⟨fr188, cm188, wa188, wf188, H_mfr188, H_mco188, H_mwa188, H_mwf188, hG188⟩ := id hGs188
            refine e_aloadn d_X11_goesOn_191 rfl ?_
            refine e_get d_X11_goesOn_192 f_X11_48 H_md188 rfl ?_
            refine e_aloadn d_X11_goesOn_195 rfl ?_
            refine e_get d_X11_goesOn_196 f_X11_225 H_md188 rfl ?_
            refine e_ialdN (k := (r0.length + 1)) d_X11_goesOn_199 H_mco188 rfl (by omega) (by omega) ?_
            rw [hG188.2.1 hf.1]
            refine e_istoren d_X11_goesOn_200 (by decide) rfl ?_
            refine e_aloadn d_X11_goesOn_201 rfl ?_
            refine e_dup d_X11_goesOn_202 rfl ?_
            refine e_get d_X11_goesOn_203 f_X11_225 H_md188 rfl ?_
            refine e_iconst (v := 1) d_X11_goesOn_206 (by decide) ?_
            refine e_isub d_X11_goesOn_207 ?_
            rw [show nI (r0.length + 1) - 1 = nI r0.length from nI_m]
            refine e_puti d_X11_goesOn_208 f_X11_225 H_md188 (Nat.le_of_ble_eq_true rfl) ?_
            refine e_aloadn d_X11_goesOn_211 rfl ?_
            refine e_iloadn d_X11_goesOn_212 rfl ?_
            refine e_iconst (v := 0) d_X11_goesOn_213 (by decide) ?_
            refine e_callRVV d_X11_goesOn_214 l_X11_goesOn_247 H_md188.s rfl rfl (s_X11_emits2 (t := f) (MdP.mk H_md188.s htk188) (hN188.fr (S := [66]) ((Fr.refl _ _).up (by decide)) (by simp)) (by omega) rfl (fun z => by omega) (fun z => by omega)) rfl rfl (Nat.le_of_ble_eq_true rfl) (fun h_214 q_214 s_214 => ?_)
            obtain ⟨hP214, hN214, fr_214⟩ := q_214
            rw [show ([] : List Nat).length + nW r0 = nW r0 from Nat.zero_add _, show nO ((f, w) :: r0) = nO r0 from by simp only [nO]; rw [if_neg (by omega), Nat.zero_add]] at hP214
            obtain ⟨so214, to214, mfl214, mfa214, mdn214, mup214, mlo214, mgu214, mgl214, H_md214, htk214⟩ := id hP214
            refine e_aloadn d_X11_goesOn_217 rfl ?_
            refine e_callRVV d_X11_goesOn_218 l_X11_goesOn_284 H_md214 rfl rfl (s_X11_askIsOver hP214 (MGs_tl (hGs188.fr (((Fr.refl [66, 83, 84] _).up (by decide)).trans fr_214) (by simp))) hN214 hE (by have := nts_le r0; omega) (by omega)) rfl rfl (Nat.le_of_ble_eq_true rfl) (fun h_218 q_218 s_218 => ?_)
            obtain ⟨hP218, hGs218, hN218, fr_218⟩ := q_218
            refine e_gt d_X11_goesOn_221 ?_
            exact e_vret d_X11_goesOn_250 rfl (⟨rfl, fun z => absurd z hna, fun _ => ⟨_, hP218, hGs218, by rw [← List.append_assoc, ← cdA_app, ← cdA_app]; exact hN218⟩, ((((fr_188.mono (by decide)).up (by decide)).trans (fr_214.mono (by decide))).trans (fr_218.mono (by decide)))⟩)
          · refine e_aloadn d_X11_goesOn_49 rfl ?_
            refine e_aloadn d_X11_goesOn_50 rfl ?_
            refine e_get d_X11_goesOn_51 f_X11_212 H_md rfl ?_
            obtain ⟨ht1, ht2, ht3⟩ := tk_ar htk c10 (by first | exact Or.inl c19 | exact Or.inr (Or.inl c28) | exact Or.inr (Or.inr (Or.inl c37)) | exact Or.inr (Or.inr (Or.inr (by first | exact c46 | exact Decidable.of_not_not c46))))
            rw [ht3]
            refine e_callRVV d_X11_goesOn_54 l_X11_goesOn_278 H_md rfl rfl (s_X11_waitsFor (t := (tok tb L s).1) hP hGs hN (mr_vS hw ht1 ht2) (vSF hw) (by omega) (by omega) (by omega) (by omega) H_mtape hmt (tok_nx hsL (by omega)).2.2 hL) rfl rfl (Nat.le_of_ble_eq_true rfl) (fun h_54 q_54 s_54 => ?_)
            obtain ⟨hP54, hGs54, hN54, fr_54⟩ := q_54
            obtain ⟨so54, to54, mfl54, mfa54, mdn54, mup54, mlo54, mgu54, mgl54, H_md54, htk54⟩ := id hP54
            refine e_aloadn d_X11_goesOn_57 rfl ?_
            refine e_iconst (v := 1) d_X11_goesOn_58 (by decide) ?_
            refine e_puti d_X11_goesOn_59 f_X11_260 H_md54 (Nat.le_of_ble_eq_true rfl) ?_
            refine e_gt d_X11_goesOn_62 ?_
            exact e_vret d_X11_goesOn_250 rfl (⟨rfl, fun _ => MqR_ok (S := (1, (f, (tok tb L s).1 :: sdr (rkc (tok tb L s).1) w) :: r0, nd + 1, kd, cdA cd (nd + 1) (stk (rkc (tok tb L s).1) w), my, ne)) (by simp only [gOperator]; rw [if_pos ⟨ht1, ht2⟩]) (MCs_mk (by decide) ⟨_, _, _, _, _, _, _, _, _, H_md54.s, htk54⟩ (hGs54.fr ((Fr.refl [66] _).up (by decide)) (by simp)) (hN54.fr ((Fr.refl [66] _).up (by decide)) (by simp))), fun z => absurd ⟨ht1, ht2⟩ z, (fr_54.up (k := 66) (by decide)).mono (by decide)⟩)

theorem s_X11_goesOn_1 {h : AH} {tb : Nat → Nat} {L s nd r : Nat} {w : List Nat} {kd : Nat → Nat} {cd : Nat → List Nat} {my ne : Int32} {mt : Nat → Int32} (hP : MdP h tb L s 0 (-1) (nO [(1, w)]) [(1, w)].length (nW [(1, w)]) nd r 2 (nI (kd nd - 14))) (hGs : MGs h [(1, w)]) (hN : MN h nd true kd cd my ne r) (H_mtape : Hs h 69 (aB 300 mt)) (hmt : ∀ k, k < 300 → mt k = sbI (tb k) ∧ tb k < 256) (hsL : s ≤ L) (hL : L ≤ 300) (hw : vS w) (hk16 : 16 ≤ kd nd) (hgl : [(1, w)].length < 30) (hgw : nW [(1, w)] < 70) (hr3 : r ≤ 310) : Sp M_X11_goesOn (0, 0) h [.ref 66] (rV (fun h' => MqR h' tb L s (gOperator (tok tb L s).1 [(1, w)] (nd + 1) kd cd my ne) ∧ Fr [66, 76, 77, 78, 79, 80, 81, 82, 83, 84] h h')) := by
  refine ⟨Nat.le_of_ble_eq_true rfl, ?_⟩
  show E _ _ _ 0 h [some (.ref 66), none, none] []
  obtain ⟨so, to, mfl, mfa, mdn, mup, mlo, mgu, mgl, H_md, htk⟩ := id hP
  obtain ⟨fr, cm, wa, wf, H_mfr, H_mco, H_mwa, H_mwf, hG⟩ := id hGs
  have hvl := (vS_in hw).2
  have hgl9 : ([] : LV).length + 1 < 30 := hgl
  have hgw9 : w.length + nW [] < 70 := hgw
  refine e_aloadn d_X11_goesOn_0 rfl ?_
  refine e_callVI d_X11_goesOn_1 l_X11_goesOn_275 H_md rfl rfl (s_X11_top H_md H_mfr (by omega)) rfl rfl (Nat.le_of_ble_eq_true rfl) ?_
  rw [hG.1, show mfr 1 = 1 from rfl]
  refine e_istoren d_X11_goesOn_4 (by decide) rfl ?_
  refine e_aloadn d_X11_goesOn_5 rfl ?_
  refine e_get d_X11_goesOn_6 f_X11_200 H_md rfl ?_
  refine e_iconst (v := 3) d_X11_goesOn_9 (by decide) ?_
  refine e_icmp_ne d_X11_goesOn_10 (fun c10 => ?_) (fun c10 => ?_)
  · have hna : ¬ (27 ≤ (tok tb L s).1 ∧ (tok tb L s).1 ≤ 30) := fun z => c10 (tk_nar htk z).1
    refine e_iloadn d_X11_goesOn_65 rfl ?_
    refine e_bipush (v := 6) d_X11_goesOn_66 (by decide) ?_
    refine e_icmp_ne d_X11_goesOn_68 (fun _ => ?_) (fun z => by first | exact absurd (by decide) z | exact absurd z (by decide))
    refine e_iloadn d_X11_goesOn_116 rfl ?_
    refine e_iconst (v := 4) d_X11_goesOn_117 (by decide) ?_
    refine e_icmp_ne d_X11_goesOn_118 (fun _ => ?_) (fun z => by first | exact absurd (by decide) z | exact absurd z (by decide))
    refine e_iloadn d_X11_goesOn_181 rfl ?_
    refine e_iconst (v := 5) d_X11_goesOn_182 (by decide) ?_
    refine e_icmp_ne d_X11_goesOn_183 (fun _ => ?_) (fun z => by first | exact absurd (by decide) z | exact absurd z (by decide))
    refine e_iloadn d_X11_goesOn_224 rfl ?_
    refine e_iconst (v := 1) d_X11_goesOn_225 (by decide) ?_
    refine e_icmp_ne d_X11_goesOn_226 (fun z => by first | exact absurd (fun z => z rfl) z | exact absurd z (fun z => z rfl)) (fun _ => ?_)
    refine e_aloadn d_X11_goesOn_229 rfl ?_
    refine e_bipush (v := 59) d_X11_goesOn_230 (by decide) ?_
    refine e_callVI d_X11_goesOn_232 l_X11_goesOn_272 H_md rfl rfl (s_X11_isSign H_md) rfl rfl (Nat.le_of_ble_eq_true rfl) ?_
    refine e_if_eq d_X11_goesOn_235 (fun c235 => ?_) (fun c235 => ?_)
    · have c235 : ¬ (tok tb L s).1 = 34 := fun z => bI_0.mp c235 ((tk_sg htk (c := 34) (by decide) (by decide) (by decide)).mpr z)
      refine e_aloadn d_X11_goesOn_245 rfl ?_
      refine e_iconst (v := 1) d_X11_goesOn_246 (by decide) ?_
      have hg : (gOperator (tok tb L s).1 [(1, w)] (nd + 1) kd cd my ne).1 = 1 := by
        simp only [gOperator]
        rw [if_neg hna, if_neg (by omega), if_neg (by omega), if_pos trivial, if_neg (by omega)]
      refine e_callRVV d_X11_goesOn_247 l_X11_goesOn_231 H_md rfl rfl (s_X11_errs2 (q := 1) hP) rfl rfl (Nat.le_of_ble_eq_true rfl) (fun h_247 q_247 s_247 => ?_)
      exact e_vret d_X11_goesOn_250 rfl (⟨rfl, MqR_bad hg (by decide) q_247.1, q_247.2.mono (by decide)⟩)
    · have c235 : (tok tb L s).1 = 34 := (tk_sg htk (c := 34) (by decide) (by decide) (by decide)).mp (bI_1.mp (bI_z.resolve_left c235))
      refine e_aloadn d_X11_goesOn_238 rfl ?_
      refine e_callRVV d_X11_goesOn_239 l_X11_goesOn_287 H_md rfl rfl (s_X11_clauseIsOver hP hGs hN (vSF hw) hk16 (by have := (vS_in hw).2; omega) (by have := (vS_in hw).2; omega) (vS_in hw).2 H_mtape hmt (tok_nx hsL (by omega)).2.2 hL) rfl rfl (Nat.le_of_ble_eq_true rfl) (fun h_239 q_239 s_239 => ?_)
      refine e_gt d_X11_goesOn_242 ?_
      exact e_vret d_X11_goesOn_250 rfl (⟨rfl, by rw [c235]; exact MqR_ok (S := (4, [], nd + 1, kd, cdA cd (nd + 1) w, my, ne)) (by simp only [gOperator]; rw [if_neg (by decide), if_neg (by decide), if_neg (by decide), if_pos trivial, if_pos trivial]) (MCs_mk4 q_239.1 q_239.2.1 q_239.2.2.1), q_239.2.2.2.mono (by decide)⟩)
  · have c10 : so = 3 := by first | exact c10 | exact Decidable.of_not_not c10
    refine e_aloadn d_X11_goesOn_13 rfl ?_
    refine e_get d_X11_goesOn_14 f_X11_212 H_md rfl ?_
    refine e_bipush (v := 43) d_X11_goesOn_17 (by decide) ?_
    refine e_icmp_eq d_X11_goesOn_19 (fun c19 => ?_) (fun c19 => ?_)
    · refine e_aloadn d_X11_goesOn_49 rfl ?_
      refine e_aloadn d_X11_goesOn_50 rfl ?_
      refine e_get d_X11_goesOn_51 f_X11_212 H_md rfl ?_
      obtain ⟨ht1, ht2, ht3⟩ := tk_ar htk c10 (by first | exact Or.inl c19 | exact Or.inr (Or.inl c28) | exact Or.inr (Or.inr (Or.inl c37)) | exact Or.inr (Or.inr (Or.inr (by first | exact c46 | exact Decidable.of_not_not c46))))
      rw [ht3]
      refine e_callRVV d_X11_goesOn_54 l_X11_goesOn_278 H_md rfl rfl (s_X11_waitsFor (t := (tok tb L s).1) hP hGs hN (mr_vS hw ht1 ht2) (vSF hw) (by omega) (by omega) (by omega) (by omega) H_mtape hmt (tok_nx hsL (by omega)).2.2 hL) rfl rfl (Nat.le_of_ble_eq_true rfl) (fun h_54 q_54 s_54 => ?_)
      obtain ⟨hP54, hGs54, hN54, fr_54⟩ := q_54
      obtain ⟨so54, to54, mfl54, mfa54, mdn54, mup54, mlo54, mgu54, mgl54, H_md54, htk54⟩ := id hP54
      refine e_aloadn d_X11_goesOn_57 rfl ?_
      refine e_iconst (v := 1) d_X11_goesOn_58 (by decide) ?_
      refine e_puti d_X11_goesOn_59 f_X11_260 H_md54 (Nat.le_of_ble_eq_true rfl) ?_
      refine e_gt d_X11_goesOn_62 ?_
      exact e_vret d_X11_goesOn_250 rfl (⟨rfl, MqR_ok (S := (1, (1, (tok tb L s).1 :: sdr (rkc (tok tb L s).1) w) :: [], nd + 1, kd, cdA cd (nd + 1) (stk (rkc (tok tb L s).1) w), my, ne)) (by simp only [gOperator]; rw [if_pos ⟨ht1, ht2⟩]) (MCs_mk (by decide) ⟨_, _, _, _, _, _, _, _, _, H_md54.s, htk54⟩ (hGs54.fr ((Fr.refl [66] _).up (by decide)) (by simp)) (hN54.fr ((Fr.refl [66] _).up (by decide)) (by simp))), (fr_54.up (k := 66) (by decide)).mono (by decide)⟩)
    · refine e_aloadn d_X11_goesOn_22 rfl ?_
      refine e_get d_X11_goesOn_23 f_X11_212 H_md rfl ?_
      refine e_bipush (v := 45) d_X11_goesOn_26 (by decide) ?_
      refine e_icmp_eq d_X11_goesOn_28 (fun c28 => ?_) (fun c28 => ?_)
      · refine e_aloadn d_X11_goesOn_49 rfl ?_
        refine e_aloadn d_X11_goesOn_50 rfl ?_
        refine e_get d_X11_goesOn_51 f_X11_212 H_md rfl ?_
        obtain ⟨ht1, ht2, ht3⟩ := tk_ar htk c10 (by first | exact Or.inl c19 | exact Or.inr (Or.inl c28) | exact Or.inr (Or.inr (Or.inl c37)) | exact Or.inr (Or.inr (Or.inr (by first | exact c46 | exact Decidable.of_not_not c46))))
        rw [ht3]
        refine e_callRVV d_X11_goesOn_54 l_X11_goesOn_278 H_md rfl rfl (s_X11_waitsFor (t := (tok tb L s).1) hP hGs hN (mr_vS hw ht1 ht2) (vSF hw) (by omega) (by omega) (by omega) (by omega) H_mtape hmt (tok_nx hsL (by omega)).2.2 hL) rfl rfl (Nat.le_of_ble_eq_true rfl) (fun h_54 q_54 s_54 => ?_)
        obtain ⟨hP54, hGs54, hN54, fr_54⟩ := q_54
        obtain ⟨so54, to54, mfl54, mfa54, mdn54, mup54, mlo54, mgu54, mgl54, H_md54, htk54⟩ := id hP54
        refine e_aloadn d_X11_goesOn_57 rfl ?_
        refine e_iconst (v := 1) d_X11_goesOn_58 (by decide) ?_
        refine e_puti d_X11_goesOn_59 f_X11_260 H_md54 (Nat.le_of_ble_eq_true rfl) ?_
        refine e_gt d_X11_goesOn_62 ?_
        exact e_vret d_X11_goesOn_250 rfl (⟨rfl, MqR_ok (S := (1, (1, (tok tb L s).1 :: sdr (rkc (tok tb L s).1) w) :: [], nd + 1, kd, cdA cd (nd + 1) (stk (rkc (tok tb L s).1) w), my, ne)) (by simp only [gOperator]; rw [if_pos ⟨ht1, ht2⟩]) (MCs_mk (by decide) ⟨_, _, _, _, _, _, _, _, _, H_md54.s, htk54⟩ (hGs54.fr ((Fr.refl [66] _).up (by decide)) (by simp)) (hN54.fr ((Fr.refl [66] _).up (by decide)) (by simp))), (fr_54.up (k := 66) (by decide)).mono (by decide)⟩)
      · refine e_aloadn d_X11_goesOn_31 rfl ?_
        refine e_get d_X11_goesOn_32 f_X11_212 H_md rfl ?_
        refine e_bipush (v := 42) d_X11_goesOn_35 (by decide) ?_
        refine e_icmp_eq d_X11_goesOn_37 (fun c37 => ?_) (fun c37 => ?_)
        · refine e_aloadn d_X11_goesOn_49 rfl ?_
          refine e_aloadn d_X11_goesOn_50 rfl ?_
          refine e_get d_X11_goesOn_51 f_X11_212 H_md rfl ?_
          obtain ⟨ht1, ht2, ht3⟩ := tk_ar htk c10 (by first | exact Or.inl c19 | exact Or.inr (Or.inl c28) | exact Or.inr (Or.inr (Or.inl c37)) | exact Or.inr (Or.inr (Or.inr (by first | exact c46 | exact Decidable.of_not_not c46))))
          rw [ht3]
          refine e_callRVV d_X11_goesOn_54 l_X11_goesOn_278 H_md rfl rfl (s_X11_waitsFor (t := (tok tb L s).1) hP hGs hN (mr_vS hw ht1 ht2) (vSF hw) (by omega) (by omega) (by omega) (by omega) H_mtape hmt (tok_nx hsL (by omega)).2.2 hL) rfl rfl (Nat.le_of_ble_eq_true rfl) (fun h_54 q_54 s_54 => ?_)
          obtain ⟨hP54, hGs54, hN54, fr_54⟩ := q_54
          obtain ⟨so54, to54, mfl54, mfa54, mdn54, mup54, mlo54, mgu54, mgl54, H_md54, htk54⟩ := id hP54
          refine e_aloadn d_X11_goesOn_57 rfl ?_
          refine e_iconst (v := 1) d_X11_goesOn_58 (by decide) ?_
          refine e_puti d_X11_goesOn_59 f_X11_260 H_md54 (Nat.le_of_ble_eq_true rfl) ?_
          refine e_gt d_X11_goesOn_62 ?_
          exact e_vret d_X11_goesOn_250 rfl (⟨rfl, MqR_ok (S := (1, (1, (tok tb L s).1 :: sdr (rkc (tok tb L s).1) w) :: [], nd + 1, kd, cdA cd (nd + 1) (stk (rkc (tok tb L s).1) w), my, ne)) (by simp only [gOperator]; rw [if_pos ⟨ht1, ht2⟩]) (MCs_mk (by decide) ⟨_, _, _, _, _, _, _, _, _, H_md54.s, htk54⟩ (hGs54.fr ((Fr.refl [66] _).up (by decide)) (by simp)) (hN54.fr ((Fr.refl [66] _).up (by decide)) (by simp))), (fr_54.up (k := 66) (by decide)).mono (by decide)⟩)
        · refine e_aloadn d_X11_goesOn_40 rfl ?_
          refine e_get d_X11_goesOn_41 f_X11_212 H_md rfl ?_
          refine e_bipush (v := 47) d_X11_goesOn_44 (by decide) ?_
          refine e_icmp_ne d_X11_goesOn_46 (fun c46 => ?_) (fun c46 => ?_)
          · have hna : ¬ (27 ≤ (tok tb L s).1 ∧ (tok tb L s).1 ≤ 30) := fun z => by
              rcases (tk_nar htk z).2 with q | q | q | q
              · exact c19 q
              · exact c28 q
              · exact c37 q
              · exact c46 q
            refine e_iloadn d_X11_goesOn_65 rfl ?_
            refine e_bipush (v := 6) d_X11_goesOn_66 (by decide) ?_
            refine e_icmp_ne d_X11_goesOn_68 (fun _ => ?_) (fun z => by first | exact absurd (by decide) z | exact absurd z (by decide))
            refine e_iloadn d_X11_goesOn_116 rfl ?_
            refine e_iconst (v := 4) d_X11_goesOn_117 (by decide) ?_
            refine e_icmp_ne d_X11_goesOn_118 (fun _ => ?_) (fun z => by first | exact absurd (by decide) z | exact absurd z (by decide))
            refine e_iloadn d_X11_goesOn_181 rfl ?_
            refine e_iconst (v := 5) d_X11_goesOn_182 (by decide) ?_
            refine e_icmp_ne d_X11_goesOn_183 (fun _ => ?_) (fun z => by first | exact absurd (by decide) z | exact absurd z (by decide))
            refine e_iloadn d_X11_goesOn_224 rfl ?_
            refine e_iconst (v := 1) d_X11_goesOn_225 (by decide) ?_
            refine e_icmp_ne d_X11_goesOn_226 (fun z => by first | exact absurd (fun z => z rfl) z | exact absurd z (fun z => z rfl)) (fun _ => ?_)
            refine e_aloadn d_X11_goesOn_229 rfl ?_
            refine e_bipush (v := 59) d_X11_goesOn_230 (by decide) ?_
            refine e_callVI d_X11_goesOn_232 l_X11_goesOn_272 H_md rfl rfl (s_X11_isSign H_md) rfl rfl (Nat.le_of_ble_eq_true rfl) ?_
            refine e_if_eq d_X11_goesOn_235 (fun c235 => ?_) (fun c235 => ?_)
            · have c235 : ¬ (tok tb L s).1 = 34 := fun z => bI_0.mp c235 ((tk_sg htk (c := 34) (by decide) (by decide) (by decide)).mpr z)
              refine e_aloadn d_X11_goesOn_245 rfl ?_
              refine e_iconst (v := 1) d_X11_goesOn_246 (by decide) ?_
              have hg : (gOperator (tok tb L s).1 [(1, w)] (nd + 1) kd cd my ne).1 = 1 := by
                simp only [gOperator]
                rw [if_neg hna, if_neg (by omega), if_neg (by omega), if_pos trivial, if_neg (by omega)]
              refine e_callRVV d_X11_goesOn_247 l_X11_goesOn_231 H_md rfl rfl (s_X11_errs2 (q := 1) hP) rfl rfl (Nat.le_of_ble_eq_true rfl) (fun h_247 q_247 s_247 => ?_)
              exact e_vret d_X11_goesOn_250 rfl (⟨rfl, MqR_bad hg (by decide) q_247.1, q_247.2.mono (by decide)⟩)
            · have c235 : (tok tb L s).1 = 34 := (tk_sg htk (c := 34) (by decide) (by decide) (by decide)).mp (bI_1.mp (bI_z.resolve_left c235))
              refine e_aloadn d_X11_goesOn_238 rfl ?_
              refine e_callRVV d_X11_goesOn_239 l_X11_goesOn_287 H_md rfl rfl (s_X11_clauseIsOver hP hGs hN (vSF hw) hk16 (by have := (vS_in hw).2; omega) (by have := (vS_in hw).2; omega) (vS_in hw).2 H_mtape hmt (tok_nx hsL (by omega)).2.2 hL) rfl rfl (Nat.le_of_ble_eq_true rfl) (fun h_239 q_239 s_239 => ?_)
              refine e_gt d_X11_goesOn_242 ?_
              exact e_vret d_X11_goesOn_250 rfl (⟨rfl, by rw [c235]; exact MqR_ok (S := (4, [], nd + 1, kd, cdA cd (nd + 1) w, my, ne)) (by simp only [gOperator]; rw [if_neg (by decide), if_neg (by decide), if_neg (by decide), if_pos trivial, if_pos trivial]) (MCs_mk4 q_239.1 q_239.2.1 q_239.2.2.1), q_239.2.2.2.mono (by decide)⟩)
          · refine e_aloadn d_X11_goesOn_49 rfl ?_
            refine e_aloadn d_X11_goesOn_50 rfl ?_
            refine e_get d_X11_goesOn_51 f_X11_212 H_md rfl ?_
            obtain ⟨ht1, ht2, ht3⟩ := tk_ar htk c10 (by first | exact Or.inl c19 | exact Or.inr (Or.inl c28) | exact Or.inr (Or.inr (Or.inl c37)) | exact Or.inr (Or.inr (Or.inr (by first | exact c46 | exact Decidable.of_not_not c46))))
            rw [ht3]
            refine e_callRVV d_X11_goesOn_54 l_X11_goesOn_278 H_md rfl rfl (s_X11_waitsFor (t := (tok tb L s).1) hP hGs hN (mr_vS hw ht1 ht2) (vSF hw) (by omega) (by omega) (by omega) (by omega) H_mtape hmt (tok_nx hsL (by omega)).2.2 hL) rfl rfl (Nat.le_of_ble_eq_true rfl) (fun h_54 q_54 s_54 => ?_)
            obtain ⟨hP54, hGs54, hN54, fr_54⟩ := q_54
            obtain ⟨so54, to54, mfl54, mfa54, mdn54, mup54, mlo54, mgu54, mgl54, H_md54, htk54⟩ := id hP54
            refine e_aloadn d_X11_goesOn_57 rfl ?_
            refine e_iconst (v := 1) d_X11_goesOn_58 (by decide) ?_
            refine e_puti d_X11_goesOn_59 f_X11_260 H_md54 (Nat.le_of_ble_eq_true rfl) ?_
            refine e_gt d_X11_goesOn_62 ?_
            exact e_vret d_X11_goesOn_250 rfl (⟨rfl, MqR_ok (S := (1, (1, (tok tb L s).1 :: sdr (rkc (tok tb L s).1) w) :: [], nd + 1, kd, cdA cd (nd + 1) (stk (rkc (tok tb L s).1) w), my, ne)) (by simp only [gOperator]; rw [if_pos ⟨ht1, ht2⟩]) (MCs_mk (by decide) ⟨_, _, _, _, _, _, _, _, _, H_md54.s, htk54⟩ (hGs54.fr ((Fr.refl [66] _).up (by decide)) (by simp)) (hN54.fr ((Fr.refl [66] _).up (by decide)) (by simp))), (fr_54.up (k := 66) (by decide)).mono (by decide)⟩)
