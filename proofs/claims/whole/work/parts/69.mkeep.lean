/-! THE MODEL KEEPS A TEXT -/
/-- a TEXT as the model keeps it, in its own stretch -/
def TxK (h : AH) (tp nc : Nat) (kd : Nat → Nat) (cd : Nat → List Nat) (many near : Int32) : Prop := tp < 6 ∧ nc ≤ 10 ∧ ∃ cl cw cn ca ord val : Nat → Int32, Hs h 70 (aI 6 cl) ∧ Hs h 71 (aI 60 cw) ∧ Hs h 72 (aI 60 cn) ∧ Hs h 73 (aI 60 ca) ∧ Hs h 74 (aI 2400 ord) ∧ Hs h 75 (aI 2400 val) ∧ cl tp = nI nc ∧
  (∀ i, i < nc → 14 ≤ kd i ∧ kd i ≤ 20 ∧ cw (10 * tp + i) = nI (kd i - 14) ∧ (kd i = 14 → cn (10 * tp + i) = many) ∧ (kd i = 15 → cn (10 * tp + i) = near) ∧ (16 ≤ kd i → ∃ s, s + (cd i).length < 400 ∧ ca (10 * tp + i) = nI (400 * tp + s) ∧ ord (400 * tp + s + (cd i).length) = 408 ∧ CLp ord val (400 * tp + s) (cd i))) ∧ (hasK nc kd 14 = false → many = -1) ∧ (hasK nc kd 15 = false → near = -1)
theorem TxK.m {h : AH} {tp nc : Nat} {kd : Nat → Nat} {cd : Nat → List Nat} {many near : Int32} (T : TxK h tp nc kd cd many near) : TxM h tp nc kd cd many near := by
  obtain ⟨h0, h9, cl, cw, cn, ca, ord, val, h1, h2, h3, h4, h5, h6, h7, h8, h10⟩ := T
  refine ⟨h0, h9, cl, cw, cn, ca, ord, val, h1, h2, h3, h4, h5, h6, h7, fun i hi => ?_, h10⟩
  obtain ⟨q1, q2, q3, q4, q5, q6⟩ := h8 i hi
  refine ⟨q1, q2, q3, q4, q5, fun hk => ?_⟩
  obtain ⟨s, g1, g2, g3, g4⟩ := q6 hk
  exact ⟨400 * tp + s, g2, by omega, g3, g4⟩
theorem TxK.fr {S : List Nat} {h h' : AH} {tp nc : Nat} {kd : Nat → Nat} {cd : Nat → List Nat} {many near : Int32} (T : TxK h tp nc kd cd many near) (F : Fr S h h') (hS : 70 ∉ S ∧ 71 ∉ S ∧ 72 ∉ S ∧ 73 ∉ S ∧ 74 ∉ S ∧ 75 ∉ S) : TxK h' tp nc kd cd many near := by
  obtain ⟨h0, h9, a, b, c, d, e, f, h1, h2, h3, h4, h5, h6, h7⟩ := T
  exact ⟨h0, h9, a, b, c, d, e, f, F.hs h1 hS.1, F.hs h2 hS.2.1, F.hs h3 hS.2.2.1, F.hs h4 hS.2.2.2.1, F.hs h5 hS.2.2.2.2.1, F.hs h6 hS.2.2.2.2.2, h7⟩
theorem Hs.fI {h : AH} {a n : Nat} {f g : Nat → Int32} (H : Hs h a (aI n f)) (H' : Hs h a (aI n g)) : f = g := by
  have := H.2.symm.trans H'.2
  simp only [Sum.inl.injEq, Prod.mk.injEq, true_and] at this
  exact this
/-- the other TEXTS stay -/
theorem TxK.oth {h h' : AH} {t tp nc : Nat} {kd : Nat → Nat} {cd : Nat → List Nat} {many near : Int32} {cl cw cn ca ord val cl' cw' cn' ca' ord' val' : Nat → Int32} (T : TxK h tp nc kd cd many near) (hne : tp ≠ t) (H1 : Hs h 70 (aI 6 cl)) (H2 : Hs h 71 (aI 60 cw)) (H3 : Hs h 72 (aI 60 cn)) (H4 : Hs h 73 (aI 60 ca)) (H5 : Hs h 74 (aI 2400 ord)) (H6 : Hs h 75 (aI 2400 val))
    (G1 : Hs h' 70 (aI 6 cl')) (G2 : Hs h' 71 (aI 60 cw')) (G3 : Hs h' 72 (aI 60 cn')) (G4 : Hs h' 73 (aI 60 ca')) (G5 : Hs h' 74 (aI 2400 ord')) (G6 : Hs h' 75 (aI 2400 val'))
    (e1 : ∀ i, i ≠ t → cl' i = cl i) (e2 : ∀ i, (i < 10 * t ∨ 10 * t + 10 ≤ i) → cw' i = cw i ∧ cn' i = cn i ∧ ca' i = ca i) (e3 : ∀ i, (i < 400 * t ∨ 400 * t + 400 ≤ i) → ord' i = ord i ∧ val' i = val i) : TxK h' tp nc kd cd many near := by
  obtain ⟨h0, h9, a, b, c, d, e, f, h1, h2, h3, h4, h5, h6, h7, h8, h10⟩ := T
  obtain rfl := Hs.fI H1 h1
  obtain rfl := Hs.fI H2 h2
  obtain rfl := Hs.fI H3 h3
  obtain rfl := Hs.fI H4 h4
  obtain rfl := Hs.fI H5 h5
  obtain rfl := Hs.fI H6 h6
  refine ⟨h0, h9, _, _, _, _, _, _, G1, G2, G3, G4, G5, G6, by rw [e1 tp hne]; exact h7, fun i hi => ?_, h10⟩
  obtain ⟨q1, q2, q3, q4, q5, q6⟩ := h8 i hi
  obtain ⟨f1, f2, f3⟩ := e2 (10 * tp + i) (by omega)
  refine ⟨q1, q2, by rw [f1]; exact q3, fun z => by rw [f2]; exact q4 z, fun z => by rw [f2]; exact q5 z, fun hk => ?_⟩
  obtain ⟨s, g1, g2, g3, g4⟩ := q6 hk
  refine ⟨s, g1, by rw [f3]; exact g2, by rw [(e3 _ (by omega)).1]; exact g3, fun j v hj => ?_⟩
  have hjl := (List.getElem?_eq_some_iff.mp hj).1
  obtain ⟨w1, w2⟩ := e3 (400 * tp + s + j) (by omega)
  rw [w1, w2]
  exact g4 j v hj

theorem KT_new {h : AH} {t nd r : Nat} {kd : Nat → Nat} {cd : Nat → List Nat} {my ne : Int32} {cl cw cn ca ord val nw nn na no nv : Nat → Int32} (ht : t < 6) (hnd : nd ≤ 10) (hr : r ≤ 400) (H1 : Hs h 70 (aI 6 (va_up cl t (nI nd)))) (H2 : Hs h 71 (aI 60 cw)) (H3 : Hs h 72 (aI 60 cn)) (H4 : Hs h 73 (aI 60 ca)) (H5 : Hs h 74 (aI 2400 ord)) (H6 : Hs h 75 (aI 2400 val)) (w1 : ∀ j, j < nd → cw (10 * t + j) = nw j) (n1 : ∀ j, j < nd → cn (10 * t + j) = nn j) (a1 : ∀ j, j < nd → ca (10 * t + j) = 400 * nI t + na j) (o1 : ∀ j, j < r → ord (400 * t + j) = no j) (v1 : ∀ j, j < r → val (400 * t + j) = nv j)
    (hd : ∀ i, i < nd → 14 ≤ kd i ∧ kd i ≤ 20 ∧ nw i = nI (kd i - 14) ∧ (kd i = 14 → nn i = my) ∧ (kd i = 15 → nn i = ne) ∧ (16 ≤ kd i → ∃ s, s + (cd i).length < r ∧ na i = nI s ∧ no (s + (cd i).length) = 408 ∧ CLp no nv s (cd i))) (h14 : hasK nd kd 14 = false → my = -1) (h15 : hasK nd kd 15 = false → ne = -1) : TxK h t nd kd cd my ne := by
  refine ⟨ht, hnd, _, _, _, _, _, _, H1, H2, H3, H4, H5, H6, va_up_self _ _ _, fun i hi => ?_, h14, h15⟩
  obtain ⟨q1, q2, q3, q4, q5, q6⟩ := hd i hi
  refine ⟨q1, q2, by rw [w1 i hi]; exact q3, fun z => by rw [n1 i hi]; exact q4 z, fun z => by rw [n1 i hi]; exact q5 z, fun hk => ?_⟩
  obtain ⟨s, g1, g2, g3, g4⟩ := q6 hk
  refine ⟨s, by omega, by rw [a1 i hi, g2, show (400 : Int32) = nI 400 from rfl, pk_mul, nI_add], by rw [Nat.add_assoc, o1 _ g1]; exact g3, fun j v hj => ?_⟩
  have hjl := (List.getElem?_eq_some_iff.mp hj).1
  rw [Nat.add_assoc, o1 _ (by omega), v1 _ (by omega)]
  exact g4 j v hj
theorem s_X11_keepsText {h : AH} {t nd r : Nat} {kd : Nat → Nat} {cd : Nat → List Nat} {mcl mcw mcn mca mor mva nw nn na no nv : Nat → Int32} {mtp mfl mfa mln mat mtk mso mto mwr mwp mop mfs mws mst mnk mdn : Int32} {mup mlo mgu mgl : Int64} (H_md : Hs h 66 (oMd mtp mfl mfa mup mlo mln mat mtk mso mto mwr mwp mop mfs mws mst (nI nd) mnk (nI r) mdn mgu mgl)) (H_mcl : Hs h 70 (aI 6 mcl)) (H_mcw : Hs h 71 (aI 60 mcw)) (H_mcn : Hs h 72 (aI 60 mcn)) (H_mca : Hs h 73 (aI 60 mca)) (H_mor : Hs h 74 (aI 2400 mor)) (H_mva : Hs h 75 (aI 2400 mva)) (H_mnw : Hs h 80 (aI 10 nw)) (H_mnn : Hs h 81 (aI 10 nn)) (H_mna : Hs h 82 (aI 10 na)) (H_mno : Hs h 83 (aI 400 no)) (H_mnv : Hs h 84 (aI 400 nv)) (ht : t < 6) (hnd : nd ≤ 10) (hr : r ≤ 400) : Sp M_X11_keepsText (0, 0) h [.ref 66, .int (nI t)] (rV (fun h' => (∀ my ne, (∀ i, i < nd → 14 ≤ kd i ∧ kd i ≤ 20 ∧ nw i = nI (kd i - 14) ∧ (kd i = 14 → nn i = my) ∧ (kd i = 15 → nn i = ne) ∧ (16 ≤ kd i → ∃ s, s + (cd i).length < r ∧ na i = nI s ∧ no (s + (cd i).length) = 408 ∧ CLp no nv s (cd i))) → (hasK nd kd 14 = false → my = -1) → (hasK nd kd 15 = false → ne = -1) → TxK h' t nd kd cd my ne) ∧ (∀ tp nc kd cd many near, tp ≠ t → TxK h tp nc kd cd many near → TxK h' tp nc kd cd many near) ∧ Fr [70, 71, 72, 73, 74, 75] h h')) := by
  refine ⟨Nat.le_of_ble_eq_true rfl, ?_⟩
  show E _ _ _ 0 h [some (.ref 66), some (.int (nI t)), none] []
  have G_md := H_md
  have G_mcl := H_mcl
  have G_mcw := H_mcw
  have G_mcn := H_mcn
  have G_mca := H_mca
  have G_mor := H_mor
  have G_mva := H_mva
  have G_mnw := H_mnw
  have G_mnn := H_mnn
  have G_mna := H_mna
  have G_mno := H_mno
  have G_mnv := H_mnv
  refine e_aloadn d_X11_keepsText_0 rfl ?_
  refine e_get d_X11_keepsText_1 f_X11_27 H_md rfl ?_
  refine e_iloadn d_X11_keepsText_4 rfl ?_
  refine e_aloadn d_X11_keepsText_5 rfl ?_
  refine e_get d_X11_keepsText_6 f_X11_290 H_md rfl ?_
  refine e_iastN (k := t) d_X11_keepsText_9 H_mcl rfl (by omega) (by omega) ?_
  refine e_iconst (v := 0) d_X11_keepsText_10 (by decide) ?_
  refine e_istoren d_X11_keepsText_11 (by decide) rfl ?_
  have hA_12 : ∀ i, i ≤ nd → ∀ (k : AH) (F : Unit) (cl9 : Unit) (w : Unit) (n9 : Unit) (a9 : Unit) (o9 : Unit) (v9 : Unit) (y : Int32), (Fr [70, 71, 72, 73, 74, 75] h k) → (Hs k 70 (aI 6 (va_up mcl t (nI nd)))) → (∃ g : Nat → Int32, Hs k 71 (aI 60 g) ∧ (∀ j, j < i → g (10 * t + j) = nw j) ∧ ∀ j, (j < 10 * t ∨ 10 * t + 10 ≤ j) → g j = mcw j) → (∃ g : Nat → Int32, Hs k 72 (aI 60 g) ∧ (∀ j, j < i → g (10 * t + j) = nn j) ∧ ∀ j, (j < 10 * t ∨ 10 * t + 10 ≤ j) → g j = mcn j) → (∃ g : Nat → Int32, Hs k 73 (aI 60 g) ∧ (∀ j, j < i → g (10 * t + j) = 400 * nI t + na j) ∧ ∀ j, (j < 10 * t ∨ 10 * t + 10 ≤ j) → g j = mca j) → (Hs k 74 (aI 2400 mor)) → (Hs k 75 (aI 2400 mva)) → (y = nI i) → E M_X11_keepsText (0, 0) (rV (fun h' => (∀ my ne, (∀ i, i < nd → 14 ≤ kd i ∧ kd i ≤ 20 ∧ nw i = nI (kd i - 14) ∧ (kd i = 14 → nn i = my) ∧ (kd i = 15 → nn i = ne) ∧ (16 ≤ kd i → ∃ s, s + (cd i).length < r ∧ na i = nI s ∧ no (s + (cd i).length) = 408 ∧ CLp no nv s (cd i))) → (hasK nd kd 14 = false → my = -1) → (hasK nd kd 15 = false → ne = -1) → TxK h' t nd kd cd my ne) ∧ (∀ tp nc kd cd many near, tp ≠ t → TxK h tp nc kd cd many near → TxK h' tp nc kd cd many near) ∧ Fr [70, 71, 72, 73, 74, 75] h h')) 12 (k) [some (.ref 66), some (.int (nI t)), some (.int y)] [] := by
    refine loop_ind (n := nd) ?_
    intro i hi_i ih_12 k F cl9 w n9 a9 o9 v9 y h_F h_cl9 h_w h_n9 h_a9 h_o9 h_v9 h_y
    subst h_y
    have H_md := h_F.hs G_md (by decide)
    have H_mnw := h_F.hs G_mnw (by decide)
    have H_mnn := h_F.hs G_mnn (by decide)
    have H_mna := h_F.hs G_mna (by decide)
    have H_mno := h_F.hs G_mno (by decide)
    have H_mnv := h_F.hs G_mnv (by decide)
    obtain ⟨cw2, H_mcw, w1, w2⟩ := id h_w
    obtain ⟨cn2, H_mcn, n1, n2⟩ := id h_n9
    obtain ⟨ca2, H_mca, a1, a2⟩ := id h_a9
    have H_mcl := h_cl9
    have H_mor := h_o9
    have H_mva := h_v9
    refine e_iloadn d_X11_keepsText_12 rfl ?_
    refine e_aloadn d_X11_keepsText_13 rfl ?_
    refine e_get d_X11_keepsText_14 f_X11_290 H_md rfl ?_
    refine e_icmp_ge d_X11_keepsText_17 (fun c => ?_) (fun c => ?_)
    · have c := i_le (by omega) (by omega) c
      obtain rfl : nd = i := by omega
      refine e_iconst (v := 0) d_X11_keepsText_83 (by decide) ?_
      refine e_istoren d_X11_keepsText_84 (by decide) rfl ?_
      have hA_85 : ∀ q, q ≤ r → ∀ (k2 : AH) (F2 : Unit) (cl2 : Unit) (xw2 : Unit) (xn2 : Unit) (xa2 : Unit) (xo2 : Unit) (xv2 : Unit) (y2 : Int32), (Fr [70, 71, 72, 73, 74, 75] h k2) → (Hs k2 70 (aI 6 (va_up mcl t (nI nd)))) → (Hs k2 71 (aI 60 cw2)) → (Hs k2 72 (aI 60 cn2)) → (Hs k2 73 (aI 60 ca2)) → (∃ g : Nat → Int32, Hs k2 74 (aI 2400 g) ∧ (∀ j, j < q → g (400 * t + j) = no j) ∧ ∀ j, (j < 400 * t ∨ 400 * t + 400 ≤ j) → g j = mor j) → (∃ g : Nat → Int32, Hs k2 75 (aI 2400 g) ∧ (∀ j, j < q → g (400 * t + j) = nv j) ∧ ∀ j, (j < 400 * t ∨ 400 * t + 400 ≤ j) → g j = mva j) → (y2 = nI q) → E M_X11_keepsText (0, 0) (rV (fun h' => (∀ my ne, (∀ i, i < nd → 14 ≤ kd i ∧ kd i ≤ 20 ∧ nw i = nI (kd i - 14) ∧ (kd i = 14 → nn i = my) ∧ (kd i = 15 → nn i = ne) ∧ (16 ≤ kd i → ∃ s, s + (cd i).length < r ∧ na i = nI s ∧ no (s + (cd i).length) = 408 ∧ CLp no nv s (cd i))) → (hasK nd kd 14 = false → my = -1) → (hasK nd kd 15 = false → ne = -1) → TxK h' t nd kd cd my ne) ∧ (∀ tp nc kd cd many near, tp ≠ t → TxK h tp nc kd cd many near → TxK h' tp nc kd cd many near) ∧ Fr [70, 71, 72, 73, 74, 75] h h')) 85 (k2) [some (.ref 66), some (.int (nI t)), some (.int y2)] [] := by
        refine loop_ind (n := r) ?_
        intro q hi_q ih_85 k2 F2 cl2 xw2 xn2 xa2 xo2 xv2 y2 h_F2 h_cl2 h_xw2 h_xn2 h_xa2 h_xo2 h_xv2 h_y2
        subst h_y2
        have H_md := h_F2.hs G_md (by decide)
        have H_mnw := h_F2.hs G_mnw (by decide)
        have H_mnn := h_F2.hs G_mnn (by decide)
        have H_mna := h_F2.hs G_mna (by decide)
        have H_mno := h_F2.hs G_mno (by decide)
        have H_mnv := h_F2.hs G_mnv (by decide)
        obtain ⟨or2, H_mor, o1, o2⟩ := id h_xo2
        obtain ⟨va2, H_mva, v1, v2⟩ := id h_xv2
        have H_mcl := h_cl2
        have H_mcw := h_xw2
        have H_mcn := h_xn2
        have H_mca := h_xa2
        refine e_iloadn d_X11_keepsText_85 rfl ?_
        refine e_aloadn d_X11_keepsText_86 rfl ?_
        refine e_get d_X11_keepsText_87 f_X11_222 H_md rfl ?_
        refine e_icmp_ge d_X11_keepsText_90 (fun cq => ?_) (fun cq => ?_)
        · have cq := i_le (by omega) (by omega) cq
          obtain rfl : r = q := by omega
          exact e_vret d_X11_keepsText_135 rfl (⟨rfl, fun my ne hd h14 h15 => KT_new ht hnd hr H_mcl H_mcw H_mcn H_mca H_mor H_mva w1 n1 a1 o1 v1 hd h14 h15, fun tp nc kd cd many near hne T => T.oth hne G_mcl G_mcw G_mcn G_mca G_mor G_mva H_mcl H_mcw H_mcn H_mca H_mor H_mva (fun i hi => va_up_ne _ _ hi) (fun i hi => ⟨w2 i hi, n2 i hi, a2 i hi⟩) (fun i hi => ⟨o2 i hi, v2 i hi⟩), h_F2⟩)
        · have cq := i_nle (by omega) (by omega) cq
          refine e_aloadn d_X11_keepsText_93 rfl ?_
          refine e_get d_X11_keepsText_94 f_X11_39 H_md rfl ?_
          refine e_sipush (v := 400) d_X11_keepsText_97 (by decide) ?_
          refine e_iloadn d_X11_keepsText_100 rfl ?_
          refine e_imul d_X11_keepsText_101 ?_
          refine e_iloadn d_X11_keepsText_102 rfl ?_
          refine e_iadd d_X11_keepsText_103 ?_
          refine e_aloadn d_X11_keepsText_104 rfl ?_
          refine e_get d_X11_keepsText_105 f_X11_66 H_md rfl ?_
          refine e_iloadn d_X11_keepsText_108 rfl ?_
          refine e_ialdN (k := q) d_X11_keepsText_109 H_mno rfl (by omega) (by omega) ?_
          refine e_iastN (k := (400 * t + q)) d_X11_keepsText_110 H_mor (by simp only [fa_lit, nI_add, pk_mul]) (by omega) (by omega) ?_
          refine e_aloadn d_X11_keepsText_111 rfl ?_
          refine e_get d_X11_keepsText_112 f_X11_42 (H_md.n (by decide)) rfl ?_
          refine e_sipush (v := 400) d_X11_keepsText_115 (by decide) ?_
          refine e_iloadn d_X11_keepsText_118 rfl ?_
          refine e_imul d_X11_keepsText_119 ?_
          refine e_iloadn d_X11_keepsText_120 rfl ?_
          refine e_iadd d_X11_keepsText_121 ?_
          refine e_aloadn d_X11_keepsText_122 rfl ?_
          refine e_get d_X11_keepsText_123 f_X11_69 (H_md.n (by decide)) rfl ?_
          refine e_iloadn d_X11_keepsText_126 rfl ?_
          refine e_ialdN (k := q) d_X11_keepsText_127 (H_mnv.n (by decide)) rfl (by omega) (by omega) ?_
          refine e_iastN (k := (400 * t + q)) d_X11_keepsText_128 (H_mva.n (by decide)) (by simp only [fa_lit, nI_add, pk_mul]) (by omega) (by omega) ?_
          refine e_iincw (w := 1) d_X11_keepsText_129 rfl (by decide) (by decide) rfl ?_
          refine e_gt d_X11_keepsText_132 ?_
          refine ih_85 (q + 1) (by omega) (by omega) _ () () () () () () () _ ?_ ?_ ?_ ?_ ?_ ?_ ?_ ?_
          · exact (h_F2.up (by decide)).up (by decide)
          · exact (h_cl2.n (by decide)).n (by decide)
          · exact (h_xw2.n (by decide)).n (by decide)
          · exact (h_xn2.n (by decide)).n (by decide)
          · exact (h_xa2.n (by decide)).n (by decide)
          · refine ⟨_, H_mor.s.n (by decide), fun j hj => ?_, fun j hj => ?_⟩
            · by_cases e : j = q
              · rw [e, va_up_self]
              · rw [va_up_ne _ _ (by omega)]; exact o1 j (by omega)
            · rw [va_up_ne _ _ (by omega)]; exact o2 j hj
          · refine ⟨_, Hs.s (H_mva.n (by decide)), fun j hj => ?_, fun j hj => ?_⟩
            · by_cases e : j = q
              · rw [e, va_up_self]
              · rw [va_up_ne _ _ (by omega)]; exact v1 j (by omega)
            · rw [va_up_ne _ _ (by omega)]; exact v2 j hj
          · exact nI_1 q
      exact hA_85 0 (by omega) _ () () () () () () () _ (h_F) (h_cl9) (H_mcw) (H_mcn) (H_mca) (⟨_, h_o9, fun j hj => absurd hj (by omega), fun j hj => rfl⟩) (⟨_, h_v9, fun j hj => absurd hj (by omega), fun j hj => rfl⟩) (rfl)
    · have c := i_nle (by omega) (by omega) c
      refine e_aloadn d_X11_keepsText_20 rfl ?_
      refine e_get d_X11_keepsText_21 f_X11_30 H_md rfl ?_
      refine e_bipush (v := 10) d_X11_keepsText_24 (by decide) ?_
      refine e_iloadn d_X11_keepsText_26 rfl ?_
      refine e_imul d_X11_keepsText_27 ?_
      refine e_iloadn d_X11_keepsText_28 rfl ?_
      refine e_iadd d_X11_keepsText_29 ?_
      refine e_aloadn d_X11_keepsText_30 rfl ?_
      refine e_get d_X11_keepsText_31 f_X11_57 H_md rfl ?_
      refine e_iloadn d_X11_keepsText_34 rfl ?_
      refine e_ialdN (k := i) d_X11_keepsText_35 H_mnw rfl (by omega) (by omega) ?_
      refine e_iastN (k := (10 * t + i)) d_X11_keepsText_36 H_mcw (by simp only [fa_lit, nI_add, pk_mul]) (by omega) (by omega) ?_
      refine e_aloadn d_X11_keepsText_37 rfl ?_
      refine e_get d_X11_keepsText_38 f_X11_33 (H_md.n (by decide)) rfl ?_
      refine e_bipush (v := 10) d_X11_keepsText_41 (by decide) ?_
      refine e_iloadn d_X11_keepsText_43 rfl ?_
      refine e_imul d_X11_keepsText_44 ?_
      refine e_iloadn d_X11_keepsText_45 rfl ?_
      refine e_iadd d_X11_keepsText_46 ?_
      refine e_aloadn d_X11_keepsText_47 rfl ?_
      refine e_get d_X11_keepsText_48 f_X11_60 (H_md.n (by decide)) rfl ?_
      refine e_iloadn d_X11_keepsText_51 rfl ?_
      refine e_ialdN (k := i) d_X11_keepsText_52 (H_mnn.n (by decide)) rfl (by omega) (by omega) ?_
      refine e_iastN (k := (10 * t + i)) d_X11_keepsText_53 (H_mcn.n (by decide)) (by simp only [fa_lit, nI_add, pk_mul]) (by omega) (by omega) ?_
      refine e_aloadn d_X11_keepsText_54 rfl ?_
      refine e_get d_X11_keepsText_55 f_X11_36 ((H_md.n (by decide)).n (by decide)) rfl ?_
      refine e_bipush (v := 10) d_X11_keepsText_58 (by decide) ?_
      refine e_iloadn d_X11_keepsText_60 rfl ?_
      refine e_imul d_X11_keepsText_61 ?_
      refine e_iloadn d_X11_keepsText_62 rfl ?_
      refine e_iadd d_X11_keepsText_63 ?_
      refine e_sipush (v := 400) d_X11_keepsText_64 (by decide) ?_
      refine e_iloadn d_X11_keepsText_67 rfl ?_
      refine e_imul d_X11_keepsText_68 ?_
      refine e_aloadn d_X11_keepsText_69 rfl ?_
      refine e_get d_X11_keepsText_70 f_X11_63 ((H_md.n (by decide)).n (by decide)) rfl ?_
      refine e_iloadn d_X11_keepsText_73 rfl ?_
      refine e_ialdN (k := i) d_X11_keepsText_74 ((H_mna.n (by decide)).n (by decide)) rfl (by omega) (by omega) ?_
      refine e_iadd d_X11_keepsText_75 ?_
      refine e_iastN (k := (10 * t + i)) d_X11_keepsText_76 ((H_mca.n (by decide)).n (by decide)) (by simp only [fa_lit, nI_add, pk_mul]) (by omega) (by omega) ?_
      refine e_iincw (w := 1) d_X11_keepsText_77 rfl (by decide) (by decide) rfl ?_
      refine e_gt d_X11_keepsText_80 ?_
      refine ih_12 (i + 1) (by omega) (by omega) _ () () () () () () () _ ?_ ?_ ?_ ?_ ?_ ?_ ?_ ?_
      · exact ((h_F.up (by decide)).up (by decide)).up (by decide)
      · exact ((h_cl9.n (by decide)).n (by decide)).n (by decide)
      · refine ⟨_, (H_mcw.s.n (by decide)).n (by decide), fun j hj => ?_, fun j hj => ?_⟩
        · by_cases e : j = i
          · rw [e, va_up_self]
          · rw [va_up_ne _ _ (by omega)]; exact w1 j (by omega)
        · rw [va_up_ne _ _ (by omega)]; exact w2 j hj
      · refine ⟨_, (Hs.s (H_mcn.n (by decide))).n (by decide), fun j hj => ?_, fun j hj => ?_⟩
        · by_cases e : j = i
          · rw [e, va_up_self]
          · rw [va_up_ne _ _ (by omega)]; exact n1 j (by omega)
        · rw [va_up_ne _ _ (by omega)]; exact n2 j hj
      · refine ⟨_, Hs.s ((H_mca.n (by decide)).n (by decide)), fun j hj => ?_, fun j hj => ?_⟩
        · by_cases e : j = i
          · rw [e, va_up_self]
          · rw [va_up_ne _ _ (by omega)]; exact a1 j (by omega)
        · rw [va_up_ne _ _ (by omega)]; exact a2 j hj
      · exact ((h_o9.n (by decide)).n (by decide)).n (by decide)
      · exact ((h_v9.n (by decide)).n (by decide)).n (by decide)
      · exact nI_1 i
  exact hA_12 0 (by omega) _ () () () () () () () _ ((Fr.refl _ _).up (by decide)) (Hs.s H_mcl) (⟨_, H_mcw.n (by decide), fun j hj => absurd hj (by omega), fun j hj => rfl⟩) (⟨_, H_mcn.n (by decide), fun j hj => absurd hj (by omega), fun j hj => rfl⟩) (⟨_, H_mca.n (by decide), fun j hj => absurd hj (by omega), fun j hj => rfl⟩) (H_mor.n (by decide)) (H_mva.n (by decide)) (rfl)
