/-! THE READER: operands and operators -/
theorem RCq_bad {h : AH} {tp L q : Nat} {at_ st tk : Int32} {r : Nat × PS} (hg : r.1 = q) (hq : q ≠ 0) (E : RdE h q st) (B : TxB h tp) : RCq h tp L at_ st tk r := by
  subst hg
  exact Or.inr ⟨hq, E, B⟩
theorem gC_fl {ph k : Nat} {G : LV} {c : List Nat} (h : gC ph G k c) : (flat G).length ≤ 29 ∧ (∀ x, x ∈ flat G → x < 100) ∧ cnO (flat G) ≤ nO G := by
  obtain ⟨h1, h2, h3, h4, h5, h6⟩ := h
  rcases h6 with ⟨-, -, hE⟩ | ⟨-, hI, -⟩ | ⟨-, hI⟩
  · have := (flat_lenE hE).1
    obtain ⟨-, q2, q3⟩ := flE hE
    exact ⟨by omega, fun x hx => (q2 x hx).1, by omega⟩
  · have := (flat_len hI).1
    obtain ⟨q2, q3⟩ := flI hI
    exact ⟨by omega, q2, q3⟩
  · have := (flat_len hI).1
    obtain ⟨q2, q3⟩ := flI hI
    exact ⟨by omega, q2, q3⟩
theorem s_X6_takeOperand {h : AH} {t ph : Nat} {G : LV} {tp nc : Nat} {kd : Nat → Nat} {cd : Nat → List Nat} {my ne : Int32} {L : Nat} {at_ st : Int32} (hT : TxW h tp nc kd cd my ne) (hR : RdW h tp L at_ st (nI t) 3 (kd (nc - 1)) (decide (ph = 0)) (cmB G) (flat G) (nO G) (nP G)) (hC : gC ph G (kd (nc - 1)) (cd (nc - 1))) (hph : ph = 0 ∨ ph = 1) (h0 : 0 < nc) (hto : t ≠ 35 → tot cd nc + (flat G).length + 1 ≤ 300) (ht : t < 20000) : Sp M_X6_takeOperand (0, 0) h [.ref 22] (rV (fun h' => RCq h' tp L at_ st (nI t) (gOperand t ph G nc kd cd my ne) ∧ Fr [22, 23, 42 + 4 * tp, 43 + 4 * tp, 44 + 4 * tp, 45 + 4 * tp] h h')) := by
  refine ⟨Nat.le_of_ble_eq_true rfl, ?_⟩
  show E _ _ _ 0 h [some (.ref 22)] []
  obtain ⟨wt, H_re, H_rw, hwl, hws⟩ := id hR
  have hfl := gC_fl hC
  have hk20 : kd (nc - 1) ≤ 20 := hC.2.1
  have hO8 := hC.2.2.1
  refine e_aloadn d_X6_takeOperand_0 rfl ?_
  refine e_get d_X6_takeOperand_1 f_X6_52 H_re rfl ?_
  refine e_bipush (v := 100) d_X6_takeOperand_4 (by decide) ?_
  refine e_icmp_lt d_X6_takeOperand_6 (fun c6 => ?_) (fun c6 => ?_)
  · have c6 := i_lt (a := t) (b := 100) (by omega) (by decide) c6
    refine e_aloadn d_X6_takeOperand_34 rfl ?_
    refine e_get d_X6_takeOperand_35 f_X6_52 H_re rfl ?_
    refine e_bipush (v := 11) d_X6_takeOperand_38 (by decide) ?_
    refine e_icmp_ge d_X6_takeOperand_40 (fun c40 => ?_) (fun c40 => ?_)
    · have c40 := i_le (a := 11) (b := t) (by decide) (by omega) c40
      refine e_aloadn d_X6_takeOperand_66 rfl ?_
      refine e_get d_X6_takeOperand_67 f_X6_52 H_re rfl ?_
      refine e_bipush (v := 32) d_X6_takeOperand_70 (by decide) ?_
      refine e_icmp_eq d_X6_takeOperand_72 (fun c72 => ?_) (fun c72 => ?_)
      · have c72 := i_eq (a := t) (b := 32) (by omega) (by decide) c72
        refine e_aloadn d_X6_takeOperand_100 rfl ?_
        by_cases h8 : 8 ≤ nO G
        · have hg : (gOperand t ph G nc kd cd my ne).1 = 3 := by
            unfold gOperand
            first
            | (rw [if_neg (by omega), if_neg (by omega), if_pos c72, if_pos h8]; done)
            | (rw [if_neg (by omega), if_neg (by omega), if_neg c72, if_pos c81, if_pos h8]; done)
            | (rw [if_neg (by omega), if_neg (by omega), if_neg c72, if_neg c81, if_pos ⟨c90, c97⟩, if_pos h8]; done)
          refine e_callRVV d_X6_takeOperand_101 l_X6_takeOperand_119 H_re rfl rfl (s_X6_takeOpening_q hR h8 (by omega)) rfl rfl (Nat.le_of_ble_eq_true rfl) (fun h_101 q_101 s_101 => ?_)
          obtain ⟨⟨⟨a9, b9, c9, l9, m9, n9, o9, p9, d9, e9, f9, x9, H_re2⟩, wt2, H_rw2⟩, fr_101⟩ := q_101
          refine e_gt d_X6_takeOperand_104 ?_
          refine e_aloadn d_X6_takeOperand_112 rfl ?_
          refine e_aloadn d_X6_takeOperand_113 rfl ?_
          refine e_get d_X6_takeOperand_114 f_X6_100 H_re2 rfl ?_
          refine e_if_eq d_X6_takeOperand_117 (fun c117 => ?_) (fun c117 => ?_)
          · first
            | have c117 : ¬ ph = 0 := fun z => bI_0.mp c117 (decide_eq_true z)
            | skip
            refine e_iconst (v := 0) d_X6_takeOperand_133 (by decide) ?_
            refine e_putz d_X6_takeOperand_134 f_X6_100 (by first | exact Or.inl rfl | exact Or.inr rfl) H_re2 (Nat.le_of_ble_eq_true rfl) ?_
            exact e_vret d_X6_takeOperand_137 rfl (⟨rfl, RCq_bad hg (by decide) ⟨⟨_, _, _, _, _, _, _, _, _, _, _, _, H_re2.s⟩, _, (H_rw2.n (by decide))⟩ (TxW.fr hT (fr_101.up (k := 22) (by decide)) (by simp)).b, (fr_101.up (k := 22) (by decide)).mono (by simp)⟩)
          · first
            | have c117 : ph = 0 := of_decide_eq_true (bI_1.mp (bI_z.resolve_left c117))
            | skip
            refine e_aloadn d_X6_takeOperand_120 rfl ?_
            refine e_get d_X6_takeOperand_121 f_X6_52 H_re2 rfl ?_
            refine e_bipush (v := 11) d_X6_takeOperand_124 (by decide) ?_
            refine e_icmp_ne d_X6_takeOperand_126 (fun c126 => ?_) (fun c126 => ?_)
            · first
              | have c126 : ¬ t = 11 := fun z => c126 (by rw [z]; rfl)
              | skip
              refine e_iconst (v := 0) d_X6_takeOperand_133 (by decide) ?_
              refine e_putz d_X6_takeOperand_134 f_X6_100 (by first | exact Or.inl rfl | exact Or.inr rfl) H_re2 (Nat.le_of_ble_eq_true rfl) ?_
              exact e_vret d_X6_takeOperand_137 rfl (⟨rfl, RCq_bad hg (by decide) ⟨⟨_, _, _, _, _, _, _, _, _, _, _, _, H_re2.s⟩, _, (H_rw2.n (by decide))⟩ (TxW.fr hT (fr_101.up (k := 22) (by decide)) (by simp)).b, (fr_101.up (k := 22) (by decide)).mono (by simp)⟩)
            · first
              | have c126 := i_eq (a := t) (b := 11) (by omega) (by decide) c126
              | skip
              refine e_iconst (v := 1) d_X6_takeOperand_129 (by decide) ?_
              refine e_gt d_X6_takeOperand_130 ?_
              refine e_putz d_X6_takeOperand_134 f_X6_100 (by first | exact Or.inl rfl | exact Or.inr rfl) H_re2 (Nat.le_of_ble_eq_true rfl) ?_
              exact e_vret d_X6_takeOperand_137 rfl (⟨rfl, RCq_bad hg (by decide) ⟨⟨_, _, _, _, _, _, _, _, _, _, _, _, H_re2.s⟩, _, (H_rw2.n (by decide))⟩ (TxW.fr hT (fr_101.up (k := 22) (by decide)) (by simp)).b, (fr_101.up (k := 22) (by decide)).mono (by simp)⟩)
        · refine e_callRVV d_X6_takeOperand_101 l_X6_takeOperand_119 H_re rfl rfl (s_X6_takeOpening_0 (t := t) hR (by omega) (by omega) ht) rfl rfl (Nat.le_of_ble_eq_true rfl) (fun h_101 q_101 s_101 => ?_)
          obtain ⟨hR2, fr_101⟩ := q_101
          obtain ⟨wt2, H_re2, H_rw2, hwl2, hws2⟩ := id hR2
          refine e_gt d_X6_takeOperand_104 ?_
          refine e_aloadn d_X6_takeOperand_112 rfl ?_
          refine e_aloadn d_X6_takeOperand_113 rfl ?_
          refine e_get d_X6_takeOperand_114 f_X6_100 H_re2 rfl ?_
          refine e_if_eq d_X6_takeOperand_117 (fun c117 => ?_) (fun c117 => ?_)
          · first
            | have c117 : ¬ ph = 0 := fun z => bI_0.mp c117 (decide_eq_true z)
            | skip
            refine e_iconst (v := 0) d_X6_takeOperand_133 (by decide) ?_
            refine e_putz d_X6_takeOperand_134 f_X6_100 (by first | exact Or.inl rfl | exact Or.inr rfl) H_re2 (Nat.le_of_ble_eq_true rfl) ?_
            exact e_vret d_X6_takeOperand_137 rfl (⟨rfl, by
    first
    | exact opnd_open hph hC (Or.inl c72) (by omega) (TxW.fr hT (fr_101.up (k := 22) (by decide)) (by simp)) ⟨wt2, H_re2.s, (H_rw2.n (by decide)), hwl2, hws2⟩
    | exact opnd_open hph hC (Or.inr c81) (by omega) (TxW.fr hT (fr_101.up (k := 22) (by decide)) (by simp)) ⟨wt2, H_re2.s, (H_rw2.n (by decide)), hwl2, hws2⟩
    | (exfalso; omega)
    | (subst c90 c97; exact opnd_not (by omega) (TxW.fr hT (fr_101.up (k := 22) (by decide)) (by simp)) ⟨wt2, H_re2.s, (H_rw2.n (by decide)), hwl2, hws2⟩), (fr_101.up (k := 22) (by decide)).mono (by simp)⟩)
          · first
            | have c117 : ph = 0 := of_decide_eq_true (bI_1.mp (bI_z.resolve_left c117))
            | skip
            refine e_aloadn d_X6_takeOperand_120 rfl ?_
            refine e_get d_X6_takeOperand_121 f_X6_52 H_re2 rfl ?_
            refine e_bipush (v := 11) d_X6_takeOperand_124 (by decide) ?_
            refine e_icmp_ne d_X6_takeOperand_126 (fun c126 => ?_) (fun c126 => ?_)
            · first
              | have c126 : ¬ t = 11 := fun z => c126 (by rw [z]; rfl)
              | skip
              refine e_iconst (v := 0) d_X6_takeOperand_133 (by decide) ?_
              refine e_putz d_X6_takeOperand_134 f_X6_100 (by first | exact Or.inl rfl | exact Or.inr rfl) H_re2 (Nat.le_of_ble_eq_true rfl) ?_
              exact e_vret d_X6_takeOperand_137 rfl (⟨rfl, by
    first
    | exact opnd_open hph hC (Or.inl c72) (by omega) (TxW.fr hT (fr_101.up (k := 22) (by decide)) (by simp)) ⟨wt2, H_re2.s, (H_rw2.n (by decide)), hwl2, hws2⟩
    | exact opnd_open hph hC (Or.inr c81) (by omega) (TxW.fr hT (fr_101.up (k := 22) (by decide)) (by simp)) ⟨wt2, H_re2.s, (H_rw2.n (by decide)), hwl2, hws2⟩
    | (exfalso; omega)
    | (subst c90 c97; exact opnd_not (by omega) (TxW.fr hT (fr_101.up (k := 22) (by decide)) (by simp)) ⟨wt2, H_re2.s, (H_rw2.n (by decide)), hwl2, hws2⟩), (fr_101.up (k := 22) (by decide)).mono (by simp)⟩)
            · first
              | have c126 := i_eq (a := t) (b := 11) (by omega) (by decide) c126
              | skip
              refine e_iconst (v := 1) d_X6_takeOperand_129 (by decide) ?_
              refine e_gt d_X6_takeOperand_130 ?_
              refine e_putz d_X6_takeOperand_134 f_X6_100 (by first | exact Or.inl rfl | exact Or.inr rfl) H_re2 (Nat.le_of_ble_eq_true rfl) ?_
              exact e_vret d_X6_takeOperand_137 rfl (⟨rfl, by
    first
    | exact opnd_open hph hC (Or.inl c72) (by omega) (TxW.fr hT (fr_101.up (k := 22) (by decide)) (by simp)) ⟨wt2, H_re2.s, (H_rw2.n (by decide)), hwl2, hws2⟩
    | exact opnd_open hph hC (Or.inr c81) (by omega) (TxW.fr hT (fr_101.up (k := 22) (by decide)) (by simp)) ⟨wt2, H_re2.s, (H_rw2.n (by decide)), hwl2, hws2⟩
    | (exfalso; omega)
    | (subst c90 c97; exact opnd_not (by omega) (TxW.fr hT (fr_101.up (k := 22) (by decide)) (by simp)) ⟨wt2, H_re2.s, (H_rw2.n (by decide)), hwl2, hws2⟩), (fr_101.up (k := 22) (by decide)).mono (by simp)⟩)
      · have c72 : ¬ t = 32 := fun z => c72 (by rw [z]; rfl)
        refine e_aloadn d_X6_takeOperand_75 rfl ?_
        refine e_get d_X6_takeOperand_76 f_X6_52 H_re rfl ?_
        refine e_bipush (v := 28) d_X6_takeOperand_79 (by decide) ?_
        refine e_icmp_eq d_X6_takeOperand_81 (fun c81 => ?_) (fun c81 => ?_)
        · have c81 := i_eq (a := t) (b := 28) (by omega) (by decide) c81
          refine e_aloadn d_X6_takeOperand_100 rfl ?_
          by_cases h8 : 8 ≤ nO G
          · have hg : (gOperand t ph G nc kd cd my ne).1 = 3 := by
              unfold gOperand
              first
              | (rw [if_neg (by omega), if_neg (by omega), if_pos c72, if_pos h8]; done)
              | (rw [if_neg (by omega), if_neg (by omega), if_neg c72, if_pos c81, if_pos h8]; done)
              | (rw [if_neg (by omega), if_neg (by omega), if_neg c72, if_neg c81, if_pos ⟨c90, c97⟩, if_pos h8]; done)
            refine e_callRVV d_X6_takeOperand_101 l_X6_takeOperand_119 H_re rfl rfl (s_X6_takeOpening_q hR h8 (by omega)) rfl rfl (Nat.le_of_ble_eq_true rfl) (fun h_101 q_101 s_101 => ?_)
            obtain ⟨⟨⟨a9, b9, c9, l9, m9, n9, o9, p9, d9, e9, f9, x9, H_re2⟩, wt2, H_rw2⟩, fr_101⟩ := q_101
            refine e_gt d_X6_takeOperand_104 ?_
            refine e_aloadn d_X6_takeOperand_112 rfl ?_
            refine e_aloadn d_X6_takeOperand_113 rfl ?_
            refine e_get d_X6_takeOperand_114 f_X6_100 H_re2 rfl ?_
            refine e_if_eq d_X6_takeOperand_117 (fun c117 => ?_) (fun c117 => ?_)
            · first
              | have c117 : ¬ ph = 0 := fun z => bI_0.mp c117 (decide_eq_true z)
              | skip
              refine e_iconst (v := 0) d_X6_takeOperand_133 (by decide) ?_
              refine e_putz d_X6_takeOperand_134 f_X6_100 (by first | exact Or.inl rfl | exact Or.inr rfl) H_re2 (Nat.le_of_ble_eq_true rfl) ?_
              exact e_vret d_X6_takeOperand_137 rfl (⟨rfl, RCq_bad hg (by decide) ⟨⟨_, _, _, _, _, _, _, _, _, _, _, _, H_re2.s⟩, _, (H_rw2.n (by decide))⟩ (TxW.fr hT (fr_101.up (k := 22) (by decide)) (by simp)).b, (fr_101.up (k := 22) (by decide)).mono (by simp)⟩)
            · first
              | have c117 : ph = 0 := of_decide_eq_true (bI_1.mp (bI_z.resolve_left c117))
              | skip
              refine e_aloadn d_X6_takeOperand_120 rfl ?_
              refine e_get d_X6_takeOperand_121 f_X6_52 H_re2 rfl ?_
              refine e_bipush (v := 11) d_X6_takeOperand_124 (by decide) ?_
              refine e_icmp_ne d_X6_takeOperand_126 (fun c126 => ?_) (fun c126 => ?_)
              · first
                | have c126 : ¬ t = 11 := fun z => c126 (by rw [z]; rfl)
                | skip
                refine e_iconst (v := 0) d_X6_takeOperand_133 (by decide) ?_
                refine e_putz d_X6_takeOperand_134 f_X6_100 (by first | exact Or.inl rfl | exact Or.inr rfl) H_re2 (Nat.le_of_ble_eq_true rfl) ?_
                exact e_vret d_X6_takeOperand_137 rfl (⟨rfl, RCq_bad hg (by decide) ⟨⟨_, _, _, _, _, _, _, _, _, _, _, _, H_re2.s⟩, _, (H_rw2.n (by decide))⟩ (TxW.fr hT (fr_101.up (k := 22) (by decide)) (by simp)).b, (fr_101.up (k := 22) (by decide)).mono (by simp)⟩)
              · first
                | have c126 := i_eq (a := t) (b := 11) (by omega) (by decide) c126
                | skip
                refine e_iconst (v := 1) d_X6_takeOperand_129 (by decide) ?_
                refine e_gt d_X6_takeOperand_130 ?_
                refine e_putz d_X6_takeOperand_134 f_X6_100 (by first | exact Or.inl rfl | exact Or.inr rfl) H_re2 (Nat.le_of_ble_eq_true rfl) ?_
                exact e_vret d_X6_takeOperand_137 rfl (⟨rfl, RCq_bad hg (by decide) ⟨⟨_, _, _, _, _, _, _, _, _, _, _, _, H_re2.s⟩, _, (H_rw2.n (by decide))⟩ (TxW.fr hT (fr_101.up (k := 22) (by decide)) (by simp)).b, (fr_101.up (k := 22) (by decide)).mono (by simp)⟩)
          · refine e_callRVV d_X6_takeOperand_101 l_X6_takeOperand_119 H_re rfl rfl (s_X6_takeOpening_0 (t := t) hR (by omega) (by omega) ht) rfl rfl (Nat.le_of_ble_eq_true rfl) (fun h_101 q_101 s_101 => ?_)
            obtain ⟨hR2, fr_101⟩ := q_101
            obtain ⟨wt2, H_re2, H_rw2, hwl2, hws2⟩ := id hR2
            refine e_gt d_X6_takeOperand_104 ?_
            refine e_aloadn d_X6_takeOperand_112 rfl ?_
            refine e_aloadn d_X6_takeOperand_113 rfl ?_
            refine e_get d_X6_takeOperand_114 f_X6_100 H_re2 rfl ?_
            refine e_if_eq d_X6_takeOperand_117 (fun c117 => ?_) (fun c117 => ?_)
            · first
              | have c117 : ¬ ph = 0 := fun z => bI_0.mp c117 (decide_eq_true z)
              | skip
              refine e_iconst (v := 0) d_X6_takeOperand_133 (by decide) ?_
              refine e_putz d_X6_takeOperand_134 f_X6_100 (by first | exact Or.inl rfl | exact Or.inr rfl) H_re2 (Nat.le_of_ble_eq_true rfl) ?_
              exact e_vret d_X6_takeOperand_137 rfl (⟨rfl, by
    first
    | exact opnd_open hph hC (Or.inl c72) (by omega) (TxW.fr hT (fr_101.up (k := 22) (by decide)) (by simp)) ⟨wt2, H_re2.s, (H_rw2.n (by decide)), hwl2, hws2⟩
    | exact opnd_open hph hC (Or.inr c81) (by omega) (TxW.fr hT (fr_101.up (k := 22) (by decide)) (by simp)) ⟨wt2, H_re2.s, (H_rw2.n (by decide)), hwl2, hws2⟩
    | (exfalso; omega)
    | (subst c90 c97; exact opnd_not (by omega) (TxW.fr hT (fr_101.up (k := 22) (by decide)) (by simp)) ⟨wt2, H_re2.s, (H_rw2.n (by decide)), hwl2, hws2⟩), (fr_101.up (k := 22) (by decide)).mono (by simp)⟩)
            · first
              | have c117 : ph = 0 := of_decide_eq_true (bI_1.mp (bI_z.resolve_left c117))
              | skip
              refine e_aloadn d_X6_takeOperand_120 rfl ?_
              refine e_get d_X6_takeOperand_121 f_X6_52 H_re2 rfl ?_
              refine e_bipush (v := 11) d_X6_takeOperand_124 (by decide) ?_
              refine e_icmp_ne d_X6_takeOperand_126 (fun c126 => ?_) (fun c126 => ?_)
              · first
                | have c126 : ¬ t = 11 := fun z => c126 (by rw [z]; rfl)
                | skip
                refine e_iconst (v := 0) d_X6_takeOperand_133 (by decide) ?_
                refine e_putz d_X6_takeOperand_134 f_X6_100 (by first | exact Or.inl rfl | exact Or.inr rfl) H_re2 (Nat.le_of_ble_eq_true rfl) ?_
                exact e_vret d_X6_takeOperand_137 rfl (⟨rfl, by
    first
    | exact opnd_open hph hC (Or.inl c72) (by omega) (TxW.fr hT (fr_101.up (k := 22) (by decide)) (by simp)) ⟨wt2, H_re2.s, (H_rw2.n (by decide)), hwl2, hws2⟩
    | exact opnd_open hph hC (Or.inr c81) (by omega) (TxW.fr hT (fr_101.up (k := 22) (by decide)) (by simp)) ⟨wt2, H_re2.s, (H_rw2.n (by decide)), hwl2, hws2⟩
    | (exfalso; omega)
    | (subst c90 c97; exact opnd_not (by omega) (TxW.fr hT (fr_101.up (k := 22) (by decide)) (by simp)) ⟨wt2, H_re2.s, (H_rw2.n (by decide)), hwl2, hws2⟩), (fr_101.up (k := 22) (by decide)).mono (by simp)⟩)
              · first
                | have c126 := i_eq (a := t) (b := 11) (by omega) (by decide) c126
                | skip
                refine e_iconst (v := 1) d_X6_takeOperand_129 (by decide) ?_
                refine e_gt d_X6_takeOperand_130 ?_
                refine e_putz d_X6_takeOperand_134 f_X6_100 (by first | exact Or.inl rfl | exact Or.inr rfl) H_re2 (Nat.le_of_ble_eq_true rfl) ?_
                exact e_vret d_X6_takeOperand_137 rfl (⟨rfl, by
    first
    | exact opnd_open hph hC (Or.inl c72) (by omega) (TxW.fr hT (fr_101.up (k := 22) (by decide)) (by simp)) ⟨wt2, H_re2.s, (H_rw2.n (by decide)), hwl2, hws2⟩
    | exact opnd_open hph hC (Or.inr c81) (by omega) (TxW.fr hT (fr_101.up (k := 22) (by decide)) (by simp)) ⟨wt2, H_re2.s, (H_rw2.n (by decide)), hwl2, hws2⟩
    | (exfalso; omega)
    | (subst c90 c97; exact opnd_not (by omega) (TxW.fr hT (fr_101.up (k := 22) (by decide)) (by simp)) ⟨wt2, H_re2.s, (H_rw2.n (by decide)), hwl2, hws2⟩), (fr_101.up (k := 22) (by decide)).mono (by simp)⟩)
        · have c81 : ¬ t = 28 := fun z => c81 (by rw [z]; rfl)
          refine e_aloadn d_X6_takeOperand_84 rfl ?_
          refine e_get d_X6_takeOperand_85 f_X6_52 H_re rfl ?_
          refine e_bipush (v := 11) d_X6_takeOperand_88 (by decide) ?_
          refine e_icmp_ne d_X6_takeOperand_90 (fun c90 => ?_) (fun c90 => ?_)
          · have c90 : ¬ t = 11 := fun z => c90 (by rw [z]; rfl)
            refine e_aloadn d_X6_takeOperand_107 rfl ?_
            refine e_iconst (v := 1) d_X6_takeOperand_108 (by decide) ?_
            have hg : (gOperand t ph G nc kd cd my ne).1 = 1 := by
              unfold gOperand
              rw [if_neg (by omega), if_neg (by omega), if_neg (by omega), if_neg (by omega), if_neg (by omega)]
            refine e_callRVV d_X6_takeOperand_109 l_X6_takeOperand_73 H_re rfl rfl (s_X6_fail (q := 1) H_re H_rw) rfl rfl (Nat.le_of_ble_eq_true rfl) (fun h_109 q_109 s_109 => ?_)
            obtain ⟨⟨⟨a9, b9, c9, l9, m9, n9, o9, p9, d9, e9, f9, x9, H_re2⟩, wt2, H_rw2⟩, fr_109⟩ := q_109
            refine e_aloadn d_X6_takeOperand_112 rfl ?_
            refine e_aloadn d_X6_takeOperand_113 rfl ?_
            refine e_get d_X6_takeOperand_114 f_X6_100 H_re2 rfl ?_
            refine e_if_eq d_X6_takeOperand_117 (fun c117 => ?_) (fun c117 => ?_)
            · first
              | have c117 : ¬ ph = 0 := fun z => bI_0.mp c117 (decide_eq_true z)
              | skip
              refine e_iconst (v := 0) d_X6_takeOperand_133 (by decide) ?_
              refine e_putz d_X6_takeOperand_134 f_X6_100 (by first | exact Or.inl rfl | exact Or.inr rfl) H_re2 (Nat.le_of_ble_eq_true rfl) ?_
              exact e_vret d_X6_takeOperand_137 rfl (⟨rfl, RCq_bad hg (by decide) ⟨⟨_, _, _, _, _, _, _, _, _, _, _, _, H_re2.s⟩, _, (H_rw2.n (by decide))⟩ (TxW.fr hT (fr_109.up (k := 22) (by decide)) (by simp)).b, (fr_109.up (k := 22) (by decide)).mono (by simp)⟩)
            · first
              | have c117 : ph = 0 := of_decide_eq_true (bI_1.mp (bI_z.resolve_left c117))
              | skip
              refine e_aloadn d_X6_takeOperand_120 rfl ?_
              refine e_get d_X6_takeOperand_121 f_X6_52 H_re2 rfl ?_
              refine e_bipush (v := 11) d_X6_takeOperand_124 (by decide) ?_
              refine e_icmp_ne d_X6_takeOperand_126 (fun c126 => ?_) (fun c126 => ?_)
              · first
                | have c126 : ¬ t = 11 := fun z => c126 (by rw [z]; rfl)
                | skip
                refine e_iconst (v := 0) d_X6_takeOperand_133 (by decide) ?_
                refine e_putz d_X6_takeOperand_134 f_X6_100 (by first | exact Or.inl rfl | exact Or.inr rfl) H_re2 (Nat.le_of_ble_eq_true rfl) ?_
                exact e_vret d_X6_takeOperand_137 rfl (⟨rfl, RCq_bad hg (by decide) ⟨⟨_, _, _, _, _, _, _, _, _, _, _, _, H_re2.s⟩, _, (H_rw2.n (by decide))⟩ (TxW.fr hT (fr_109.up (k := 22) (by decide)) (by simp)).b, (fr_109.up (k := 22) (by decide)).mono (by simp)⟩)
              · first
                | have c126 := i_eq (a := t) (b := 11) (by omega) (by decide) c126
                | skip
                refine e_iconst (v := 1) d_X6_takeOperand_129 (by decide) ?_
                refine e_gt d_X6_takeOperand_130 ?_
                refine e_putz d_X6_takeOperand_134 f_X6_100 (by first | exact Or.inl rfl | exact Or.inr rfl) H_re2 (Nat.le_of_ble_eq_true rfl) ?_
                exact e_vret d_X6_takeOperand_137 rfl (⟨rfl, RCq_bad hg (by decide) ⟨⟨_, _, _, _, _, _, _, _, _, _, _, _, H_re2.s⟩, _, (H_rw2.n (by decide))⟩ (TxW.fr hT (fr_109.up (k := 22) (by decide)) (by simp)).b, (fr_109.up (k := 22) (by decide)).mono (by simp)⟩)
          · have c90 := i_eq (a := t) (b := 11) (by omega) (by decide) c90
            refine e_aloadn d_X6_takeOperand_93 rfl ?_
            refine e_get d_X6_takeOperand_94 f_X6_100 H_re rfl ?_
            refine e_if_eq d_X6_takeOperand_97 (fun c97 => ?_) (fun c97 => ?_)
            · have c97 : ¬ ph = 0 := fun z => bI_0.mp c97 (decide_eq_true z)
              refine e_aloadn d_X6_takeOperand_107 rfl ?_
              refine e_iconst (v := 1) d_X6_takeOperand_108 (by decide) ?_
              have hg : (gOperand t ph G nc kd cd my ne).1 = 1 := by
                unfold gOperand
                rw [if_neg (by omega), if_neg (by omega), if_neg (by omega), if_neg (by omega), if_neg (by omega)]
              refine e_callRVV d_X6_takeOperand_109 l_X6_takeOperand_73 H_re rfl rfl (s_X6_fail (q := 1) H_re H_rw) rfl rfl (Nat.le_of_ble_eq_true rfl) (fun h_109 q_109 s_109 => ?_)
              obtain ⟨⟨⟨a9, b9, c9, l9, m9, n9, o9, p9, d9, e9, f9, x9, H_re2⟩, wt2, H_rw2⟩, fr_109⟩ := q_109
              refine e_aloadn d_X6_takeOperand_112 rfl ?_
              refine e_aloadn d_X6_takeOperand_113 rfl ?_
              refine e_get d_X6_takeOperand_114 f_X6_100 H_re2 rfl ?_
              refine e_if_eq d_X6_takeOperand_117 (fun c117 => ?_) (fun c117 => ?_)
              · first
                | have c117 : ¬ ph = 0 := fun z => bI_0.mp c117 (decide_eq_true z)
                | skip
                refine e_iconst (v := 0) d_X6_takeOperand_133 (by decide) ?_
                refine e_putz d_X6_takeOperand_134 f_X6_100 (by first | exact Or.inl rfl | exact Or.inr rfl) H_re2 (Nat.le_of_ble_eq_true rfl) ?_
                exact e_vret d_X6_takeOperand_137 rfl (⟨rfl, RCq_bad hg (by decide) ⟨⟨_, _, _, _, _, _, _, _, _, _, _, _, H_re2.s⟩, _, (H_rw2.n (by decide))⟩ (TxW.fr hT (fr_109.up (k := 22) (by decide)) (by simp)).b, (fr_109.up (k := 22) (by decide)).mono (by simp)⟩)
              · first
                | have c117 : ph = 0 := of_decide_eq_true (bI_1.mp (bI_z.resolve_left c117))
                | skip
                refine e_aloadn d_X6_takeOperand_120 rfl ?_
                refine e_get d_X6_takeOperand_121 f_X6_52 H_re2 rfl ?_
                refine e_bipush (v := 11) d_X6_takeOperand_124 (by decide) ?_
                refine e_icmp_ne d_X6_takeOperand_126 (fun c126 => ?_) (fun c126 => ?_)
                · first
                  | have c126 : ¬ t = 11 := fun z => c126 (by rw [z]; rfl)
                  | skip
                  refine e_iconst (v := 0) d_X6_takeOperand_133 (by decide) ?_
                  refine e_putz d_X6_takeOperand_134 f_X6_100 (by first | exact Or.inl rfl | exact Or.inr rfl) H_re2 (Nat.le_of_ble_eq_true rfl) ?_
                  exact e_vret d_X6_takeOperand_137 rfl (⟨rfl, RCq_bad hg (by decide) ⟨⟨_, _, _, _, _, _, _, _, _, _, _, _, H_re2.s⟩, _, (H_rw2.n (by decide))⟩ (TxW.fr hT (fr_109.up (k := 22) (by decide)) (by simp)).b, (fr_109.up (k := 22) (by decide)).mono (by simp)⟩)
                · first
                  | have c126 := i_eq (a := t) (b := 11) (by omega) (by decide) c126
                  | skip
                  refine e_iconst (v := 1) d_X6_takeOperand_129 (by decide) ?_
                  refine e_gt d_X6_takeOperand_130 ?_
                  refine e_putz d_X6_takeOperand_134 f_X6_100 (by first | exact Or.inl rfl | exact Or.inr rfl) H_re2 (Nat.le_of_ble_eq_true rfl) ?_
                  exact e_vret d_X6_takeOperand_137 rfl (⟨rfl, RCq_bad hg (by decide) ⟨⟨_, _, _, _, _, _, _, _, _, _, _, _, H_re2.s⟩, _, (H_rw2.n (by decide))⟩ (TxW.fr hT (fr_109.up (k := 22) (by decide)) (by simp)).b, (fr_109.up (k := 22) (by decide)).mono (by simp)⟩)
            · have c97 : ph = 0 := of_decide_eq_true (bI_1.mp (bI_z.resolve_left c97))
              refine e_aloadn d_X6_takeOperand_100 rfl ?_
              by_cases h8 : 8 ≤ nO G
              · have hg : (gOperand t ph G nc kd cd my ne).1 = 3 := by
                  unfold gOperand
                  first
                  | (rw [if_neg (by omega), if_neg (by omega), if_pos c72, if_pos h8]; done)
                  | (rw [if_neg (by omega), if_neg (by omega), if_neg c72, if_pos c81, if_pos h8]; done)
                  | (rw [if_neg (by omega), if_neg (by omega), if_neg c72, if_neg c81, if_pos ⟨c90, c97⟩, if_pos h8]; done)
                refine e_callRVV d_X6_takeOperand_101 l_X6_takeOperand_119 H_re rfl rfl (s_X6_takeOpening_q hR h8 (by omega)) rfl rfl (Nat.le_of_ble_eq_true rfl) (fun h_101 q_101 s_101 => ?_)
                obtain ⟨⟨⟨a9, b9, c9, l9, m9, n9, o9, p9, d9, e9, f9, x9, H_re2⟩, wt2, H_rw2⟩, fr_101⟩ := q_101
                refine e_gt d_X6_takeOperand_104 ?_
                refine e_aloadn d_X6_takeOperand_112 rfl ?_
                refine e_aloadn d_X6_takeOperand_113 rfl ?_
                refine e_get d_X6_takeOperand_114 f_X6_100 H_re2 rfl ?_
                refine e_if_eq d_X6_takeOperand_117 (fun c117 => ?_) (fun c117 => ?_)
                · first
                  | have c117 : ¬ ph = 0 := fun z => bI_0.mp c117 (decide_eq_true z)
                  | skip
                  refine e_iconst (v := 0) d_X6_takeOperand_133 (by decide) ?_
                  refine e_putz d_X6_takeOperand_134 f_X6_100 (by first | exact Or.inl rfl | exact Or.inr rfl) H_re2 (Nat.le_of_ble_eq_true rfl) ?_
                  exact e_vret d_X6_takeOperand_137 rfl (⟨rfl, RCq_bad hg (by decide) ⟨⟨_, _, _, _, _, _, _, _, _, _, _, _, H_re2.s⟩, _, (H_rw2.n (by decide))⟩ (TxW.fr hT (fr_101.up (k := 22) (by decide)) (by simp)).b, (fr_101.up (k := 22) (by decide)).mono (by simp)⟩)
                · first
                  | have c117 : ph = 0 := of_decide_eq_true (bI_1.mp (bI_z.resolve_left c117))
                  | skip
                  refine e_aloadn d_X6_takeOperand_120 rfl ?_
                  refine e_get d_X6_takeOperand_121 f_X6_52 H_re2 rfl ?_
                  refine e_bipush (v := 11) d_X6_takeOperand_124 (by decide) ?_
                  refine e_icmp_ne d_X6_takeOperand_126 (fun c126 => ?_) (fun c126 => ?_)
                  · first
                    | have c126 : ¬ t = 11 := fun z => c126 (by rw [z]; rfl)
                    | skip
                    refine e_iconst (v := 0) d_X6_takeOperand_133 (by decide) ?_
                    refine e_putz d_X6_takeOperand_134 f_X6_100 (by first | exact Or.inl rfl | exact Or.inr rfl) H_re2 (Nat.le_of_ble_eq_true rfl) ?_
                    exact e_vret d_X6_takeOperand_137 rfl (⟨rfl, RCq_bad hg (by decide) ⟨⟨_, _, _, _, _, _, _, _, _, _, _, _, H_re2.s⟩, _, (H_rw2.n (by decide))⟩ (TxW.fr hT (fr_101.up (k := 22) (by decide)) (by simp)).b, (fr_101.up (k := 22) (by decide)).mono (by simp)⟩)
                  · first
                    | have c126 := i_eq (a := t) (b := 11) (by omega) (by decide) c126
                    | skip
                    refine e_iconst (v := 1) d_X6_takeOperand_129 (by decide) ?_
                    refine e_gt d_X6_takeOperand_130 ?_
                    refine e_putz d_X6_takeOperand_134 f_X6_100 (by first | exact Or.inl rfl | exact Or.inr rfl) H_re2 (Nat.le_of_ble_eq_true rfl) ?_
                    exact e_vret d_X6_takeOperand_137 rfl (⟨rfl, RCq_bad hg (by decide) ⟨⟨_, _, _, _, _, _, _, _, _, _, _, _, H_re2.s⟩, _, (H_rw2.n (by decide))⟩ (TxW.fr hT (fr_101.up (k := 22) (by decide)) (by simp)).b, (fr_101.up (k := 22) (by decide)).mono (by simp)⟩)
              · refine e_callRVV d_X6_takeOperand_101 l_X6_takeOperand_119 H_re rfl rfl (s_X6_takeOpening_0 (t := t) hR (by omega) (by omega) ht) rfl rfl (Nat.le_of_ble_eq_true rfl) (fun h_101 q_101 s_101 => ?_)
                obtain ⟨hR2, fr_101⟩ := q_101
                obtain ⟨wt2, H_re2, H_rw2, hwl2, hws2⟩ := id hR2
                refine e_gt d_X6_takeOperand_104 ?_
                refine e_aloadn d_X6_takeOperand_112 rfl ?_
                refine e_aloadn d_X6_takeOperand_113 rfl ?_
                refine e_get d_X6_takeOperand_114 f_X6_100 H_re2 rfl ?_
                refine e_if_eq d_X6_takeOperand_117 (fun c117 => ?_) (fun c117 => ?_)
                · first
                  | have c117 : ¬ ph = 0 := fun z => bI_0.mp c117 (decide_eq_true z)
                  | skip
                  refine e_iconst (v := 0) d_X6_takeOperand_133 (by decide) ?_
                  refine e_putz d_X6_takeOperand_134 f_X6_100 (by first | exact Or.inl rfl | exact Or.inr rfl) H_re2 (Nat.le_of_ble_eq_true rfl) ?_
                  exact e_vret d_X6_takeOperand_137 rfl (⟨rfl, by
    first
    | exact opnd_open hph hC (Or.inl c72) (by omega) (TxW.fr hT (fr_101.up (k := 22) (by decide)) (by simp)) ⟨wt2, H_re2.s, (H_rw2.n (by decide)), hwl2, hws2⟩
    | exact opnd_open hph hC (Or.inr c81) (by omega) (TxW.fr hT (fr_101.up (k := 22) (by decide)) (by simp)) ⟨wt2, H_re2.s, (H_rw2.n (by decide)), hwl2, hws2⟩
    | (exfalso; omega)
    | (subst c90 c97; exact opnd_not (by omega) (TxW.fr hT (fr_101.up (k := 22) (by decide)) (by simp)) ⟨wt2, H_re2.s, (H_rw2.n (by decide)), hwl2, hws2⟩), (fr_101.up (k := 22) (by decide)).mono (by simp)⟩)
                · first
                  | have c117 : ph = 0 := of_decide_eq_true (bI_1.mp (bI_z.resolve_left c117))
                  | skip
                  refine e_aloadn d_X6_takeOperand_120 rfl ?_
                  refine e_get d_X6_takeOperand_121 f_X6_52 H_re2 rfl ?_
                  refine e_bipush (v := 11) d_X6_takeOperand_124 (by decide) ?_
                  refine e_icmp_ne d_X6_takeOperand_126 (fun c126 => ?_) (fun c126 => ?_)
                  · first
                    | have c126 : ¬ t = 11 := fun z => c126 (by rw [z]; rfl)
                    | skip
                    refine e_iconst (v := 0) d_X6_takeOperand_133 (by decide) ?_
                    refine e_putz d_X6_takeOperand_134 f_X6_100 (by first | exact Or.inl rfl | exact Or.inr rfl) H_re2 (Nat.le_of_ble_eq_true rfl) ?_
                    exact e_vret d_X6_takeOperand_137 rfl (⟨rfl, by
    first
    | exact opnd_open hph hC (Or.inl c72) (by omega) (TxW.fr hT (fr_101.up (k := 22) (by decide)) (by simp)) ⟨wt2, H_re2.s, (H_rw2.n (by decide)), hwl2, hws2⟩
    | exact opnd_open hph hC (Or.inr c81) (by omega) (TxW.fr hT (fr_101.up (k := 22) (by decide)) (by simp)) ⟨wt2, H_re2.s, (H_rw2.n (by decide)), hwl2, hws2⟩
    | (exfalso; omega)
    | (subst c90 c97; exact opnd_not (by omega) (TxW.fr hT (fr_101.up (k := 22) (by decide)) (by simp)) ⟨wt2, H_re2.s, (H_rw2.n (by decide)), hwl2, hws2⟩), (fr_101.up (k := 22) (by decide)).mono (by simp)⟩)
                  · first
                    | have c126 := i_eq (a := t) (b := 11) (by omega) (by decide) c126
                    | skip
                    refine e_iconst (v := 1) d_X6_takeOperand_129 (by decide) ?_
                    refine e_gt d_X6_takeOperand_130 ?_
                    refine e_putz d_X6_takeOperand_134 f_X6_100 (by first | exact Or.inl rfl | exact Or.inr rfl) H_re2 (Nat.le_of_ble_eq_true rfl) ?_
                    exact e_vret d_X6_takeOperand_137 rfl (⟨rfl, by
    first
    | exact opnd_open hph hC (Or.inl c72) (by omega) (TxW.fr hT (fr_101.up (k := 22) (by decide)) (by simp)) ⟨wt2, H_re2.s, (H_rw2.n (by decide)), hwl2, hws2⟩
    | exact opnd_open hph hC (Or.inr c81) (by omega) (TxW.fr hT (fr_101.up (k := 22) (by decide)) (by simp)) ⟨wt2, H_re2.s, (H_rw2.n (by decide)), hwl2, hws2⟩
    | (exfalso; omega)
    | (subst c90 c97; exact opnd_not (by omega) (TxW.fr hT (fr_101.up (k := 22) (by decide)) (by simp)) ⟨wt2, H_re2.s, (H_rw2.n (by decide)), hwl2, hws2⟩), (fr_101.up (k := 22) (by decide)).mono (by simp)⟩)
    · have c40 := i_nle (a := 11) (b := t) (by decide) (by omega) c40
      refine e_aloadn d_X6_takeOperand_43 rfl ?_
      refine e_aloadn d_X6_takeOperand_44 rfl ?_
      refine e_aloadn d_X6_takeOperand_45 rfl ?_
      refine e_get d_X6_takeOperand_46 f_X6_52 H_re rfl ?_
      refine e_callVI d_X6_takeOperand_49 l_X6_takeOperand_116 H_re rfl rfl (s_X6_hasName hR hk20 c40) rfl rfl (Nat.le_of_ble_eq_true rfl) ?_
      refine e_if_eq d_X6_takeOperand_52 (fun c52 => ?_) (fun c52 => ?_)
      · have hok := bI_0.mp c52
        have hg : (gOperand t ph G nc kd cd my ne).1 = 5 := by
          unfold gOperand
          rw [if_neg (by omega), if_pos c40, if_neg hok]
        refine e_iconst (v := 5) d_X6_takeOperand_59 (by decide) ?_
        refine e_callRVV d_X6_takeOperand_60 l_X6_takeOperand_113 H_re rfl rfl (s_X6_takeOne_q (q := 5) hR (by decide)) rfl rfl (Nat.le_of_ble_eq_true rfl) (fun h_60 q_60 s_60 => ?_)
        obtain ⟨⟨⟨a9, b9, c9, l9, m9, n9, o9, p9, d9, e9, f9, x9, H_re2⟩, wt2, H_rw2⟩, fr_60⟩ := q_60
        refine e_gt d_X6_takeOperand_63 ?_
        refine e_aloadn d_X6_takeOperand_112 rfl ?_
        refine e_aloadn d_X6_takeOperand_113 rfl ?_
        refine e_get d_X6_takeOperand_114 f_X6_100 H_re2 rfl ?_
        refine e_if_eq d_X6_takeOperand_117 (fun c117 => ?_) (fun c117 => ?_)
        · first
          | have c117 : ¬ ph = 0 := fun z => bI_0.mp c117 (decide_eq_true z)
          | skip
          refine e_iconst (v := 0) d_X6_takeOperand_133 (by decide) ?_
          refine e_putz d_X6_takeOperand_134 f_X6_100 (by first | exact Or.inl rfl | exact Or.inr rfl) H_re2 (Nat.le_of_ble_eq_true rfl) ?_
          exact e_vret d_X6_takeOperand_137 rfl (⟨rfl, RCq_bad hg (by decide) ⟨⟨_, _, _, _, _, _, _, _, _, _, _, _, H_re2.s⟩, _, (H_rw2.n (by decide))⟩ (TxW.fr hT (fr_60.up (k := 22) (by decide)) (by simp)).b, (fr_60.up (k := 22) (by decide)).mono (by simp)⟩)
        · first
          | have c117 : ph = 0 := of_decide_eq_true (bI_1.mp (bI_z.resolve_left c117))
          | skip
          refine e_aloadn d_X6_takeOperand_120 rfl ?_
          refine e_get d_X6_takeOperand_121 f_X6_52 H_re2 rfl ?_
          refine e_bipush (v := 11) d_X6_takeOperand_124 (by decide) ?_
          refine e_icmp_ne d_X6_takeOperand_126 (fun c126 => ?_) (fun c126 => ?_)
          · first
            | have c126 : ¬ t = 11 := fun z => c126 (by rw [z]; rfl)
            | skip
            refine e_iconst (v := 0) d_X6_takeOperand_133 (by decide) ?_
            refine e_putz d_X6_takeOperand_134 f_X6_100 (by first | exact Or.inl rfl | exact Or.inr rfl) H_re2 (Nat.le_of_ble_eq_true rfl) ?_
            exact e_vret d_X6_takeOperand_137 rfl (⟨rfl, RCq_bad hg (by decide) ⟨⟨_, _, _, _, _, _, _, _, _, _, _, _, H_re2.s⟩, _, (H_rw2.n (by decide))⟩ (TxW.fr hT (fr_60.up (k := 22) (by decide)) (by simp)).b, (fr_60.up (k := 22) (by decide)).mono (by simp)⟩)
          · first
            | have c126 := i_eq (a := t) (b := 11) (by omega) (by decide) c126
            | skip
            refine e_iconst (v := 1) d_X6_takeOperand_129 (by decide) ?_
            refine e_gt d_X6_takeOperand_130 ?_
            refine e_putz d_X6_takeOperand_134 f_X6_100 (by first | exact Or.inl rfl | exact Or.inr rfl) H_re2 (Nat.le_of_ble_eq_true rfl) ?_
            exact e_vret d_X6_takeOperand_137 rfl (⟨rfl, RCq_bad hg (by decide) ⟨⟨_, _, _, _, _, _, _, _, _, _, _, _, H_re2.s⟩, _, (H_rw2.n (by decide))⟩ (TxW.fr hT (fr_60.up (k := 22) (by decide)) (by simp)).b, (fr_60.up (k := 22) (by decide)).mono (by simp)⟩)
      · have hok := bI_1.mp (bI_z.resolve_left c52)
        refine e_iconst (v := 0) d_X6_takeOperand_55 (by decide) ?_
        refine e_gt d_X6_takeOperand_56 ?_
        refine e_callRVV d_X6_takeOperand_60 l_X6_takeOperand_113 H_re rfl rfl (s_X6_takeOne_0 (t := t) hT hR h0 (by have := hto (by omega); omega)) rfl rfl (Nat.le_of_ble_eq_true rfl) (fun h_60 q_60 s_60 => ?_)
        obtain ⟨hT2, hR2, fr_60⟩ := q_60
        obtain ⟨wt2, H_re2, H_rw2, hwl2, hws2⟩ := id hR2
        refine e_gt d_X6_takeOperand_63 ?_
        refine e_aloadn d_X6_takeOperand_112 rfl ?_
        refine e_aloadn d_X6_takeOperand_113 rfl ?_
        refine e_get d_X6_takeOperand_114 f_X6_100 H_re2 rfl ?_
        refine e_if_eq d_X6_takeOperand_117 (fun c117 => ?_) (fun c117 => ?_)
        · first
          | have c117 : ¬ ph = 0 := fun z => bI_0.mp c117 (decide_eq_true z)
          | skip
          refine e_iconst (v := 0) d_X6_takeOperand_133 (by decide) ?_
          refine e_putz d_X6_takeOperand_134 f_X6_100 (by first | exact Or.inl rfl | exact Or.inr rfl) H_re2 (Nat.le_of_ble_eq_true rfl) ?_
          exact e_vret d_X6_takeOperand_137 rfl (⟨rfl, by
    first
    | exact opnd_one hph hC (Or.inr ⟨by omega, c40, hok⟩) (TxW.fr hT2 (S := [22]) ((Fr.refl _ _).up (by decide)) (by simp)) ⟨wt2, H_re2.s, (H_rw2.n (by decide)), hwl2, hws2⟩
    | (exfalso; omega), fr_60.up (by simp)⟩)
        · first
          | have c117 : ph = 0 := of_decide_eq_true (bI_1.mp (bI_z.resolve_left c117))
          | skip
          refine e_aloadn d_X6_takeOperand_120 rfl ?_
          refine e_get d_X6_takeOperand_121 f_X6_52 H_re2 rfl ?_
          refine e_bipush (v := 11) d_X6_takeOperand_124 (by decide) ?_
          refine e_icmp_ne d_X6_takeOperand_126 (fun c126 => ?_) (fun c126 => ?_)
          · first
            | have c126 : ¬ t = 11 := fun z => c126 (by rw [z]; rfl)
            | skip
            refine e_iconst (v := 0) d_X6_takeOperand_133 (by decide) ?_
            refine e_putz d_X6_takeOperand_134 f_X6_100 (by first | exact Or.inl rfl | exact Or.inr rfl) H_re2 (Nat.le_of_ble_eq_true rfl) ?_
            exact e_vret d_X6_takeOperand_137 rfl (⟨rfl, by
    first
    | exact opnd_one hph hC (Or.inr ⟨by omega, c40, hok⟩) (TxW.fr hT2 (S := [22]) ((Fr.refl _ _).up (by decide)) (by simp)) ⟨wt2, H_re2.s, (H_rw2.n (by decide)), hwl2, hws2⟩
    | (exfalso; omega), fr_60.up (by simp)⟩)
          · first
            | have c126 := i_eq (a := t) (b := 11) (by omega) (by decide) c126
            | skip
            refine e_iconst (v := 1) d_X6_takeOperand_129 (by decide) ?_
            refine e_gt d_X6_takeOperand_130 ?_
            refine e_putz d_X6_takeOperand_134 f_X6_100 (by first | exact Or.inl rfl | exact Or.inr rfl) H_re2 (Nat.le_of_ble_eq_true rfl) ?_
            exact e_vret d_X6_takeOperand_137 rfl (⟨rfl, by
    first
    | exact opnd_one hph hC (Or.inr ⟨by omega, c40, hok⟩) (TxW.fr hT2 (S := [22]) ((Fr.refl _ _).up (by decide)) (by simp)) ⟨wt2, H_re2.s, (H_rw2.n (by decide)), hwl2, hws2⟩
    | (exfalso; omega), fr_60.up (by simp)⟩)
  · have c6 := i_nlt (a := t) (b := 100) (by omega) (by decide) c6
    refine e_aloadn d_X6_takeOperand_9 rfl ?_
    refine e_aloadn d_X6_takeOperand_10 rfl ?_
    refine e_get d_X6_takeOperand_11 f_X6_52 H_re rfl ?_
    refine e_bipush (v := 100) d_X6_takeOperand_14 (by decide) ?_
    refine e_isub d_X6_takeOperand_16 ?_
    rw [show nI t - 100 = nI (t - 100) from nI_subN (b := 100) c6]
    refine e_sipush (v := 9999) d_X6_takeOperand_17 (by decide) ?_
    refine e_icmp_le d_X6_takeOperand_20 (fun c20 => ?_) (fun c20 => ?_)
    · have c20 := i_le (a := (t - 100)) (b := 9999) (by omega) (by decide) c20
      refine e_iconst (v := 0) d_X6_takeOperand_27 (by decide) ?_
      refine e_callRVV d_X6_takeOperand_28 l_X6_takeOperand_113 H_re rfl rfl (s_X6_takeOne_0 (t := t) hT hR h0 (by have := hto (by omega); omega)) rfl rfl (Nat.le_of_ble_eq_true rfl) (fun h_28 q_28 s_28 => ?_)
      obtain ⟨hT2, hR2, fr_28⟩ := q_28
      obtain ⟨wt2, H_re2, H_rw2, hwl2, hws2⟩ := id hR2
      refine e_gt d_X6_takeOperand_31 ?_
      refine e_aloadn d_X6_takeOperand_112 rfl ?_
      refine e_aloadn d_X6_takeOperand_113 rfl ?_
      refine e_get d_X6_takeOperand_114 f_X6_100 H_re2 rfl ?_
      refine e_if_eq d_X6_takeOperand_117 (fun c117 => ?_) (fun c117 => ?_)
      · first
        | have c117 : ¬ ph = 0 := fun z => bI_0.mp c117 (decide_eq_true z)
        | skip
        refine e_iconst (v := 0) d_X6_takeOperand_133 (by decide) ?_
        refine e_putz d_X6_takeOperand_134 f_X6_100 (by first | exact Or.inl rfl | exact Or.inr rfl) H_re2 (Nat.le_of_ble_eq_true rfl) ?_
        exact e_vret d_X6_takeOperand_137 rfl (⟨rfl, by
    first
    | exact opnd_one hph hC (Or.inl ⟨c6, by omega⟩) (TxW.fr hT2 (S := [22]) ((Fr.refl _ _).up (by decide)) (by simp)) ⟨wt2, H_re2.s, (H_rw2.n (by decide)), hwl2, hws2⟩
    | (exfalso; omega), fr_28.up (by simp)⟩)
      · first
        | have c117 : ph = 0 := of_decide_eq_true (bI_1.mp (bI_z.resolve_left c117))
        | skip
        refine e_aloadn d_X6_takeOperand_120 rfl ?_
        refine e_get d_X6_takeOperand_121 f_X6_52 H_re2 rfl ?_
        refine e_bipush (v := 11) d_X6_takeOperand_124 (by decide) ?_
        refine e_icmp_ne d_X6_takeOperand_126 (fun c126 => ?_) (fun c126 => ?_)
        · first
          | have c126 : ¬ t = 11 := fun z => c126 (by rw [z]; rfl)
          | skip
          refine e_iconst (v := 0) d_X6_takeOperand_133 (by decide) ?_
          refine e_putz d_X6_takeOperand_134 f_X6_100 (by first | exact Or.inl rfl | exact Or.inr rfl) H_re2 (Nat.le_of_ble_eq_true rfl) ?_
          exact e_vret d_X6_takeOperand_137 rfl (⟨rfl, by
    first
    | exact opnd_one hph hC (Or.inl ⟨c6, by omega⟩) (TxW.fr hT2 (S := [22]) ((Fr.refl _ _).up (by decide)) (by simp)) ⟨wt2, H_re2.s, (H_rw2.n (by decide)), hwl2, hws2⟩
    | (exfalso; omega), fr_28.up (by simp)⟩)
        · first
          | have c126 := i_eq (a := t) (b := 11) (by omega) (by decide) c126
          | skip
          refine e_iconst (v := 1) d_X6_takeOperand_129 (by decide) ?_
          refine e_gt d_X6_takeOperand_130 ?_
          refine e_putz d_X6_takeOperand_134 f_X6_100 (by first | exact Or.inl rfl | exact Or.inr rfl) H_re2 (Nat.le_of_ble_eq_true rfl) ?_
          exact e_vret d_X6_takeOperand_137 rfl (⟨rfl, by
    first
    | exact opnd_one hph hC (Or.inl ⟨c6, by omega⟩) (TxW.fr hT2 (S := [22]) ((Fr.refl _ _).up (by decide)) (by simp)) ⟨wt2, H_re2.s, (H_rw2.n (by decide)), hwl2, hws2⟩
    | (exfalso; omega), fr_28.up (by simp)⟩)
    · have c20 := i_nle (a := (t - 100)) (b := 9999) (by omega) (by decide) c20
      have hg : (gOperand t ph G nc kd cd my ne).1 = 2 := by
        unfold gOperand
        rw [if_pos c6, if_pos c20]
      refine e_iconst (v := 2) d_X6_takeOperand_23 (by decide) ?_
      refine e_gt d_X6_takeOperand_24 ?_
      refine e_callRVV d_X6_takeOperand_28 l_X6_takeOperand_113 H_re rfl rfl (s_X6_takeOne_q (q := 2) hR (by decide)) rfl rfl (Nat.le_of_ble_eq_true rfl) (fun h_28 q_28 s_28 => ?_)
      obtain ⟨⟨⟨a9, b9, c9, l9, m9, n9, o9, p9, d9, e9, f9, x9, H_re2⟩, wt2, H_rw2⟩, fr_28⟩ := q_28
      refine e_gt d_X6_takeOperand_31 ?_
      refine e_aloadn d_X6_takeOperand_112 rfl ?_
      refine e_aloadn d_X6_takeOperand_113 rfl ?_
      refine e_get d_X6_takeOperand_114 f_X6_100 H_re2 rfl ?_
      refine e_if_eq d_X6_takeOperand_117 (fun c117 => ?_) (fun c117 => ?_)
      · first
        | have c117 : ¬ ph = 0 := fun z => bI_0.mp c117 (decide_eq_true z)
        | skip
        refine e_iconst (v := 0) d_X6_takeOperand_133 (by decide) ?_
        refine e_putz d_X6_takeOperand_134 f_X6_100 (by first | exact Or.inl rfl | exact Or.inr rfl) H_re2 (Nat.le_of_ble_eq_true rfl) ?_
        exact e_vret d_X6_takeOperand_137 rfl (⟨rfl, RCq_bad hg (by decide) ⟨⟨_, _, _, _, _, _, _, _, _, _, _, _, H_re2.s⟩, _, (H_rw2.n (by decide))⟩ (TxW.fr hT (fr_28.up (k := 22) (by decide)) (by simp)).b, (fr_28.up (k := 22) (by decide)).mono (by simp)⟩)
      · first
        | have c117 : ph = 0 := of_decide_eq_true (bI_1.mp (bI_z.resolve_left c117))
        | skip
        refine e_aloadn d_X6_takeOperand_120 rfl ?_
        refine e_get d_X6_takeOperand_121 f_X6_52 H_re2 rfl ?_
        refine e_bipush (v := 11) d_X6_takeOperand_124 (by decide) ?_
        refine e_icmp_ne d_X6_takeOperand_126 (fun c126 => ?_) (fun c126 => ?_)
        · first
          | have c126 : ¬ t = 11 := fun z => c126 (by rw [z]; rfl)
          | skip
          refine e_iconst (v := 0) d_X6_takeOperand_133 (by decide) ?_
          refine e_putz d_X6_takeOperand_134 f_X6_100 (by first | exact Or.inl rfl | exact Or.inr rfl) H_re2 (Nat.le_of_ble_eq_true rfl) ?_
          exact e_vret d_X6_takeOperand_137 rfl (⟨rfl, RCq_bad hg (by decide) ⟨⟨_, _, _, _, _, _, _, _, _, _, _, _, H_re2.s⟩, _, (H_rw2.n (by decide))⟩ (TxW.fr hT (fr_28.up (k := 22) (by decide)) (by simp)).b, (fr_28.up (k := 22) (by decide)).mono (by simp)⟩)
        · first
          | have c126 := i_eq (a := t) (b := 11) (by omega) (by decide) c126
          | skip
          refine e_iconst (v := 1) d_X6_takeOperand_129 (by decide) ?_
          refine e_gt d_X6_takeOperand_130 ?_
          refine e_putz d_X6_takeOperand_134 f_X6_100 (by first | exact Or.inl rfl | exact Or.inr rfl) H_re2 (Nat.le_of_ble_eq_true rfl) ?_
          exact e_vret d_X6_takeOperand_137 rfl (⟨rfl, RCq_bad hg (by decide) ⟨⟨_, _, _, _, _, _, _, _, _, _, _, _, H_re2.s⟩, _, (H_rw2.n (by decide))⟩ (TxW.fr hT (fr_28.up (k := 22) (by decide)) (by simp)).b, (fr_28.up (k := 22) (by decide)).mono (by simp)⟩)

theorem sdr_len (r : Nat) (w : List Nat) : (sdr r w).length ≤ w.length := by have := stk_len r w; omega
theorem nP_0 {f : Nat} {w : List Nat} {r : LV} (hE : shE r) (hf : f ≠ 6) : nP ((f, w) :: r) = 0 := by
  obtain ⟨e, g1, g2, g3, g4, g5, g6, g7⟩ := unt_ok hE
  simp only [nP]; rw [if_neg hf, g6]
theorem cm_4 {w : List Nat} {r : LV} (hE : shE r) : cmB ((4, w) :: r) = false := by
  obtain ⟨e, g1, g2, g3, g4, g5, g6, g7⟩ := unt_ok hE
  simp only [cmB]; rw [g7]; rfl
theorem cm_c {f : Nat} {w : List Nat} {r : LV} (hf : 21 ≤ f) : cmB ((f, w) :: r) = true := by simp only [cmB]; rw [decide_eq_true hf]; rfl
theorem sdr_room {r n : Nat} {G : LV} (hr : r ≤ 7) (h : (flat G).length ≤ 31) : (sdr r (List.replicate n 31 ++ flat G)).length < 32 := by
  rw [(stk_all (r := r) (a := List.replicate n 31) (b := flat G) (fun x hx => rep_rk hr hx)).2]
  have := sdr_len r (flat G)
  omega

theorem s_X6_takeOperator_6 {h : AH} {t n tp nc : Nat} {w : List Nat} {r : LV} {kd : Nat → Nat} {cdc : Nat → List Nat} {my ne : Int32} {L : Nat} {at_ st : Int32} (hT : TxW h tp nc kd cdc my ne) (hR : RdW h tp L at_ st (nI t) 4 (kd (nc - 1)) false (cmB ((6, w) :: r)) (List.replicate n 31 ++ flat ((6, w) :: r)) (nO ((6, w) :: r) + n) (nP ((6, w) :: r))) (hw : vS w) (hr : shI (kd (nc - 1)) r) (hO : nO ((6, w) :: r) ≤ 8) (h0 : 0 < nc) (hto : tot cdc nc + (List.replicate n 31 ++ flat ((6, w) :: r)).length ≤ 300) (hP : nP ((6, w) :: r) < 1000) (hkk : kd (nc - 1) < 100) (ht : t < 20000) : Sp M_X6_takeOperator (0, 0) h [.ref 22] (rV (fun h' => RCq h' tp L at_ st (nI t) (gOperator t ((6, w) :: r) nc kd (cdA cdc nc (List.replicate n 31)) my ne) ∧ Fr [22, 23, 42 + 4 * tp, 43 + 4 * tp, 44 + 4 * tp, 45 + 4 * tp] h h')) := by
  refine ⟨Nat.le_of_ble_eq_true rfl, ?_⟩
  show E _ _ _ 0 h [some (.ref 22), none] []
  obtain ⟨wt, H_re, H_rw, hwl, hws⟩ := id hR
  have hI : shI (kd (nc - 1)) ((6, w) :: r) := Or.inl ⟨rfl, hw, hr⟩
  have hfl9 := flat_len hI
  have hfx9 := flI hI
  have hx9 : ∀ x, x ∈ (List.replicate n 31 ++ flat ((6, w) :: r)) → x < 100 := fun x hx => by
    rcases List.mem_append.mp hx with q | q
    · rw [List.eq_of_mem_replicate q]; decide
    · exact hfx9.1 x q
  have ho9 : cnO (List.replicate n 31 ++ flat ((6, w) :: r)) ≤ nO ((6, w) :: r) + n := by
    rw [cnO_app, cnO_rep]; omega
  have hlen9 : (List.replicate n 31 ++ flat ((6, w) :: r)).length ≤ 32 := hwl
  have hsl9 : ∀ q, (sdr (rkc t) (List.replicate q 31)).length ≤ q := fun q => by have := sdr_len (rkc t) (List.replicate q 31); simpa using this
  refine e_aloadn d_X6_takeOperator_0 rfl ?_
  refine e_get d_X6_takeOperator_1 f_X6_97 H_re rfl ?_
  refine e_if_le d_X6_takeOperator_4 (fun z => by first | exact absurd (fun z => absurd (i_np (by omega) z) (by simp [nP])) z | exact absurd z (fun z => absurd (i_np (by omega) z) (by simp [nP]))) (fun _ => ?_)
  refine e_iconst (v := 1) d_X6_takeOperator_7 (by decide) ?_
  refine e_gt d_X6_takeOperator_8 ?_
  refine e_istoren d_X6_takeOperator_12 (by decide) rfl ?_
  refine e_aloadn d_X6_takeOperator_13 rfl ?_
  refine e_get d_X6_takeOperator_14 f_X6_52 H_re rfl ?_
  refine e_bipush (v := 27) d_X6_takeOperator_17 (by decide) ?_
  refine e_icmp_lt d_X6_takeOperator_19 (fun c19 => ?_) (fun c19 => ?_)
  · have c19 := i_lt (a := t) (b := 27) (by omega) (by decide) c19
    refine e_iloadn d_X6_takeOperator_38 rfl ?_
    refine e_if_eq d_X6_takeOperator_39 (fun z => by first | exact absurd (by decide) z | exact absurd z (by decide)) (fun _ => ?_)
    refine e_aloadn d_X6_takeOperator_42 rfl ?_
    refine e_get d_X6_takeOperator_43 f_X6_52 H_re rfl ?_
    refine e_bipush (v := 33) d_X6_takeOperator_46 (by decide) ?_
    refine e_icmp_ne d_X6_takeOperator_48 (fun c48 => ?_) (fun c48 => ?_)
    · have c48 : ¬ t = 33 := fun z => c48 (by rw [z]; rfl)
      refine e_iloadn d_X6_takeOperator_58 rfl ?_
      refine e_if_ne d_X6_takeOperator_59 (fun _ => ?_) (fun z => by first | exact absurd (by decide) z | exact absurd z (by decide))
      refine e_iloadn d_X6_takeOperator_108 rfl ?_
      refine e_if_ne d_X6_takeOperator_109 (fun _ => ?_) (fun z => by first | exact absurd (by decide) z | exact absurd z (by decide))
      refine e_iloadn d_X6_takeOperator_154 rfl ?_
      refine e_if_ne d_X6_takeOperator_155 (fun _ => ?_) (fun z => by first | exact absurd (by decide) z | exact absurd z (by decide))
      refine e_aloadn d_X6_takeOperator_201 rfl ?_
      refine e_iconst (v := 1) d_X6_takeOperator_202 (by decide) ?_
      have hg : (gOperator t ((6, w) :: r) nc kd (cdA cdc nc (List.replicate n 31)) my ne).1 = 1 := by
        simp only [gOperator]
        rw [if_neg (by omega), if_pos trivial, if_neg (by omega)]
      refine e_callRVV d_X6_takeOperator_203 l_X6_takeOperator_73 H_re rfl rfl (s_X6_fail (q := 1) H_re H_rw) rfl rfl (Nat.le_of_ble_eq_true rfl) (fun h_203 q_203 s_203 => ?_)
      exact e_vret d_X6_takeOperator_206 rfl (⟨rfl, RCq_bad hg (by decide) q_203.1 (TxW.fr hT q_203.2 (by simp)).b, q_203.2.mono (by simp)⟩)
    · have c48 := i_eq (a := t) (b := 33) (by omega) (by decide) c48
      refine e_aloadn d_X6_takeOperator_51 rfl ?_
      refine e_callRVV d_X6_takeOperator_52 l_X6_takeOperator_131 H_re rfl rfl (s_X6_takeClose (w2 := flat r) hR hT h0 hto hx9 ho9 (opr_cls (k := 0) hw).2.1 (by rw [(opr_cls (k := 0) (n := n) (r := r) hw).1, cnO_app, cnO_rep, (opr_cls (k := 0) (n := n) (r := r) hw).2.2]; simp [nO]; omega) (by simp [nP] <;> omega)) rfl rfl (Nat.le_of_ble_eq_true rfl) (fun h_52 q_52 s_52 => ?_)
      obtain ⟨hR2, hT2, fr_52⟩ := q_52
      refine e_gt d_X6_takeOperator_55 ?_
      exact e_vret d_X6_takeOperator_206 rfl (⟨rfl, by subst c48; exact opr_2 hw hr hT2 hR2, fr_52⟩)
  · have c19 := i_nlt (a := t) (b := 27) (by omega) (by decide) c19
    refine e_aloadn d_X6_takeOperator_22 rfl ?_
    refine e_get d_X6_takeOperator_23 f_X6_52 H_re rfl ?_
    refine e_bipush (v := 30) d_X6_takeOperator_26 (by decide) ?_
    refine e_icmp_gt d_X6_takeOperator_28 (fun c28 => ?_) (fun c28 => ?_)
    · have c28 := i_lt (a := 30) (b := t) (by decide) (by omega) c28
      refine e_iloadn d_X6_takeOperator_38 rfl ?_
      refine e_if_eq d_X6_takeOperator_39 (fun z => by first | exact absurd (by decide) z | exact absurd z (by decide)) (fun _ => ?_)
      refine e_aloadn d_X6_takeOperator_42 rfl ?_
      refine e_get d_X6_takeOperator_43 f_X6_52 H_re rfl ?_
      refine e_bipush (v := 33) d_X6_takeOperator_46 (by decide) ?_
      refine e_icmp_ne d_X6_takeOperator_48 (fun c48 => ?_) (fun c48 => ?_)
      · have c48 : ¬ t = 33 := fun z => c48 (by rw [z]; rfl)
        refine e_iloadn d_X6_takeOperator_58 rfl ?_
        refine e_if_ne d_X6_takeOperator_59 (fun _ => ?_) (fun z => by first | exact absurd (by decide) z | exact absurd z (by decide))
        refine e_iloadn d_X6_takeOperator_108 rfl ?_
        refine e_if_ne d_X6_takeOperator_109 (fun _ => ?_) (fun z => by first | exact absurd (by decide) z | exact absurd z (by decide))
        refine e_iloadn d_X6_takeOperator_154 rfl ?_
        refine e_if_ne d_X6_takeOperator_155 (fun _ => ?_) (fun z => by first | exact absurd (by decide) z | exact absurd z (by decide))
        refine e_aloadn d_X6_takeOperator_201 rfl ?_
        refine e_iconst (v := 1) d_X6_takeOperator_202 (by decide) ?_
        have hg : (gOperator t ((6, w) :: r) nc kd (cdA cdc nc (List.replicate n 31)) my ne).1 = 1 := by
          simp only [gOperator]
          rw [if_neg (by omega), if_pos trivial, if_neg (by omega)]
        refine e_callRVV d_X6_takeOperator_203 l_X6_takeOperator_73 H_re rfl rfl (s_X6_fail (q := 1) H_re H_rw) rfl rfl (Nat.le_of_ble_eq_true rfl) (fun h_203 q_203 s_203 => ?_)
        exact e_vret d_X6_takeOperator_206 rfl (⟨rfl, RCq_bad hg (by decide) q_203.1 (TxW.fr hT q_203.2 (by simp)).b, q_203.2.mono (by simp)⟩)
      · have c48 := i_eq (a := t) (b := 33) (by omega) (by decide) c48
        refine e_aloadn d_X6_takeOperator_51 rfl ?_
        refine e_callRVV d_X6_takeOperator_52 l_X6_takeOperator_131 H_re rfl rfl (s_X6_takeClose (w2 := flat r) hR hT h0 hto hx9 ho9 (opr_cls (k := 0) hw).2.1 (by rw [(opr_cls (k := 0) (n := n) (r := r) hw).1, cnO_app, cnO_rep, (opr_cls (k := 0) (n := n) (r := r) hw).2.2]; simp [nO]; omega) (by simp [nP] <;> omega)) rfl rfl (Nat.le_of_ble_eq_true rfl) (fun h_52 q_52 s_52 => ?_)
        obtain ⟨hR2, hT2, fr_52⟩ := q_52
        refine e_gt d_X6_takeOperator_55 ?_
        exact e_vret d_X6_takeOperator_206 rfl (⟨rfl, by subst c48; exact opr_2 hw hr hT2 hR2, fr_52⟩)
    · have c28 := i_nlt (a := 30) (b := t) (by decide) (by omega) c28
      refine e_aloadn d_X6_takeOperator_31 rfl ?_
      refine e_callRVV d_X6_takeOperator_32 l_X6_takeOperator_128 H_re rfl rfl (s_X6_takeBinary (t := t) (L := L) (at_ := at_) (st := st) (sta := 4) (kin := kd (nc - 1)) (sA := false) (cm := (cmB ((6, w) :: r))) (op := nO ((6, w) :: r) + n) (br := (nP ((6, w) :: r))) (ws := (List.replicate n 31 ++ flat ((6, w) :: r))) ⟨wt, H_re, H_rw, hwl, hws⟩ (TxW.fr hT (S := [22]) (by first | exact Fr.refl _ _ | exact (Fr.refl _ _).up (by decide) | exact ((Fr.refl _ _).up (by decide)).up (by decide)) (by simp)) h0 hto hx9 ho9 (by omega) (sdr_room (rkc_le t (by omega)) (by omega))) rfl rfl (Nat.le_of_ble_eq_true rfl) (fun h_32 q_32 s_32 => ?_)
      obtain ⟨hR2, hT2, fr_32⟩ := q_32
      refine e_gt d_X6_takeOperator_35 ?_
      exact e_vret d_X6_takeOperator_206 rfl (⟨rfl, opr_1 (n := n) (Or.inl ⟨rfl, hw, hr⟩) (by omega) (by omega) (by omega) hT2 hR2, fr_32⟩)

theorem s_X6_takeOperator_1 {h : AH} {t n tp nc : Nat} {w : List Nat} {kd : Nat → Nat} {cdc : Nat → List Nat} {my ne : Int32} {L : Nat} {at_ st : Int32} (hT : TxW h tp nc kd cdc my ne) (hR : RdW h tp L at_ st (nI t) 4 (kd (nc - 1)) false false (List.replicate n 31 ++ flat [(1, w)]) (nO [(1, w)] + n) 0) (hw : vS w) (hk : kd (nc - 1) = 16) (hO : nO [(1, w)] ≤ 8) (h0 : 0 < nc) (hto : tot cdc nc + (List.replicate n 31 ++ flat [(1, w)]).length ≤ 300) (hkk : kd (nc - 1) < 100) (ht : t < 20000) : Sp M_X6_takeOperator (0, 0) h [.ref 22] (rV (fun h' => RCq h' tp L at_ st (nI t) (gOperator t [(1, w)] nc kd (cdA cdc nc (List.replicate n 31)) my ne) ∧ Fr [22, 23, 42 + 4 * tp, 43 + 4 * tp, 44 + 4 * tp, 45 + 4 * tp] h h')) := by
  refine ⟨Nat.le_of_ble_eq_true rfl, ?_⟩
  show E _ _ _ 0 h [some (.ref 22), none] []
  obtain ⟨wt, H_re, H_rw, hwl, hws⟩ := id hR
  have hI : shI (kd (nc - 1)) [(1, w)] := Or.inr (Or.inr ⟨hw, Or.inl ⟨hk, rfl, rfl⟩⟩)
  have hfl9 := flat_len hI
  have hfx9 := flI hI
  have hx9 : ∀ x, x ∈ (List.replicate n 31 ++ flat [(1, w)]) → x < 100 := fun x hx => by
    rcases List.mem_append.mp hx with q | q
    · rw [List.eq_of_mem_replicate q]; decide
    · exact hfx9.1 x q
  have ho9 : cnO (List.replicate n 31 ++ flat [(1, w)]) ≤ nO [(1, w)] + n := by
    rw [cnO_app, cnO_rep]; omega
  have hlen9 : (List.replicate n 31 ++ flat [(1, w)]).length ≤ 32 := hwl
  have hsl9 : ∀ q, (sdr (rkc t) (List.replicate q 31)).length ≤ q := fun q => by have := sdr_len (rkc t) (List.replicate q 31); simpa using this
  have hnP : nP [(1, w)] = 0 := rfl
  have hcB : cmB [(1, w)] = false := rfl
  refine e_aloadn d_X6_takeOperator_0 rfl ?_
  refine e_get d_X6_takeOperator_1 f_X6_97 H_re rfl ?_
  refine e_if_le d_X6_takeOperator_4 (fun _ => ?_) (fun z => by first | exact absurd (by decide) z | exact absurd z (by decide))
  refine e_iconst (v := 0) d_X6_takeOperator_11 (by decide) ?_
  refine e_istoren d_X6_takeOperator_12 (by decide) rfl ?_
  refine e_aloadn d_X6_takeOperator_13 rfl ?_
  refine e_get d_X6_takeOperator_14 f_X6_52 H_re rfl ?_
  refine e_bipush (v := 27) d_X6_takeOperator_17 (by decide) ?_
  refine e_icmp_lt d_X6_takeOperator_19 (fun c19 => ?_) (fun c19 => ?_)
  · have c19 := i_lt (a := t) (b := 27) (by omega) (by decide) c19
    refine e_iloadn d_X6_takeOperator_38 rfl ?_
    refine e_if_eq d_X6_takeOperator_39 (fun _ => ?_) (fun z => by first | exact absurd (rfl) z | exact absurd z (rfl))
    refine e_iloadn d_X6_takeOperator_58 rfl ?_
    refine e_if_ne d_X6_takeOperator_59 (fun z => by first | exact absurd (fun z => z rfl) z | exact absurd z (fun z => z rfl)) (fun _ => ?_)
    refine e_aloadn d_X6_takeOperator_62 rfl ?_
    refine e_get d_X6_takeOperator_63 f_X6_85 H_re rfl ?_
    refine e_bipush (v := 16) d_X6_takeOperator_66 (by decide) ?_
    refine e_icmp_eq d_X6_takeOperator_68 (fun _ => ?_) (fun z => by first | exact absurd (by rw [hk]; rfl) z | exact absurd z (by rw [hk]; rfl))
    refine e_iloadn d_X6_takeOperator_108 rfl ?_
    refine e_if_ne d_X6_takeOperator_109 (fun z => by first | exact absurd (fun z => z rfl) z | exact absurd z (fun z => z rfl)) (fun _ => ?_)
    refine e_aloadn d_X6_takeOperator_112 rfl ?_
    refine e_get d_X6_takeOperator_113 f_X6_104 H_re rfl ?_
    refine e_if_eq d_X6_takeOperator_116 (fun _ => ?_) (fun z => by first | exact absurd (rfl) z | exact absurd z (rfl))
    refine e_iloadn d_X6_takeOperator_154 rfl ?_
    refine e_if_ne d_X6_takeOperator_155 (fun z => by first | exact absurd (fun z => z rfl) z | exact absurd z (fun z => z rfl)) (fun _ => ?_)
    refine e_aloadn d_X6_takeOperator_158 rfl ?_
    refine e_get d_X6_takeOperator_159 f_X6_104 H_re rfl ?_
    refine e_aloadn d_X6_takeOperator_162 rfl ?_
    refine e_get d_X6_takeOperator_163 f_X6_85 H_re rfl ?_
    refine e_bipush (v := 16) d_X6_takeOperator_166 (by decide) ?_
    refine e_icmp_eq d_X6_takeOperator_168 (fun _ => ?_) (fun z => by first | exact absurd (by rw [hk]; rfl) z | exact absurd z (by rw [hk]; rfl))
    refine e_iconst (v := 0) d_X6_takeOperator_175 (by decide) ?_
    refine e_icmp_ne d_X6_takeOperator_176 (fun z => by first | exact absurd (fun z => z rfl) z | exact absurd z (fun z => z rfl)) (fun _ => ?_)
    refine e_aloadn d_X6_takeOperator_179 rfl ?_
    refine e_get d_X6_takeOperator_180 f_X6_52 H_re rfl ?_
    refine e_bipush (v := 34) d_X6_takeOperator_183 (by decide) ?_
    refine e_icmp_ne d_X6_takeOperator_185 (fun c185 => ?_) (fun c185 => ?_)
    · have c185 : ¬ t = 34 := fun z => c185 (by rw [z]; rfl)
      refine e_aloadn d_X6_takeOperator_201 rfl ?_
      refine e_iconst (v := 1) d_X6_takeOperator_202 (by decide) ?_
      have hg : (gOperator t [(1, w)] nc kd (cdA cdc nc (List.replicate n 31)) my ne).1 = 1 := by
        simp only [gOperator]
        rw [if_neg (by omega), if_neg (by omega), if_neg (by omega), if_pos trivial, if_neg (by omega)]
      refine e_callRVV d_X6_takeOperator_203 l_X6_takeOperator_73 H_re rfl rfl (s_X6_fail (q := 1) H_re H_rw) rfl rfl (Nat.le_of_ble_eq_true rfl) (fun h_203 q_203 s_203 => ?_)
      exact e_vret d_X6_takeOperator_206 rfl (⟨rfl, RCq_bad hg (by decide) q_203.1 (TxW.fr hT q_203.2 (by simp)).b, q_203.2.mono (by simp)⟩)
    · have c185 := i_eq (a := t) (b := 34) (by omega) (by decide) c185
      refine e_aloadn d_X6_takeOperator_188 rfl ?_
      refine e_iconst (v := 1) d_X6_takeOperator_189 (by decide) ?_
      refine e_callRVV d_X6_takeOperator_190 l_X6_takeOperator_134 H_re rfl rfl (s_X6_settle (r := 1) hR hT h0 hto hx9 ho9 (by decide)) rfl rfl (Nat.le_of_ble_eq_true rfl) (fun h_190 q_190 s_190 => ?_)
      obtain ⟨hR2, hT2, fr_190⟩ := q_190
      obtain ⟨wt2, H_re2, H_rw2, hwl2, hws2⟩ := id hR2
      refine e_aloadn d_X6_takeOperator_193 rfl ?_
      refine e_iconst (v := 0) d_X6_takeOperator_194 (by decide) ?_
      refine e_puti d_X6_takeOperator_195 f_X6_31 H_re2 (Nat.le_of_ble_eq_true rfl) ?_
      refine e_gt d_X6_takeOperator_198 ?_
      exact e_vret d_X6_takeOperator_206 rfl (⟨rfl, by subst c185; exact opr_5 (n := n) (⟨hw, Or.inl ⟨hk, rfl, rfl⟩⟩) (by intro w9 r9 z; simp at z; try omega) (TxW.fr hT2 (S := [22]) ((Fr.refl _ _).up (by decide)) (by simp)) ⟨wt2, H_re2.s, (H_rw2.n (by decide)), hwl2, hws2⟩, fr_190.up (by simp)⟩)
  · have c19 := i_nlt (a := t) (b := 27) (by omega) (by decide) c19
    refine e_aloadn d_X6_takeOperator_22 rfl ?_
    refine e_get d_X6_takeOperator_23 f_X6_52 H_re rfl ?_
    refine e_bipush (v := 30) d_X6_takeOperator_26 (by decide) ?_
    refine e_icmp_gt d_X6_takeOperator_28 (fun c28 => ?_) (fun c28 => ?_)
    · have c28 := i_lt (a := 30) (b := t) (by decide) (by omega) c28
      refine e_iloadn d_X6_takeOperator_38 rfl ?_
      refine e_if_eq d_X6_takeOperator_39 (fun _ => ?_) (fun z => by first | exact absurd (rfl) z | exact absurd z (rfl))
      refine e_iloadn d_X6_takeOperator_58 rfl ?_
      refine e_if_ne d_X6_takeOperator_59 (fun z => by first | exact absurd (fun z => z rfl) z | exact absurd z (fun z => z rfl)) (fun _ => ?_)
      refine e_aloadn d_X6_takeOperator_62 rfl ?_
      refine e_get d_X6_takeOperator_63 f_X6_85 H_re rfl ?_
      refine e_bipush (v := 16) d_X6_takeOperator_66 (by decide) ?_
      refine e_icmp_eq d_X6_takeOperator_68 (fun _ => ?_) (fun z => by first | exact absurd (by rw [hk]; rfl) z | exact absurd z (by rw [hk]; rfl))
      refine e_iloadn d_X6_takeOperator_108 rfl ?_
      refine e_if_ne d_X6_takeOperator_109 (fun z => by first | exact absurd (fun z => z rfl) z | exact absurd z (fun z => z rfl)) (fun _ => ?_)
      refine e_aloadn d_X6_takeOperator_112 rfl ?_
      refine e_get d_X6_takeOperator_113 f_X6_104 H_re rfl ?_
      refine e_if_eq d_X6_takeOperator_116 (fun _ => ?_) (fun z => by first | exact absurd (rfl) z | exact absurd z (rfl))
      refine e_iloadn d_X6_takeOperator_154 rfl ?_
      refine e_if_ne d_X6_takeOperator_155 (fun z => by first | exact absurd (fun z => z rfl) z | exact absurd z (fun z => z rfl)) (fun _ => ?_)
      refine e_aloadn d_X6_takeOperator_158 rfl ?_
      refine e_get d_X6_takeOperator_159 f_X6_104 H_re rfl ?_
      refine e_aloadn d_X6_takeOperator_162 rfl ?_
      refine e_get d_X6_takeOperator_163 f_X6_85 H_re rfl ?_
      refine e_bipush (v := 16) d_X6_takeOperator_166 (by decide) ?_
      refine e_icmp_eq d_X6_takeOperator_168 (fun _ => ?_) (fun z => by first | exact absurd (by rw [hk]; rfl) z | exact absurd z (by rw [hk]; rfl))
      refine e_iconst (v := 0) d_X6_takeOperator_175 (by decide) ?_
      refine e_icmp_ne d_X6_takeOperator_176 (fun z => by first | exact absurd (fun z => z rfl) z | exact absurd z (fun z => z rfl)) (fun _ => ?_)
      refine e_aloadn d_X6_takeOperator_179 rfl ?_
      refine e_get d_X6_takeOperator_180 f_X6_52 H_re rfl ?_
      refine e_bipush (v := 34) d_X6_takeOperator_183 (by decide) ?_
      refine e_icmp_ne d_X6_takeOperator_185 (fun c185 => ?_) (fun c185 => ?_)
      · have c185 : ¬ t = 34 := fun z => c185 (by rw [z]; rfl)
        refine e_aloadn d_X6_takeOperator_201 rfl ?_
        refine e_iconst (v := 1) d_X6_takeOperator_202 (by decide) ?_
        have hg : (gOperator t [(1, w)] nc kd (cdA cdc nc (List.replicate n 31)) my ne).1 = 1 := by
          simp only [gOperator]
          rw [if_neg (by omega), if_neg (by omega), if_neg (by omega), if_pos trivial, if_neg (by omega)]
        refine e_callRVV d_X6_takeOperator_203 l_X6_takeOperator_73 H_re rfl rfl (s_X6_fail (q := 1) H_re H_rw) rfl rfl (Nat.le_of_ble_eq_true rfl) (fun h_203 q_203 s_203 => ?_)
        exact e_vret d_X6_takeOperator_206 rfl (⟨rfl, RCq_bad hg (by decide) q_203.1 (TxW.fr hT q_203.2 (by simp)).b, q_203.2.mono (by simp)⟩)
      · have c185 := i_eq (a := t) (b := 34) (by omega) (by decide) c185
        refine e_aloadn d_X6_takeOperator_188 rfl ?_
        refine e_iconst (v := 1) d_X6_takeOperator_189 (by decide) ?_
        refine e_callRVV d_X6_takeOperator_190 l_X6_takeOperator_134 H_re rfl rfl (s_X6_settle (r := 1) hR hT h0 hto hx9 ho9 (by decide)) rfl rfl (Nat.le_of_ble_eq_true rfl) (fun h_190 q_190 s_190 => ?_)
        obtain ⟨hR2, hT2, fr_190⟩ := q_190
        obtain ⟨wt2, H_re2, H_rw2, hwl2, hws2⟩ := id hR2
        refine e_aloadn d_X6_takeOperator_193 rfl ?_
        refine e_iconst (v := 0) d_X6_takeOperator_194 (by decide) ?_
        refine e_puti d_X6_takeOperator_195 f_X6_31 H_re2 (Nat.le_of_ble_eq_true rfl) ?_
        refine e_gt d_X6_takeOperator_198 ?_
        exact e_vret d_X6_takeOperator_206 rfl (⟨rfl, by subst c185; exact opr_5 (n := n) (⟨hw, Or.inl ⟨hk, rfl, rfl⟩⟩) (by intro w9 r9 z; simp at z; try omega) (TxW.fr hT2 (S := [22]) ((Fr.refl _ _).up (by decide)) (by simp)) ⟨wt2, H_re2.s, (H_rw2.n (by decide)), hwl2, hws2⟩, fr_190.up (by simp)⟩)
    · have c28 := i_nlt (a := 30) (b := t) (by decide) (by omega) c28
      refine e_aloadn d_X6_takeOperator_31 rfl ?_
      refine e_callRVV d_X6_takeOperator_32 l_X6_takeOperator_128 H_re rfl rfl (s_X6_takeBinary (t := t) (L := L) (at_ := at_) (st := st) (sta := 4) (kin := kd (nc - 1)) (sA := false) (cm := false) (op := nO [(1, w)] + n) (br := 0) (ws := (List.replicate n 31 ++ flat [(1, w)])) ⟨wt, H_re, H_rw, hwl, hws⟩ (TxW.fr hT (S := [22]) (by first | exact Fr.refl _ _ | exact (Fr.refl _ _).up (by decide) | exact ((Fr.refl _ _).up (by decide)).up (by decide)) (by simp)) h0 hto hx9 ho9 (by omega) (sdr_room (rkc_le t (by omega)) (by omega))) rfl rfl (Nat.le_of_ble_eq_true rfl) (fun h_32 q_32 s_32 => ?_)
      obtain ⟨hR2, hT2, fr_32⟩ := q_32
      refine e_gt d_X6_takeOperator_35 ?_
      exact e_vret d_X6_takeOperator_206 rfl (⟨rfl, opr_1 (n := n) (Or.inr (Or.inr ⟨hw, Or.inl ⟨hk, rfl, rfl⟩⟩)) (by omega) (by omega) (by omega) hT2 (by first | exact hR2 | (rw [hnP]; exact hR2) | (rw [hnP, hcB]; exact hR2)), fr_32⟩)

theorem s_X6_takeOperator_4 {h : AH} {t n tp nc : Nat} {w : List Nat} {r : LV} {kd : Nat → Nat} {cdc : Nat → List Nat} {my ne : Int32} {L : Nat} {at_ st : Int32} (hT : TxW h tp nc kd cdc my ne) (hR : RdW h tp L at_ st (nI t) 4 (kd (nc - 1)) false false (List.replicate n 31 ++ flat ((4, w) :: r)) (nO ((4, w) :: r) + n) 0) (hw : vS w) (hk : ¬ kd (nc - 1) = 16) (hE : shE r) (hO : nO ((4, w) :: r) ≤ 8) (h0 : 0 < nc) (hto : tot cdc nc + (List.replicate n 31 ++ flat ((4, w) :: r)).length ≤ 300) (hkk : kd (nc - 1) < 100) (ht : t < 20000) : Sp M_X6_takeOperator (0, 0) h [.ref 22] (rV (fun h' => RCq h' tp L at_ st (nI t) (gOperator t ((4, w) :: r) nc kd (cdA cdc nc (List.replicate n 31)) my ne) ∧ Fr [22, 23, 42 + 4 * tp, 43 + 4 * tp, 44 + 4 * tp, 45 + 4 * tp] h h')) := by
  refine ⟨Nat.le_of_ble_eq_true rfl, ?_⟩
  show E _ _ _ 0 h [some (.ref 22), none] []
  obtain ⟨wt, H_re, H_rw, hwl, hws⟩ := id hR
  have hI : shI (kd (nc - 1)) ((4, w) :: r) := Or.inr (Or.inr ⟨hw, Or.inr ⟨hk, Or.inl rfl, hE⟩⟩)
  have hfl9 := flat_len hI
  have hfx9 := flI hI
  have hx9 : ∀ x, x ∈ (List.replicate n 31 ++ flat ((4, w) :: r)) → x < 100 := fun x hx => by
    rcases List.mem_append.mp hx with q | q
    · rw [List.eq_of_mem_replicate q]; decide
    · exact hfx9.1 x q
  have ho9 : cnO (List.replicate n 31 ++ flat ((4, w) :: r)) ≤ nO ((4, w) :: r) + n := by
    rw [cnO_app, cnO_rep]; omega
  have hlen9 : (List.replicate n 31 ++ flat ((4, w) :: r)).length ≤ 32 := hwl
  have hsl9 : ∀ q, (sdr (rkc t) (List.replicate q 31)).length ≤ q := fun q => by have := sdr_len (rkc t) (List.replicate q 31); simpa using this
  have hnP : nP ((4, w) :: r) = 0 := nP_0 hE (by omega)
  have hcB : cmB ((4, w) :: r) = false := cm_4 hE
  refine e_aloadn d_X6_takeOperator_0 rfl ?_
  refine e_get d_X6_takeOperator_1 f_X6_97 H_re rfl ?_
  refine e_if_le d_X6_takeOperator_4 (fun _ => ?_) (fun z => by first | exact absurd (by decide) z | exact absurd z (by decide))
  refine e_iconst (v := 0) d_X6_takeOperator_11 (by decide) ?_
  refine e_istoren d_X6_takeOperator_12 (by decide) rfl ?_
  refine e_aloadn d_X6_takeOperator_13 rfl ?_
  refine e_get d_X6_takeOperator_14 f_X6_52 H_re rfl ?_
  refine e_bipush (v := 27) d_X6_takeOperator_17 (by decide) ?_
  refine e_icmp_lt d_X6_takeOperator_19 (fun c19 => ?_) (fun c19 => ?_)
  · have c19 := i_lt (a := t) (b := 27) (by omega) (by decide) c19
    refine e_iloadn d_X6_takeOperator_38 rfl ?_
    refine e_if_eq d_X6_takeOperator_39 (fun _ => ?_) (fun z => by first | exact absurd (rfl) z | exact absurd z (rfl))
    refine e_iloadn d_X6_takeOperator_58 rfl ?_
    refine e_if_ne d_X6_takeOperator_59 (fun z => by first | exact absurd (fun z => z rfl) z | exact absurd z (fun z => z rfl)) (fun _ => ?_)
    refine e_aloadn d_X6_takeOperator_62 rfl ?_
    refine e_get d_X6_takeOperator_63 f_X6_85 H_re rfl ?_
    refine e_bipush (v := 16) d_X6_takeOperator_66 (by decide) ?_
    refine e_icmp_eq d_X6_takeOperator_68 (fun z => by first | exact absurd (fun z => hk ((nI_eq (b := 16) (by omega) (by decide)).mp z)) z | exact absurd z (fun z => hk ((nI_eq (b := 16) (by omega) (by decide)).mp z))) (fun _ => ?_)
    refine e_aloadn d_X6_takeOperator_71 rfl ?_
    refine e_get d_X6_takeOperator_72 f_X6_104 H_re rfl ?_
    refine e_if_ne d_X6_takeOperator_75 (fun z => by first | exact absurd (fun z => z rfl) z | exact absurd z (fun z => z rfl)) (fun _ => ?_)
    refine e_aloadn d_X6_takeOperator_78 rfl ?_
    refine e_get d_X6_takeOperator_79 f_X6_52 H_re rfl ?_
    refine e_bipush (v := 21) d_X6_takeOperator_82 (by decide) ?_
    refine e_icmp_lt d_X6_takeOperator_84 (fun c84 => ?_) (fun c84 => ?_)
    · have c84 := i_lt (a := t) (b := 21) (by omega) (by decide) c84
      refine e_iloadn d_X6_takeOperator_108 rfl ?_
      refine e_if_ne d_X6_takeOperator_109 (fun z => by first | exact absurd (fun z => z rfl) z | exact absurd z (fun z => z rfl)) (fun _ => ?_)
      refine e_aloadn d_X6_takeOperator_112 rfl ?_
      refine e_get d_X6_takeOperator_113 f_X6_104 H_re rfl ?_
      refine e_if_eq d_X6_takeOperator_116 (fun _ => ?_) (fun z => by first | exact absurd (rfl) z | exact absurd z (rfl))
      refine e_iloadn d_X6_takeOperator_154 rfl ?_
      refine e_if_ne d_X6_takeOperator_155 (fun z => by first | exact absurd (fun z => z rfl) z | exact absurd z (fun z => z rfl)) (fun _ => ?_)
      refine e_aloadn d_X6_takeOperator_158 rfl ?_
      refine e_get d_X6_takeOperator_159 f_X6_104 H_re rfl ?_
      refine e_aloadn d_X6_takeOperator_162 rfl ?_
      refine e_get d_X6_takeOperator_163 f_X6_85 H_re rfl ?_
      refine e_bipush (v := 16) d_X6_takeOperator_166 (by decide) ?_
      refine e_icmp_eq d_X6_takeOperator_168 (fun z => by first | exact absurd (fun z => hk ((nI_eq (b := 16) (by omega) (by decide)).mp z)) z | exact absurd z (fun z => hk ((nI_eq (b := 16) (by omega) (by decide)).mp z))) (fun _ => ?_)
      refine e_iconst (v := 1) d_X6_takeOperator_171 (by decide) ?_
      refine e_gt d_X6_takeOperator_172 ?_
      refine e_icmp_ne d_X6_takeOperator_176 (fun _ => ?_) (fun z => by first | exact absurd (by decide) z | exact absurd z (by decide))
      refine e_aloadn d_X6_takeOperator_201 rfl ?_
      refine e_iconst (v := 1) d_X6_takeOperator_202 (by decide) ?_
      have hg : (gOperator t ((4, w) :: r) nc kd (cdA cdc nc (List.replicate n 31)) my ne).1 = 1 := by
        simp only [gOperator]
        rw [if_neg (by omega), if_neg (by omega), if_pos trivial, if_neg (by omega)]
      refine e_callRVV d_X6_takeOperator_203 l_X6_takeOperator_73 H_re rfl rfl (s_X6_fail (q := 1) H_re H_rw) rfl rfl (Nat.le_of_ble_eq_true rfl) (fun h_203 q_203 s_203 => ?_)
      exact e_vret d_X6_takeOperator_206 rfl (⟨rfl, RCq_bad hg (by decide) q_203.1 (TxW.fr hT q_203.2 (by simp)).b, q_203.2.mono (by simp)⟩)
    · have c84 := i_nlt (a := t) (b := 21) (by omega) (by decide) c84
      refine e_aloadn d_X6_takeOperator_87 rfl ?_
      refine e_get d_X6_takeOperator_88 f_X6_52 H_re rfl ?_
      refine e_bipush (v := 26) d_X6_takeOperator_91 (by decide) ?_
      refine e_icmp_gt d_X6_takeOperator_93 (fun c93 => ?_) (fun c93 => ?_)
      · have c93 := i_lt (a := 26) (b := t) (by decide) (by omega) c93
        refine e_iloadn d_X6_takeOperator_108 rfl ?_
        refine e_if_ne d_X6_takeOperator_109 (fun z => by first | exact absurd (fun z => z rfl) z | exact absurd z (fun z => z rfl)) (fun _ => ?_)
        refine e_aloadn d_X6_takeOperator_112 rfl ?_
        refine e_get d_X6_takeOperator_113 f_X6_104 H_re rfl ?_
        refine e_if_eq d_X6_takeOperator_116 (fun _ => ?_) (fun z => by first | exact absurd (rfl) z | exact absurd z (rfl))
        refine e_iloadn d_X6_takeOperator_154 rfl ?_
        refine e_if_ne d_X6_takeOperator_155 (fun z => by first | exact absurd (fun z => z rfl) z | exact absurd z (fun z => z rfl)) (fun _ => ?_)
        refine e_aloadn d_X6_takeOperator_158 rfl ?_
        refine e_get d_X6_takeOperator_159 f_X6_104 H_re rfl ?_
        refine e_aloadn d_X6_takeOperator_162 rfl ?_
        refine e_get d_X6_takeOperator_163 f_X6_85 H_re rfl ?_
        refine e_bipush (v := 16) d_X6_takeOperator_166 (by decide) ?_
        refine e_icmp_eq d_X6_takeOperator_168 (fun z => by first | exact absurd (fun z => hk ((nI_eq (b := 16) (by omega) (by decide)).mp z)) z | exact absurd z (fun z => hk ((nI_eq (b := 16) (by omega) (by decide)).mp z))) (fun _ => ?_)
        refine e_iconst (v := 1) d_X6_takeOperator_171 (by decide) ?_
        refine e_gt d_X6_takeOperator_172 ?_
        refine e_icmp_ne d_X6_takeOperator_176 (fun _ => ?_) (fun z => by first | exact absurd (by decide) z | exact absurd z (by decide))
        refine e_aloadn d_X6_takeOperator_201 rfl ?_
        refine e_iconst (v := 1) d_X6_takeOperator_202 (by decide) ?_
        have hg : (gOperator t ((4, w) :: r) nc kd (cdA cdc nc (List.replicate n 31)) my ne).1 = 1 := by
          simp only [gOperator]
          rw [if_neg (by omega), if_neg (by omega), if_pos trivial, if_neg (by omega)]
        refine e_callRVV d_X6_takeOperator_203 l_X6_takeOperator_73 H_re rfl rfl (s_X6_fail (q := 1) H_re H_rw) rfl rfl (Nat.le_of_ble_eq_true rfl) (fun h_203 q_203 s_203 => ?_)
        exact e_vret d_X6_takeOperator_206 rfl (⟨rfl, RCq_bad hg (by decide) q_203.1 (TxW.fr hT q_203.2 (by simp)).b, q_203.2.mono (by simp)⟩)
      · have c93 := i_nlt (a := 26) (b := t) (by decide) (by omega) c93
        refine e_aloadn d_X6_takeOperator_96 rfl ?_
        refine e_iconst (v := 1) d_X6_takeOperator_97 (by decide) ?_
        refine e_putz d_X6_takeOperator_98 f_X6_104 (Or.inr rfl) H_re (Nat.le_of_ble_eq_true rfl) ?_
        refine e_aloadn d_X6_takeOperator_101 rfl ?_
        refine e_callRVV d_X6_takeOperator_102 l_X6_takeOperator_128 H_re.s rfl rfl (s_X6_takeBinary (t := t) (L := L) (at_ := at_) (st := st) (sta := 4) (kin := kd (nc - 1)) (sA := false) (cm := true) (op := nO ((4, w) :: r) + n) (br := 0) (ws := (List.replicate n 31 ++ flat ((4, w) :: r))) ⟨wt, H_re.s, (H_rw.n (by decide)), hwl, hws⟩ (TxW.fr hT (S := [22]) (by first | exact Fr.refl _ _ | exact (Fr.refl _ _).up (by decide) | exact ((Fr.refl _ _).up (by decide)).up (by decide)) (by simp)) h0 hto hx9 ho9 (by omega) (sdr_room (rkc_le t (by omega)) (by omega))) rfl rfl (Nat.le_of_ble_eq_true rfl) (fun h_102 q_102 s_102 => ?_)
        obtain ⟨hR2, hT2, fr_102⟩ := q_102
        refine e_gt d_X6_takeOperator_105 ?_
        exact e_vret d_X6_takeOperator_206 rfl (⟨rfl, opr_3 hw hE (by omega) (by omega) hT2 (by first | exact hR2 | (rw [hnP]; exact hR2) | (rw [hnP, hcB]; exact hR2)), (((Fr.refl [22, 23, 42 + 4 * tp, 43 + 4 * tp, 44 + 4 * tp, 45 + 4 * tp] _).up (by simp)).trans fr_102)⟩)
  · have c19 := i_nlt (a := t) (b := 27) (by omega) (by decide) c19
    refine e_aloadn d_X6_takeOperator_22 rfl ?_
    refine e_get d_X6_takeOperator_23 f_X6_52 H_re rfl ?_
    refine e_bipush (v := 30) d_X6_takeOperator_26 (by decide) ?_
    refine e_icmp_gt d_X6_takeOperator_28 (fun c28 => ?_) (fun c28 => ?_)
    · have c28 := i_lt (a := 30) (b := t) (by decide) (by omega) c28
      refine e_iloadn d_X6_takeOperator_38 rfl ?_
      refine e_if_eq d_X6_takeOperator_39 (fun _ => ?_) (fun z => by first | exact absurd (rfl) z | exact absurd z (rfl))
      refine e_iloadn d_X6_takeOperator_58 rfl ?_
      refine e_if_ne d_X6_takeOperator_59 (fun z => by first | exact absurd (fun z => z rfl) z | exact absurd z (fun z => z rfl)) (fun _ => ?_)
      refine e_aloadn d_X6_takeOperator_62 rfl ?_
      refine e_get d_X6_takeOperator_63 f_X6_85 H_re rfl ?_
      refine e_bipush (v := 16) d_X6_takeOperator_66 (by decide) ?_
      refine e_icmp_eq d_X6_takeOperator_68 (fun z => by first | exact absurd (fun z => hk ((nI_eq (b := 16) (by omega) (by decide)).mp z)) z | exact absurd z (fun z => hk ((nI_eq (b := 16) (by omega) (by decide)).mp z))) (fun _ => ?_)
      refine e_aloadn d_X6_takeOperator_71 rfl ?_
      refine e_get d_X6_takeOperator_72 f_X6_104 H_re rfl ?_
      refine e_if_ne d_X6_takeOperator_75 (fun z => by first | exact absurd (fun z => z rfl) z | exact absurd z (fun z => z rfl)) (fun _ => ?_)
      refine e_aloadn d_X6_takeOperator_78 rfl ?_
      refine e_get d_X6_takeOperator_79 f_X6_52 H_re rfl ?_
      refine e_bipush (v := 21) d_X6_takeOperator_82 (by decide) ?_
      refine e_icmp_lt d_X6_takeOperator_84 (fun c84 => ?_) (fun c84 => ?_)
      · have c84 := i_lt (a := t) (b := 21) (by omega) (by decide) c84
        refine e_iloadn d_X6_takeOperator_108 rfl ?_
        refine e_if_ne d_X6_takeOperator_109 (fun z => by first | exact absurd (fun z => z rfl) z | exact absurd z (fun z => z rfl)) (fun _ => ?_)
        refine e_aloadn d_X6_takeOperator_112 rfl ?_
        refine e_get d_X6_takeOperator_113 f_X6_104 H_re rfl ?_
        refine e_if_eq d_X6_takeOperator_116 (fun _ => ?_) (fun z => by first | exact absurd (rfl) z | exact absurd z (rfl))
        refine e_iloadn d_X6_takeOperator_154 rfl ?_
        refine e_if_ne d_X6_takeOperator_155 (fun z => by first | exact absurd (fun z => z rfl) z | exact absurd z (fun z => z rfl)) (fun _ => ?_)
        refine e_aloadn d_X6_takeOperator_158 rfl ?_
        refine e_get d_X6_takeOperator_159 f_X6_104 H_re rfl ?_
        refine e_aloadn d_X6_takeOperator_162 rfl ?_
        refine e_get d_X6_takeOperator_163 f_X6_85 H_re rfl ?_
        refine e_bipush (v := 16) d_X6_takeOperator_166 (by decide) ?_
        refine e_icmp_eq d_X6_takeOperator_168 (fun z => by first | exact absurd (fun z => hk ((nI_eq (b := 16) (by omega) (by decide)).mp z)) z | exact absurd z (fun z => hk ((nI_eq (b := 16) (by omega) (by decide)).mp z))) (fun _ => ?_)
        refine e_iconst (v := 1) d_X6_takeOperator_171 (by decide) ?_
        refine e_gt d_X6_takeOperator_172 ?_
        refine e_icmp_ne d_X6_takeOperator_176 (fun _ => ?_) (fun z => by first | exact absurd (by decide) z | exact absurd z (by decide))
        refine e_aloadn d_X6_takeOperator_201 rfl ?_
        refine e_iconst (v := 1) d_X6_takeOperator_202 (by decide) ?_
        have hg : (gOperator t ((4, w) :: r) nc kd (cdA cdc nc (List.replicate n 31)) my ne).1 = 1 := by
          simp only [gOperator]
          rw [if_neg (by omega), if_neg (by omega), if_pos trivial, if_neg (by omega)]
        refine e_callRVV d_X6_takeOperator_203 l_X6_takeOperator_73 H_re rfl rfl (s_X6_fail (q := 1) H_re H_rw) rfl rfl (Nat.le_of_ble_eq_true rfl) (fun h_203 q_203 s_203 => ?_)
        exact e_vret d_X6_takeOperator_206 rfl (⟨rfl, RCq_bad hg (by decide) q_203.1 (TxW.fr hT q_203.2 (by simp)).b, q_203.2.mono (by simp)⟩)
      · have c84 := i_nlt (a := t) (b := 21) (by omega) (by decide) c84
        refine e_aloadn d_X6_takeOperator_87 rfl ?_
        refine e_get d_X6_takeOperator_88 f_X6_52 H_re rfl ?_
        refine e_bipush (v := 26) d_X6_takeOperator_91 (by decide) ?_
        refine e_icmp_gt d_X6_takeOperator_93 (fun c93 => ?_) (fun c93 => ?_)
        · have c93 := i_lt (a := 26) (b := t) (by decide) (by omega) c93
          refine e_iloadn d_X6_takeOperator_108 rfl ?_
          refine e_if_ne d_X6_takeOperator_109 (fun z => by first | exact absurd (fun z => z rfl) z | exact absurd z (fun z => z rfl)) (fun _ => ?_)
          refine e_aloadn d_X6_takeOperator_112 rfl ?_
          refine e_get d_X6_takeOperator_113 f_X6_104 H_re rfl ?_
          refine e_if_eq d_X6_takeOperator_116 (fun _ => ?_) (fun z => by first | exact absurd (rfl) z | exact absurd z (rfl))
          refine e_iloadn d_X6_takeOperator_154 rfl ?_
          refine e_if_ne d_X6_takeOperator_155 (fun z => by first | exact absurd (fun z => z rfl) z | exact absurd z (fun z => z rfl)) (fun _ => ?_)
          refine e_aloadn d_X6_takeOperator_158 rfl ?_
          refine e_get d_X6_takeOperator_159 f_X6_104 H_re rfl ?_
          refine e_aloadn d_X6_takeOperator_162 rfl ?_
          refine e_get d_X6_takeOperator_163 f_X6_85 H_re rfl ?_
          refine e_bipush (v := 16) d_X6_takeOperator_166 (by decide) ?_
          refine e_icmp_eq d_X6_takeOperator_168 (fun z => by first | exact absurd (fun z => hk ((nI_eq (b := 16) (by omega) (by decide)).mp z)) z | exact absurd z (fun z => hk ((nI_eq (b := 16) (by omega) (by decide)).mp z))) (fun _ => ?_)
          refine e_iconst (v := 1) d_X6_takeOperator_171 (by decide) ?_
          refine e_gt d_X6_takeOperator_172 ?_
          refine e_icmp_ne d_X6_takeOperator_176 (fun _ => ?_) (fun z => by first | exact absurd (by decide) z | exact absurd z (by decide))
          refine e_aloadn d_X6_takeOperator_201 rfl ?_
          refine e_iconst (v := 1) d_X6_takeOperator_202 (by decide) ?_
          have hg : (gOperator t ((4, w) :: r) nc kd (cdA cdc nc (List.replicate n 31)) my ne).1 = 1 := by
            simp only [gOperator]
            rw [if_neg (by omega), if_neg (by omega), if_pos trivial, if_neg (by omega)]
          refine e_callRVV d_X6_takeOperator_203 l_X6_takeOperator_73 H_re rfl rfl (s_X6_fail (q := 1) H_re H_rw) rfl rfl (Nat.le_of_ble_eq_true rfl) (fun h_203 q_203 s_203 => ?_)
          exact e_vret d_X6_takeOperator_206 rfl (⟨rfl, RCq_bad hg (by decide) q_203.1 (TxW.fr hT q_203.2 (by simp)).b, q_203.2.mono (by simp)⟩)
        · have c93 := i_nlt (a := 26) (b := t) (by decide) (by omega) c93
          refine e_aloadn d_X6_takeOperator_96 rfl ?_
          refine e_iconst (v := 1) d_X6_takeOperator_97 (by decide) ?_
          refine e_putz d_X6_takeOperator_98 f_X6_104 (Or.inr rfl) H_re (Nat.le_of_ble_eq_true rfl) ?_
          refine e_aloadn d_X6_takeOperator_101 rfl ?_
          refine e_callRVV d_X6_takeOperator_102 l_X6_takeOperator_128 H_re.s rfl rfl (s_X6_takeBinary (t := t) (L := L) (at_ := at_) (st := st) (sta := 4) (kin := kd (nc - 1)) (sA := false) (cm := true) (op := nO ((4, w) :: r) + n) (br := 0) (ws := (List.replicate n 31 ++ flat ((4, w) :: r))) ⟨wt, H_re.s, (H_rw.n (by decide)), hwl, hws⟩ (TxW.fr hT (S := [22]) (by first | exact Fr.refl _ _ | exact (Fr.refl _ _).up (by decide) | exact ((Fr.refl _ _).up (by decide)).up (by decide)) (by simp)) h0 hto hx9 ho9 (by omega) (sdr_room (rkc_le t (by omega)) (by omega))) rfl rfl (Nat.le_of_ble_eq_true rfl) (fun h_102 q_102 s_102 => ?_)
          obtain ⟨hR2, hT2, fr_102⟩ := q_102
          refine e_gt d_X6_takeOperator_105 ?_
          exact e_vret d_X6_takeOperator_206 rfl (⟨rfl, opr_3 hw hE (by omega) (by omega) hT2 (by first | exact hR2 | (rw [hnP]; exact hR2) | (rw [hnP, hcB]; exact hR2)), (((Fr.refl [22, 23, 42 + 4 * tp, 43 + 4 * tp, 44 + 4 * tp, 45 + 4 * tp] _).up (by simp)).trans fr_102)⟩)
    · have c28 := i_nlt (a := 30) (b := t) (by decide) (by omega) c28
      refine e_aloadn d_X6_takeOperator_31 rfl ?_
      refine e_callRVV d_X6_takeOperator_32 l_X6_takeOperator_128 H_re rfl rfl (s_X6_takeBinary (t := t) (L := L) (at_ := at_) (st := st) (sta := 4) (kin := kd (nc - 1)) (sA := false) (cm := false) (op := nO ((4, w) :: r) + n) (br := 0) (ws := (List.replicate n 31 ++ flat ((4, w) :: r))) ⟨wt, H_re, H_rw, hwl, hws⟩ (TxW.fr hT (S := [22]) (by first | exact Fr.refl _ _ | exact (Fr.refl _ _).up (by decide) | exact ((Fr.refl _ _).up (by decide)).up (by decide)) (by simp)) h0 hto hx9 ho9 (by omega) (sdr_room (rkc_le t (by omega)) (by omega))) rfl rfl (Nat.le_of_ble_eq_true rfl) (fun h_32 q_32 s_32 => ?_)
      obtain ⟨hR2, hT2, fr_32⟩ := q_32
      refine e_gt d_X6_takeOperator_35 ?_
      exact e_vret d_X6_takeOperator_206 rfl (⟨rfl, opr_1 (n := n) (Or.inr (Or.inr ⟨hw, Or.inr ⟨hk, Or.inl rfl, hE⟩⟩)) (by omega) (by omega) (by omega) hT2 (by first | exact hR2 | (rw [hnP]; exact hR2) | (rw [hnP, hcB]; exact hR2)), fr_32⟩)

theorem s_X6_takeOperator_c {h : AH} {t n f tp nc : Nat} {w : List Nat} {r : LV} {kd : Nat → Nat} {cdc : Nat → List Nat} {my ne : Int32} {L : Nat} {at_ st : Int32} (hT : TxW h tp nc kd cdc my ne) (hR : RdW h tp L at_ st (nI t) 4 (kd (nc - 1)) false true (List.replicate n 31 ++ flat ((f, w) :: r)) (nO ((f, w) :: r) + n) 0) (hw : vS w) (hk : ¬ kd (nc - 1) = 16) (hE : shE r) (hf : 21 ≤ f ∧ f ≤ 26) (hO : nO ((f, w) :: r) ≤ 8) (h0 : 0 < nc) (hto : tot cdc nc + (List.replicate n 31 ++ flat ((f, w) :: r)).length ≤ 300) (hkk : kd (nc - 1) < 100) (ht : t < 20000) : Sp M_X6_takeOperator (0, 0) h [.ref 22] (rV (fun h' => RCq h' tp L at_ st (nI t) (gOperator t ((f, w) :: r) nc kd (cdA cdc nc (List.replicate n 31)) my ne) ∧ Fr [22, 23, 42 + 4 * tp, 43 + 4 * tp, 44 + 4 * tp, 45 + 4 * tp] h h')) := by
  refine ⟨Nat.le_of_ble_eq_true rfl, ?_⟩
  show E _ _ _ 0 h [some (.ref 22), none] []
  obtain ⟨wt, H_re, H_rw, hwl, hws⟩ := id hR
  have hI : shI (kd (nc - 1)) ((f, w) :: r) := Or.inr (Or.inr ⟨hw, Or.inr ⟨hk, Or.inr hf, hE⟩⟩)
  have hfl9 := flat_len hI
  have hfx9 := flI hI
  have hx9 : ∀ x, x ∈ (List.replicate n 31 ++ flat ((f, w) :: r)) → x < 100 := fun x hx => by
    rcases List.mem_append.mp hx with q | q
    · rw [List.eq_of_mem_replicate q]; decide
    · exact hfx9.1 x q
  have ho9 : cnO (List.replicate n 31 ++ flat ((f, w) :: r)) ≤ nO ((f, w) :: r) + n := by
    rw [cnO_app, cnO_rep]; omega
  have hlen9 : (List.replicate n 31 ++ flat ((f, w) :: r)).length ≤ 32 := hwl
  have hsl9 : ∀ q, (sdr (rkc t) (List.replicate q 31)).length ≤ q := fun q => by have := sdr_len (rkc t) (List.replicate q 31); simpa using this
  have hnP : nP ((f, w) :: r) = 0 := nP_0 hE (by omega)
  have hcB : cmB ((f, w) :: r) = true := cm_c hf.1
  refine e_aloadn d_X6_takeOperator_0 rfl ?_
  refine e_get d_X6_takeOperator_1 f_X6_97 H_re rfl ?_
  refine e_if_le d_X6_takeOperator_4 (fun _ => ?_) (fun z => by first | exact absurd (by decide) z | exact absurd z (by decide))
  refine e_iconst (v := 0) d_X6_takeOperator_11 (by decide) ?_
  refine e_istoren d_X6_takeOperator_12 (by decide) rfl ?_
  refine e_aloadn d_X6_takeOperator_13 rfl ?_
  refine e_get d_X6_takeOperator_14 f_X6_52 H_re rfl ?_
  refine e_bipush (v := 27) d_X6_takeOperator_17 (by decide) ?_
  refine e_icmp_lt d_X6_takeOperator_19 (fun c19 => ?_) (fun c19 => ?_)
  · have c19 := i_lt (a := t) (b := 27) (by omega) (by decide) c19
    refine e_iloadn d_X6_takeOperator_38 rfl ?_
    refine e_if_eq d_X6_takeOperator_39 (fun _ => ?_) (fun z => by first | exact absurd (rfl) z | exact absurd z (rfl))
    refine e_iloadn d_X6_takeOperator_58 rfl ?_
    refine e_if_ne d_X6_takeOperator_59 (fun z => by first | exact absurd (fun z => z rfl) z | exact absurd z (fun z => z rfl)) (fun _ => ?_)
    refine e_aloadn d_X6_takeOperator_62 rfl ?_
    refine e_get d_X6_takeOperator_63 f_X6_85 H_re rfl ?_
    refine e_bipush (v := 16) d_X6_takeOperator_66 (by decide) ?_
    refine e_icmp_eq d_X6_takeOperator_68 (fun z => by first | exact absurd (fun z => hk ((nI_eq (b := 16) (by omega) (by decide)).mp z)) z | exact absurd z (fun z => hk ((nI_eq (b := 16) (by omega) (by decide)).mp z))) (fun _ => ?_)
    refine e_aloadn d_X6_takeOperator_71 rfl ?_
    refine e_get d_X6_takeOperator_72 f_X6_104 H_re rfl ?_
    refine e_if_ne d_X6_takeOperator_75 (fun _ => ?_) (fun z => by first | exact absurd (by decide) z | exact absurd z (by decide))
    refine e_iloadn d_X6_takeOperator_108 rfl ?_
    refine e_if_ne d_X6_takeOperator_109 (fun z => by first | exact absurd (fun z => z rfl) z | exact absurd z (fun z => z rfl)) (fun _ => ?_)
    refine e_aloadn d_X6_takeOperator_112 rfl ?_
    refine e_get d_X6_takeOperator_113 f_X6_104 H_re rfl ?_
    refine e_if_eq d_X6_takeOperator_116 (fun z => by first | exact absurd (by decide) z | exact absurd z (by decide)) (fun _ => ?_)
    refine e_aloadn d_X6_takeOperator_119 rfl ?_
    refine e_get d_X6_takeOperator_120 f_X6_52 H_re rfl ?_
    refine e_bipush (v := 12) d_X6_takeOperator_123 (by decide) ?_
    refine e_icmp_eq d_X6_takeOperator_125 (fun c125 => ?_) (fun c125 => ?_)
    · have c125 := i_eq (a := t) (b := 12) (by omega) (by decide) c125
      refine e_aloadn d_X6_takeOperator_137 rfl ?_
      refine e_iconst (v := 0) d_X6_takeOperator_138 (by decide) ?_
      refine e_putz d_X6_takeOperator_139 f_X6_104 (Or.inl rfl) H_re (Nat.le_of_ble_eq_true rfl) ?_
      refine e_aloadn d_X6_takeOperator_142 rfl ?_
      refine e_iconst (v := 1) d_X6_takeOperator_143 (by decide) ?_
      refine e_putz d_X6_takeOperator_144 f_X6_100 (Or.inr rfl) H_re.s (Nat.le_of_ble_eq_true rfl) ?_
      refine e_aloadn d_X6_takeOperator_147 rfl ?_
      refine e_callRVV d_X6_takeOperator_148 l_X6_takeOperator_128 H_re.s.s rfl rfl (s_X6_takeBinary (t := t) (L := L) (at_ := at_) (st := st) (sta := 4) (kin := kd (nc - 1)) (sA := true) (cm := false) (op := nO ((f, w) :: r) + n) (br := 0) (ws := (List.replicate n 31 ++ flat ((f, w) :: r))) ⟨wt, H_re.s.s, ((H_rw.n (by decide)).n (by decide)), hwl, hws⟩ (TxW.fr hT (S := [22]) (by first | exact Fr.refl _ _ | exact (Fr.refl _ _).up (by decide) | exact ((Fr.refl _ _).up (by decide)).up (by decide)) (by simp)) h0 hto hx9 ho9 (by omega) (sdr_room (rkc_le t (by omega)) (by omega))) rfl rfl (Nat.le_of_ble_eq_true rfl) (fun h_148 q_148 s_148 => ?_)
      obtain ⟨hR2, hT2, fr_148⟩ := q_148
      refine e_gt d_X6_takeOperator_151 ?_
      exact e_vret d_X6_takeOperator_206 rfl (⟨rfl, opr_4 hw hE hf (by first | exact Or.inl c125 | exact Or.inr c134) hT2 (by first | exact hR2 | (rw [hnP]; exact hR2) | (rw [hnP, hcB]; exact hR2)), ((((Fr.refl [22, 23, 42 + 4 * tp, 43 + 4 * tp, 44 + 4 * tp, 45 + 4 * tp] _).up (by simp)).up (by simp)).trans fr_148)⟩)
    · have c125 : ¬ t = 12 := fun z => c125 (by rw [z]; rfl)
      refine e_aloadn d_X6_takeOperator_128 rfl ?_
      refine e_get d_X6_takeOperator_129 f_X6_52 H_re rfl ?_
      refine e_bipush (v := 13) d_X6_takeOperator_132 (by decide) ?_
      refine e_icmp_ne d_X6_takeOperator_134 (fun c134 => ?_) (fun c134 => ?_)
      · have c134 : ¬ t = 13 := fun z => c134 (by rw [z]; rfl)
        refine e_iloadn d_X6_takeOperator_154 rfl ?_
        refine e_if_ne d_X6_takeOperator_155 (fun z => by first | exact absurd (fun z => z rfl) z | exact absurd z (fun z => z rfl)) (fun _ => ?_)
        refine e_aloadn d_X6_takeOperator_158 rfl ?_
        refine e_get d_X6_takeOperator_159 f_X6_104 H_re rfl ?_
        refine e_aloadn d_X6_takeOperator_162 rfl ?_
        refine e_get d_X6_takeOperator_163 f_X6_85 H_re rfl ?_
        refine e_bipush (v := 16) d_X6_takeOperator_166 (by decide) ?_
        refine e_icmp_eq d_X6_takeOperator_168 (fun z => by first | exact absurd (fun z => hk ((nI_eq (b := 16) (by omega) (by decide)).mp z)) z | exact absurd z (fun z => hk ((nI_eq (b := 16) (by omega) (by decide)).mp z))) (fun _ => ?_)
        refine e_iconst (v := 1) d_X6_takeOperator_171 (by decide) ?_
        refine e_gt d_X6_takeOperator_172 ?_
        refine e_icmp_ne d_X6_takeOperator_176 (fun z => by first | exact absurd (fun z => z rfl) z | exact absurd z (fun z => z rfl)) (fun _ => ?_)
        refine e_aloadn d_X6_takeOperator_179 rfl ?_
        refine e_get d_X6_takeOperator_180 f_X6_52 H_re rfl ?_
        refine e_bipush (v := 34) d_X6_takeOperator_183 (by decide) ?_
        refine e_icmp_ne d_X6_takeOperator_185 (fun c185 => ?_) (fun c185 => ?_)
        · have c185 : ¬ t = 34 := fun z => c185 (by rw [z]; rfl)
          refine e_aloadn d_X6_takeOperator_201 rfl ?_
          refine e_iconst (v := 1) d_X6_takeOperator_202 (by decide) ?_
          have hg : (gOperator t ((f, w) :: r) nc kd (cdA cdc nc (List.replicate n 31)) my ne).1 = 1 := by
            simp only [gOperator]
            rw [if_neg (by omega), if_neg (by omega), if_neg (by omega), if_neg (by omega)]
            obtain ⟨e9, g1, -⟩ := unt_ok hE
            simp only [gAsk, g1]
            rw [if_neg (by omega), if_neg (by omega)]
          refine e_callRVV d_X6_takeOperator_203 l_X6_takeOperator_73 H_re rfl rfl (s_X6_fail (q := 1) H_re H_rw) rfl rfl (Nat.le_of_ble_eq_true rfl) (fun h_203 q_203 s_203 => ?_)
          exact e_vret d_X6_takeOperator_206 rfl (⟨rfl, RCq_bad hg (by decide) q_203.1 (TxW.fr hT q_203.2 (by simp)).b, q_203.2.mono (by simp)⟩)
        · have c185 := i_eq (a := t) (b := 34) (by omega) (by decide) c185
          refine e_aloadn d_X6_takeOperator_188 rfl ?_
          refine e_iconst (v := 1) d_X6_takeOperator_189 (by decide) ?_
          refine e_callRVV d_X6_takeOperator_190 l_X6_takeOperator_134 H_re rfl rfl (s_X6_settle (r := 1) hR hT h0 hto hx9 ho9 (by decide)) rfl rfl (Nat.le_of_ble_eq_true rfl) (fun h_190 q_190 s_190 => ?_)
          obtain ⟨hR2, hT2, fr_190⟩ := q_190
          obtain ⟨wt2, H_re2, H_rw2, hwl2, hws2⟩ := id hR2
          refine e_aloadn d_X6_takeOperator_193 rfl ?_
          refine e_iconst (v := 0) d_X6_takeOperator_194 (by decide) ?_
          refine e_puti d_X6_takeOperator_195 f_X6_31 H_re2 (Nat.le_of_ble_eq_true rfl) ?_
          refine e_gt d_X6_takeOperator_198 ?_
          exact e_vret d_X6_takeOperator_206 rfl (⟨rfl, by subst c185; exact opr_5 (n := n) (⟨hw, Or.inr ⟨hk, Or.inr hf, hE⟩⟩) (by intro w9 r9 z; simp at z; try omega) (TxW.fr hT2 (S := [22]) ((Fr.refl _ _).up (by decide)) (by simp)) ⟨wt2, H_re2.s, (H_rw2.n (by decide)), hwl2, hws2⟩, fr_190.up (by simp)⟩)
      · have c134 := i_eq (a := t) (b := 13) (by omega) (by decide) c134
        refine e_aloadn d_X6_takeOperator_137 rfl ?_
        refine e_iconst (v := 0) d_X6_takeOperator_138 (by decide) ?_
        refine e_putz d_X6_takeOperator_139 f_X6_104 (Or.inl rfl) H_re (Nat.le_of_ble_eq_true rfl) ?_
        refine e_aloadn d_X6_takeOperator_142 rfl ?_
        refine e_iconst (v := 1) d_X6_takeOperator_143 (by decide) ?_
        refine e_putz d_X6_takeOperator_144 f_X6_100 (Or.inr rfl) H_re.s (Nat.le_of_ble_eq_true rfl) ?_
        refine e_aloadn d_X6_takeOperator_147 rfl ?_
        refine e_callRVV d_X6_takeOperator_148 l_X6_takeOperator_128 H_re.s.s rfl rfl (s_X6_takeBinary (t := t) (L := L) (at_ := at_) (st := st) (sta := 4) (kin := kd (nc - 1)) (sA := true) (cm := false) (op := nO ((f, w) :: r) + n) (br := 0) (ws := (List.replicate n 31 ++ flat ((f, w) :: r))) ⟨wt, H_re.s.s, ((H_rw.n (by decide)).n (by decide)), hwl, hws⟩ (TxW.fr hT (S := [22]) (by first | exact Fr.refl _ _ | exact (Fr.refl _ _).up (by decide) | exact ((Fr.refl _ _).up (by decide)).up (by decide)) (by simp)) h0 hto hx9 ho9 (by omega) (sdr_room (rkc_le t (by omega)) (by omega))) rfl rfl (Nat.le_of_ble_eq_true rfl) (fun h_148 q_148 s_148 => ?_)
        obtain ⟨hR2, hT2, fr_148⟩ := q_148
        refine e_gt d_X6_takeOperator_151 ?_
        exact e_vret d_X6_takeOperator_206 rfl (⟨rfl, opr_4 hw hE hf (by first | exact Or.inl c125 | exact Or.inr c134) hT2 (by first | exact hR2 | (rw [hnP]; exact hR2) | (rw [hnP, hcB]; exact hR2)), ((((Fr.refl [22, 23, 42 + 4 * tp, 43 + 4 * tp, 44 + 4 * tp, 45 + 4 * tp] _).up (by simp)).up (by simp)).trans fr_148)⟩)
  · have c19 := i_nlt (a := t) (b := 27) (by omega) (by decide) c19
    refine e_aloadn d_X6_takeOperator_22 rfl ?_
    refine e_get d_X6_takeOperator_23 f_X6_52 H_re rfl ?_
    refine e_bipush (v := 30) d_X6_takeOperator_26 (by decide) ?_
    refine e_icmp_gt d_X6_takeOperator_28 (fun c28 => ?_) (fun c28 => ?_)
    · have c28 := i_lt (a := 30) (b := t) (by decide) (by omega) c28
      refine e_iloadn d_X6_takeOperator_38 rfl ?_
      refine e_if_eq d_X6_takeOperator_39 (fun _ => ?_) (fun z => by first | exact absurd (rfl) z | exact absurd z (rfl))
      refine e_iloadn d_X6_takeOperator_58 rfl ?_
      refine e_if_ne d_X6_takeOperator_59 (fun z => by first | exact absurd (fun z => z rfl) z | exact absurd z (fun z => z rfl)) (fun _ => ?_)
      refine e_aloadn d_X6_takeOperator_62 rfl ?_
      refine e_get d_X6_takeOperator_63 f_X6_85 H_re rfl ?_
      refine e_bipush (v := 16) d_X6_takeOperator_66 (by decide) ?_
      refine e_icmp_eq d_X6_takeOperator_68 (fun z => by first | exact absurd (fun z => hk ((nI_eq (b := 16) (by omega) (by decide)).mp z)) z | exact absurd z (fun z => hk ((nI_eq (b := 16) (by omega) (by decide)).mp z))) (fun _ => ?_)
      refine e_aloadn d_X6_takeOperator_71 rfl ?_
      refine e_get d_X6_takeOperator_72 f_X6_104 H_re rfl ?_
      refine e_if_ne d_X6_takeOperator_75 (fun _ => ?_) (fun z => by first | exact absurd (by decide) z | exact absurd z (by decide))
      refine e_iloadn d_X6_takeOperator_108 rfl ?_
      refine e_if_ne d_X6_takeOperator_109 (fun z => by first | exact absurd (fun z => z rfl) z | exact absurd z (fun z => z rfl)) (fun _ => ?_)
      refine e_aloadn d_X6_takeOperator_112 rfl ?_
      refine e_get d_X6_takeOperator_113 f_X6_104 H_re rfl ?_
      refine e_if_eq d_X6_takeOperator_116 (fun z => by first | exact absurd (by decide) z | exact absurd z (by decide)) (fun _ => ?_)
      refine e_aloadn d_X6_takeOperator_119 rfl ?_
      refine e_get d_X6_takeOperator_120 f_X6_52 H_re rfl ?_
      refine e_bipush (v := 12) d_X6_takeOperator_123 (by decide) ?_
      refine e_icmp_eq d_X6_takeOperator_125 (fun c125 => ?_) (fun c125 => ?_)
      · have c125 := i_eq (a := t) (b := 12) (by omega) (by decide) c125
        refine e_aloadn d_X6_takeOperator_137 rfl ?_
        refine e_iconst (v := 0) d_X6_takeOperator_138 (by decide) ?_
        refine e_putz d_X6_takeOperator_139 f_X6_104 (Or.inl rfl) H_re (Nat.le_of_ble_eq_true rfl) ?_
        refine e_aloadn d_X6_takeOperator_142 rfl ?_
        refine e_iconst (v := 1) d_X6_takeOperator_143 (by decide) ?_
        refine e_putz d_X6_takeOperator_144 f_X6_100 (Or.inr rfl) H_re.s (Nat.le_of_ble_eq_true rfl) ?_
        refine e_aloadn d_X6_takeOperator_147 rfl ?_
        refine e_callRVV d_X6_takeOperator_148 l_X6_takeOperator_128 H_re.s.s rfl rfl (s_X6_takeBinary (t := t) (L := L) (at_ := at_) (st := st) (sta := 4) (kin := kd (nc - 1)) (sA := true) (cm := false) (op := nO ((f, w) :: r) + n) (br := 0) (ws := (List.replicate n 31 ++ flat ((f, w) :: r))) ⟨wt, H_re.s.s, ((H_rw.n (by decide)).n (by decide)), hwl, hws⟩ (TxW.fr hT (S := [22]) (by first | exact Fr.refl _ _ | exact (Fr.refl _ _).up (by decide) | exact ((Fr.refl _ _).up (by decide)).up (by decide)) (by simp)) h0 hto hx9 ho9 (by omega) (sdr_room (rkc_le t (by omega)) (by omega))) rfl rfl (Nat.le_of_ble_eq_true rfl) (fun h_148 q_148 s_148 => ?_)
        obtain ⟨hR2, hT2, fr_148⟩ := q_148
        refine e_gt d_X6_takeOperator_151 ?_
        exact e_vret d_X6_takeOperator_206 rfl (⟨rfl, opr_4 hw hE hf (by first | exact Or.inl c125 | exact Or.inr c134) hT2 (by first | exact hR2 | (rw [hnP]; exact hR2) | (rw [hnP, hcB]; exact hR2)), ((((Fr.refl [22, 23, 42 + 4 * tp, 43 + 4 * tp, 44 + 4 * tp, 45 + 4 * tp] _).up (by simp)).up (by simp)).trans fr_148)⟩)
      · have c125 : ¬ t = 12 := fun z => c125 (by rw [z]; rfl)
        refine e_aloadn d_X6_takeOperator_128 rfl ?_
        refine e_get d_X6_takeOperator_129 f_X6_52 H_re rfl ?_
        refine e_bipush (v := 13) d_X6_takeOperator_132 (by decide) ?_
        refine e_icmp_ne d_X6_takeOperator_134 (fun c134 => ?_) (fun c134 => ?_)
        · have c134 : ¬ t = 13 := fun z => c134 (by rw [z]; rfl)
          refine e_iloadn d_X6_takeOperator_154 rfl ?_
          refine e_if_ne d_X6_takeOperator_155 (fun z => by first | exact absurd (fun z => z rfl) z | exact absurd z (fun z => z rfl)) (fun _ => ?_)
          refine e_aloadn d_X6_takeOperator_158 rfl ?_
          refine e_get d_X6_takeOperator_159 f_X6_104 H_re rfl ?_
          refine e_aloadn d_X6_takeOperator_162 rfl ?_
          refine e_get d_X6_takeOperator_163 f_X6_85 H_re rfl ?_
          refine e_bipush (v := 16) d_X6_takeOperator_166 (by decide) ?_
          refine e_icmp_eq d_X6_takeOperator_168 (fun z => by first | exact absurd (fun z => hk ((nI_eq (b := 16) (by omega) (by decide)).mp z)) z | exact absurd z (fun z => hk ((nI_eq (b := 16) (by omega) (by decide)).mp z))) (fun _ => ?_)
          refine e_iconst (v := 1) d_X6_takeOperator_171 (by decide) ?_
          refine e_gt d_X6_takeOperator_172 ?_
          refine e_icmp_ne d_X6_takeOperator_176 (fun z => by first | exact absurd (fun z => z rfl) z | exact absurd z (fun z => z rfl)) (fun _ => ?_)
          refine e_aloadn d_X6_takeOperator_179 rfl ?_
          refine e_get d_X6_takeOperator_180 f_X6_52 H_re rfl ?_
          refine e_bipush (v := 34) d_X6_takeOperator_183 (by decide) ?_
          refine e_icmp_ne d_X6_takeOperator_185 (fun c185 => ?_) (fun c185 => ?_)
          · have c185 : ¬ t = 34 := fun z => c185 (by rw [z]; rfl)
            refine e_aloadn d_X6_takeOperator_201 rfl ?_
            refine e_iconst (v := 1) d_X6_takeOperator_202 (by decide) ?_
            have hg : (gOperator t ((f, w) :: r) nc kd (cdA cdc nc (List.replicate n 31)) my ne).1 = 1 := by
              simp only [gOperator]
              rw [if_neg (by omega), if_neg (by omega), if_neg (by omega), if_neg (by omega)]
              obtain ⟨e9, g1, -⟩ := unt_ok hE
              simp only [gAsk, g1]
              rw [if_neg (by omega), if_neg (by omega)]
            refine e_callRVV d_X6_takeOperator_203 l_X6_takeOperator_73 H_re rfl rfl (s_X6_fail (q := 1) H_re H_rw) rfl rfl (Nat.le_of_ble_eq_true rfl) (fun h_203 q_203 s_203 => ?_)
            exact e_vret d_X6_takeOperator_206 rfl (⟨rfl, RCq_bad hg (by decide) q_203.1 (TxW.fr hT q_203.2 (by simp)).b, q_203.2.mono (by simp)⟩)
          · have c185 := i_eq (a := t) (b := 34) (by omega) (by decide) c185
            refine e_aloadn d_X6_takeOperator_188 rfl ?_
            refine e_iconst (v := 1) d_X6_takeOperator_189 (by decide) ?_
            refine e_callRVV d_X6_takeOperator_190 l_X6_takeOperator_134 H_re rfl rfl (s_X6_settle (r := 1) hR hT h0 hto hx9 ho9 (by decide)) rfl rfl (Nat.le_of_ble_eq_true rfl) (fun h_190 q_190 s_190 => ?_)
            obtain ⟨hR2, hT2, fr_190⟩ := q_190
            obtain ⟨wt2, H_re2, H_rw2, hwl2, hws2⟩ := id hR2
            refine e_aloadn d_X6_takeOperator_193 rfl ?_
            refine e_iconst (v := 0) d_X6_takeOperator_194 (by decide) ?_
            refine e_puti d_X6_takeOperator_195 f_X6_31 H_re2 (Nat.le_of_ble_eq_true rfl) ?_
            refine e_gt d_X6_takeOperator_198 ?_
            exact e_vret d_X6_takeOperator_206 rfl (⟨rfl, by subst c185; exact opr_5 (n := n) (⟨hw, Or.inr ⟨hk, Or.inr hf, hE⟩⟩) (by intro w9 r9 z; simp at z; try omega) (TxW.fr hT2 (S := [22]) ((Fr.refl _ _).up (by decide)) (by simp)) ⟨wt2, H_re2.s, (H_rw2.n (by decide)), hwl2, hws2⟩, fr_190.up (by simp)⟩)
        · have c134 := i_eq (a := t) (b := 13) (by omega) (by decide) c134
          refine e_aloadn d_X6_takeOperator_137 rfl ?_
          refine e_iconst (v := 0) d_X6_takeOperator_138 (by decide) ?_
          refine e_putz d_X6_takeOperator_139 f_X6_104 (Or.inl rfl) H_re (Nat.le_of_ble_eq_true rfl) ?_
          refine e_aloadn d_X6_takeOperator_142 rfl ?_
          refine e_iconst (v := 1) d_X6_takeOperator_143 (by decide) ?_
          refine e_putz d_X6_takeOperator_144 f_X6_100 (Or.inr rfl) H_re.s (Nat.le_of_ble_eq_true rfl) ?_
          refine e_aloadn d_X6_takeOperator_147 rfl ?_
          refine e_callRVV d_X6_takeOperator_148 l_X6_takeOperator_128 H_re.s.s rfl rfl (s_X6_takeBinary (t := t) (L := L) (at_ := at_) (st := st) (sta := 4) (kin := kd (nc - 1)) (sA := true) (cm := false) (op := nO ((f, w) :: r) + n) (br := 0) (ws := (List.replicate n 31 ++ flat ((f, w) :: r))) ⟨wt, H_re.s.s, ((H_rw.n (by decide)).n (by decide)), hwl, hws⟩ (TxW.fr hT (S := [22]) (by first | exact Fr.refl _ _ | exact (Fr.refl _ _).up (by decide) | exact ((Fr.refl _ _).up (by decide)).up (by decide)) (by simp)) h0 hto hx9 ho9 (by omega) (sdr_room (rkc_le t (by omega)) (by omega))) rfl rfl (Nat.le_of_ble_eq_true rfl) (fun h_148 q_148 s_148 => ?_)
          obtain ⟨hR2, hT2, fr_148⟩ := q_148
          refine e_gt d_X6_takeOperator_151 ?_
          exact e_vret d_X6_takeOperator_206 rfl (⟨rfl, opr_4 hw hE hf (by first | exact Or.inl c125 | exact Or.inr c134) hT2 (by first | exact hR2 | (rw [hnP]; exact hR2) | (rw [hnP, hcB]; exact hR2)), ((((Fr.refl [22, 23, 42 + 4 * tp, 43 + 4 * tp, 44 + 4 * tp, 45 + 4 * tp] _).up (by simp)).up (by simp)).trans fr_148)⟩)
    · have c28 := i_nlt (a := 30) (b := t) (by decide) (by omega) c28
      refine e_aloadn d_X6_takeOperator_31 rfl ?_
      refine e_callRVV d_X6_takeOperator_32 l_X6_takeOperator_128 H_re rfl rfl (s_X6_takeBinary (t := t) (L := L) (at_ := at_) (st := st) (sta := 4) (kin := kd (nc - 1)) (sA := false) (cm := true) (op := nO ((f, w) :: r) + n) (br := 0) (ws := (List.replicate n 31 ++ flat ((f, w) :: r))) ⟨wt, H_re, H_rw, hwl, hws⟩ (TxW.fr hT (S := [22]) (by first | exact Fr.refl _ _ | exact (Fr.refl _ _).up (by decide) | exact ((Fr.refl _ _).up (by decide)).up (by decide)) (by simp)) h0 hto hx9 ho9 (by omega) (sdr_room (rkc_le t (by omega)) (by omega))) rfl rfl (Nat.le_of_ble_eq_true rfl) (fun h_32 q_32 s_32 => ?_)
      obtain ⟨hR2, hT2, fr_32⟩ := q_32
      refine e_gt d_X6_takeOperator_35 ?_
      exact e_vret d_X6_takeOperator_206 rfl (⟨rfl, opr_1 (n := n) (Or.inr (Or.inr ⟨hw, Or.inr ⟨hk, Or.inr hf, hE⟩⟩)) (by omega) (by omega) (by omega) hT2 (by first | exact hR2 | (rw [hnP]; exact hR2) | (rw [hnP, hcB]; exact hR2)), fr_32⟩)
