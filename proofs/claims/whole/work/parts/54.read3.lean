/-! THE READER: small steps -/
theorem if_neg_t {t : Nat} (h : ¬ t = 28) : nI t = nI (if t = 28 then 31 else t) := by rw [if_neg h]

theorem s_X6_hasName {h : AH} {tp t : Nat} {L sta kin op br : Nat} {at_ st tk : Int32} {sA cm : Bool} {ws : List Nat} (hR : RdW h tp L at_ st tk sta kin sA cm ws op br) (hk : kin ≤ 20) (ht : t < 11) : Sp M_X6_hasName (0, 0) h [.ref 22, .int (nI t)] (pI (bI (okN kin t = true)) h) := by
  refine ⟨Nat.le_of_ble_eq_true rfl, ?_⟩
  show E _ _ _ 0 h [some (.ref 22), some (.int (nI t))] []
  obtain ⟨wt, H_re, H_rw, hwl, hws⟩ := id hR
  refine e_aloadn d_X6_hasName_0 rfl ?_
  refine e_get d_X6_hasName_1 f_X6_85 H_re rfl ?_
  rcases (by omega : kin = 17 ∨ kin = 18 ∨ kin = 19 ∨ kin < 17 ∨ kin = 20) with rfl | rfl | rfl | q | rfl
  · refine e_tab d_X6_hasName_4 39 43 (by decide) (by decide) (by decide) (by decide) ?_
    refine e_iloadn d_X6_hasName_43 rfl ?_
    refine e_bipush (v := 8) d_X6_hasName_44 (by decide) ?_
    refine e_icmp_ge d_X6_hasName_46 (fun c46 => ?_) (fun c46 => ?_)
    · have c46 := i_le (a := 8) (b := t) (by decide) (by omega) c46
      refine e_iconst (v := 0) d_X6_hasName_53 (by decide) ?_
      exact e_iret d_X6_hasName_54 rfl (rfl) (⟨by first | (rw [bI_t (by unfold okN; simp; omega)]; done) | (rw [bI_f (by unfold okN; simp; omega)]; done), rfl⟩)
    · have c46 := i_nle (a := 8) (b := t) (by decide) (by omega) c46
      refine e_iconst (v := 1) d_X6_hasName_49 (by decide) ?_
      refine e_gt d_X6_hasName_50 ?_
      exact e_iret d_X6_hasName_54 rfl (rfl) (⟨by first | (rw [bI_t (by unfold okN; simp; omega)]; done) | (rw [bI_f (by unfold okN; simp; omega)]; done), rfl⟩)
  · refine e_tab d_X6_hasName_4 39 43 (by decide) (by decide) (by decide) (by decide) ?_
    refine e_iloadn d_X6_hasName_43 rfl ?_
    refine e_bipush (v := 8) d_X6_hasName_44 (by decide) ?_
    refine e_icmp_ge d_X6_hasName_46 (fun c46 => ?_) (fun c46 => ?_)
    · have c46 := i_le (a := 8) (b := t) (by decide) (by omega) c46
      refine e_iconst (v := 0) d_X6_hasName_53 (by decide) ?_
      exact e_iret d_X6_hasName_54 rfl (rfl) (⟨by first | (rw [bI_t (by unfold okN; simp; omega)]; done) | (rw [bI_f (by unfold okN; simp; omega)]; done), rfl⟩)
    · have c46 := i_nle (a := 8) (b := t) (by decide) (by omega) c46
      refine e_iconst (v := 1) d_X6_hasName_49 (by decide) ?_
      refine e_gt d_X6_hasName_50 ?_
      exact e_iret d_X6_hasName_54 rfl (rfl) (⟨by first | (rw [bI_t (by unfold okN; simp; omega)]; done) | (rw [bI_f (by unfold okN; simp; omega)]; done), rfl⟩)
  · refine e_tab d_X6_hasName_4 28 32 (by decide) (by decide) (by decide) (by decide) ?_
    refine e_iloadn d_X6_hasName_32 rfl ?_
    refine e_iconst (v := 4) d_X6_hasName_33 (by decide) ?_
    refine e_icmp_ge d_X6_hasName_34 (fun c34 => ?_) (fun c34 => ?_)
    · have c34 := i_le (a := 4) (b := t) (by decide) (by omega) c34
      refine e_iconst (v := 0) d_X6_hasName_41 (by decide) ?_
      exact e_iret d_X6_hasName_42 rfl (rfl) (⟨by first | (rw [bI_t (by unfold okN; simp; omega)]; done) | (rw [bI_f (by unfold okN; simp; omega)]; done), rfl⟩)
    · have c34 := i_nle (a := 4) (b := t) (by decide) (by omega) c34
      refine e_iconst (v := 1) d_X6_hasName_37 (by decide) ?_
      refine e_gt d_X6_hasName_38 ?_
      exact e_iret d_X6_hasName_42 rfl (rfl) (⟨by first | (rw [bI_t (by unfold okN; simp; omega)]; done) | (rw [bI_f (by unfold okN; simp; omega)]; done), rfl⟩)
  · refine e_tabD d_X6_hasName_4 55 (by rw [nI_tI kin (by omega)]; omega) (by decide) ?_
    refine e_iloadn d_X6_hasName_55 rfl ?_
    refine e_iconst (v := 4) d_X6_hasName_56 (by decide) ?_
    refine e_icmp_lt d_X6_hasName_57 (fun c57 => ?_) (fun c57 => ?_)
    · have c57 := i_lt (a := t) (b := 4) (by omega) (by decide) c57
      refine e_iconst (v := 1) d_X6_hasName_66 (by decide) ?_
      refine e_gt d_X6_hasName_67 ?_
      exact e_iret d_X6_hasName_71 rfl (rfl) (⟨by first | (rw [bI_t (by unfold okN; rw [if_neg (by omega), if_neg (by omega)]; simp; omega)]; done) | (rw [bI_f (by unfold okN; rw [if_neg (by omega), if_neg (by omega)]; simp; omega)]; done), rfl⟩)
    · have c57 := i_nlt (a := t) (b := 4) (by omega) (by decide) c57
      refine e_iloadn d_X6_hasName_60 rfl ?_
      refine e_bipush (v := 8) d_X6_hasName_61 (by decide) ?_
      refine e_icmp_lt d_X6_hasName_63 (fun c63 => ?_) (fun c63 => ?_)
      · have c63 := i_lt (a := t) (b := 8) (by omega) (by decide) c63
        refine e_iconst (v := 0) d_X6_hasName_70 (by decide) ?_
        exact e_iret d_X6_hasName_71 rfl (rfl) (⟨by first | (rw [bI_t (by unfold okN; rw [if_neg (by omega), if_neg (by omega)]; simp; omega)]; done) | (rw [bI_f (by unfold okN; rw [if_neg (by omega), if_neg (by omega)]; simp; omega)]; done), rfl⟩)
      · have c63 := i_nlt (a := t) (b := 8) (by omega) (by decide) c63
        refine e_iconst (v := 1) d_X6_hasName_66 (by decide) ?_
        refine e_gt d_X6_hasName_67 ?_
        exact e_iret d_X6_hasName_71 rfl (rfl) (⟨by first | (rw [bI_t (by unfold okN; rw [if_neg (by omega), if_neg (by omega)]; simp; omega)]; done) | (rw [bI_f (by unfold okN; rw [if_neg (by omega), if_neg (by omega)]; simp; omega)]; done), rfl⟩)
  · refine e_tabD d_X6_hasName_4 55 (by decide) (by decide) ?_
    refine e_iloadn d_X6_hasName_55 rfl ?_
    refine e_iconst (v := 4) d_X6_hasName_56 (by decide) ?_
    refine e_icmp_lt d_X6_hasName_57 (fun c57 => ?_) (fun c57 => ?_)
    · have c57 := i_lt (a := t) (b := 4) (by omega) (by decide) c57
      refine e_iconst (v := 1) d_X6_hasName_66 (by decide) ?_
      refine e_gt d_X6_hasName_67 ?_
      exact e_iret d_X6_hasName_71 rfl (rfl) (⟨by first | (rw [bI_t (by unfold okN; rw [if_neg (by omega), if_neg (by omega)]; simp; omega)]; done) | (rw [bI_f (by unfold okN; rw [if_neg (by omega), if_neg (by omega)]; simp; omega)]; done), rfl⟩)
    · have c57 := i_nlt (a := t) (b := 4) (by omega) (by decide) c57
      refine e_iloadn d_X6_hasName_60 rfl ?_
      refine e_bipush (v := 8) d_X6_hasName_61 (by decide) ?_
      refine e_icmp_lt d_X6_hasName_63 (fun c63 => ?_) (fun c63 => ?_)
      · have c63 := i_lt (a := t) (b := 8) (by omega) (by decide) c63
        refine e_iconst (v := 0) d_X6_hasName_70 (by decide) ?_
        exact e_iret d_X6_hasName_71 rfl (rfl) (⟨by first | (rw [bI_t (by unfold okN; rw [if_neg (by omega), if_neg (by omega)]; simp; omega)]; done) | (rw [bI_f (by unfold okN; rw [if_neg (by omega), if_neg (by omega)]; simp; omega)]; done), rfl⟩)
      · have c63 := i_nlt (a := t) (b := 8) (by omega) (by decide) c63
        refine e_iconst (v := 1) d_X6_hasName_66 (by decide) ?_
        refine e_gt d_X6_hasName_67 ?_
        exact e_iret d_X6_hasName_71 rfl (rfl) (⟨by first | (rw [bI_t (by unfold okN; rw [if_neg (by omega), if_neg (by omega)]; simp; omega)]; done) | (rw [bI_f (by unfold okN; rw [if_neg (by omega), if_neg (by omega)]; simp; omega)]; done), rfl⟩)

theorem s_X6_takeOne_q {h : AH} {tp t q : Nat} {L sta kin op br : Nat} {at_ st : Int32} {sA cm : Bool} {ws : List Nat} (hR : RdW h tp L at_ st (nI t) sta kin sA cm ws op br) (hq : q ≠ 0 ∧ q < 100) : Sp M_X6_takeOne (0, 0) h [.ref 22, .int (nI q)] (rV (fun h' => RdE h' q st ∧ Fr [22] h h')) := by
  refine ⟨Nat.le_of_ble_eq_true rfl, ?_⟩
  show E _ _ _ 0 h [some (.ref 22), some (.int (nI q))] []
  obtain ⟨wt, H_re, H_rw, hwl, hws⟩ := id hR
  refine e_iloadn d_X6_takeOne_0 rfl ?_
  refine e_if_eq d_X6_takeOne_1 (fun z => by first | exact absurd (fun z => absurd ((nI_eq (b := 0) (by omega) (by decide)).mp z) (by omega)) z | exact absurd z (fun z => absurd ((nI_eq (b := 0) (by omega) (by decide)).mp z) (by omega))) (fun _ => ?_)
  refine e_aloadn d_X6_takeOne_4 rfl ?_
  refine e_iloadn d_X6_takeOne_5 rfl ?_
  refine e_callRVV d_X6_takeOne_6 l_X6_takeOne_73 H_re rfl rfl (s_X6_fail (q := q) H_re H_rw) rfl rfl (Nat.le_of_ble_eq_true rfl) (fun h_6 q_6 s_6 => ?_)
  refine e_gt d_X6_takeOne_9 ?_
  exact e_vret d_X6_takeOne_28 rfl (⟨rfl, q_6⟩)

theorem s_X6_takeOne_0 {h : AH} {tp nc t : Nat} {kd : Nat → Nat} {cd : Nat → List Nat} {my ne : Int32} {L sta kin op br : Nat} {at_ st : Int32} {sA cm : Bool} {ws : List Nat} (hT : TxW h tp nc kd cd my ne) (hR : RdW h tp L at_ st (nI t) sta kin sA cm ws op br) (h0 : 0 < nc) (ht : tot cd nc + 1 ≤ 300) : Sp M_X6_takeOne (0, 0) h [.ref 22, .int 0] (rV (fun h' => TxW h' tp nc kd (cdA cd nc [t]) my ne ∧ RdW h' tp L at_ st (nI t) 4 kin sA cm ws op br ∧ Fr [22, 23, 42 + 4 * tp, 43 + 4 * tp, 44 + 4 * tp, 45 + 4 * tp] h h')) := by
  refine ⟨Nat.le_of_ble_eq_true rfl, ?_⟩
  show E _ _ _ 0 h [some (.ref 22), some (.int 0)] []
  obtain ⟨wt, H_re, H_rw, hwl, hws⟩ := id hR
  obtain ⟨hnc, kinds, edges, code, H_tx, H_tkk, H_te, H_tco, hkd, hed, hco, htot⟩ := id hT
  refine e_iloadn d_X6_takeOne_0 rfl ?_
  refine e_if_eq d_X6_takeOne_1 (fun _ => ?_) (fun z => by first | exact absurd (rfl) z | exact absurd z (rfl))
  refine e_aloadn d_X6_takeOne_12 rfl ?_
  refine e_get d_X6_takeOne_13 f_X6_40 H_re rfl ?_
  refine e_aloadn d_X6_takeOne_16 rfl ?_
  refine e_get d_X6_takeOne_17 f_X6_52 H_re rfl ?_
  refine e_callRVV d_X6_takeOne_20 l_X6_takeOne_122 H_tx rfl rfl (s_X8_emit (t := t) hT h0 ht) rfl rfl (Nat.le_of_ble_eq_true rfl) (fun h_20 q_20 s_20 => ?_)
  obtain ⟨hT2, fr_20⟩ := q_20
  have H_re := fr_20.hs H_re (by first | decide | (simp; omega))
  have H_rw := fr_20.hs H_rw (by first | decide | (simp; omega))
  refine e_aloadn d_X6_takeOne_23 rfl ?_
  refine e_iconst (v := 4) d_X6_takeOne_24 (by decide) ?_
  refine e_puti d_X6_takeOne_25 f_X6_31 H_re (Nat.le_of_ble_eq_true rfl) ?_
  exact e_vret d_X6_takeOne_28 rfl (⟨rfl, TxW.fr hT2 (S := [22]) ((Fr.refl _ _).up (by decide)) (by simp), ⟨wt, H_re.s, (H_rw.n (by decide)), hwl, hws⟩, (fr_20.mono (by simp)).up (by simp)⟩)

theorem s_X6_takeOpening_q {h : AH} {tp t : Nat} {L sta kin op br : Nat} {at_ st : Int32} {sA cm : Bool} {ws : List Nat} (hR : RdW h tp L at_ st (nI t) sta kin sA cm ws op br) (h8 : 8 ≤ op) (ho : op < 100) : Sp M_X6_takeOpening (0, 0) h [.ref 22] (rV (fun h' => RdE h' 3 st ∧ Fr [22] h h')) := by
  refine ⟨Nat.le_of_ble_eq_true rfl, ?_⟩
  show E _ _ _ 0 h [some (.ref 22)] []
  obtain ⟨wt, H_re, H_rw, hwl, hws⟩ := id hR
  refine e_aloadn d_X6_takeOpening_0 rfl ?_
  refine e_get d_X6_takeOpening_1 f_X6_94 H_re rfl ?_
  refine e_bipush (v := 8) d_X6_takeOpening_4 (by decide) ?_
  refine e_icmp_lt d_X6_takeOpening_6 (fun z => by first | exact absurd (fun z => absurd (i_lt (b := 8) (by omega) (by decide) z) (by omega)) z | exact absurd z (fun z => absurd (i_lt (b := 8) (by omega) (by decide) z) (by omega))) (fun _ => ?_)
  refine e_aloadn d_X6_takeOpening_9 rfl ?_
  refine e_iconst (v := 3) d_X6_takeOpening_10 (by decide) ?_
  refine e_callRVV d_X6_takeOpening_11 l_X6_takeOpening_73 H_re rfl rfl (s_X6_fail (q := 3) H_re H_rw) rfl rfl (Nat.le_of_ble_eq_true rfl) (fun h_11 q_11 s_11 => ?_)
  exact e_vret d_X6_takeOpening_14 rfl (⟨rfl, q_11⟩)

theorem s_X6_takeOpening_0 {h : AH} {tp t : Nat} {L sta kin op br : Nat} {at_ st : Int32} {sA cm : Bool} {ws : List Nat} (hR : RdW h tp L at_ st (nI t) sta kin sA cm ws op br) (h8 : op < 8) (hl : ws.length < 32) (ht : t < 20000) : Sp M_X6_takeOpening (0, 0) h [.ref 22] (rV (fun h' => RdW h' tp L at_ st (nI t) sta kin sA cm ((if t = 28 then 31 else t) :: ws) (op + 1) (br + (if t = 32 then 1 else 0)) ∧ Fr [22, 23] h h')) := by
  refine ⟨Nat.le_of_ble_eq_true rfl, ?_⟩
  show E _ _ _ 0 h [some (.ref 22)] []
  obtain ⟨wt, H_re, H_rw, hwl, hws⟩ := id hR
  refine e_aloadn d_X6_takeOpening_0 rfl ?_
  refine e_get d_X6_takeOpening_1 f_X6_94 H_re rfl ?_
  refine e_bipush (v := 8) d_X6_takeOpening_4 (by decide) ?_
  refine e_icmp_lt d_X6_takeOpening_6 (fun _ => ?_) (fun z => by first | exact absurd ((nI_ltI (b := 8) (by omega) (by decide)).mpr h8) z | exact absurd z ((nI_ltI (b := 8) (by omega) (by decide)).mpr h8))
  refine e_aloadn d_X6_takeOpening_15 rfl ?_
  refine e_dup d_X6_takeOpening_16 rfl ?_
  refine e_get d_X6_takeOpening_17 f_X6_94 H_re rfl ?_
  refine e_iconst (v := 1) d_X6_takeOpening_20 (by decide) ?_
  refine e_iadd d_X6_takeOpening_21 ?_
  rw [nI_1]
  refine e_puti d_X6_takeOpening_22 f_X6_94 H_re (Nat.le_of_ble_eq_true rfl) ?_
  refine e_aloadn d_X6_takeOpening_25 rfl ?_
  refine e_dup d_X6_takeOpening_26 rfl ?_
  refine e_get d_X6_takeOpening_27 f_X6_97 H_re.s rfl ?_
  refine e_aloadn d_X6_takeOpening_30 rfl ?_
  refine e_get d_X6_takeOpening_31 f_X6_52 H_re.s rfl ?_
  refine e_bipush (v := 32) d_X6_takeOpening_34 (by decide) ?_
  refine e_icmp_ne d_X6_takeOpening_36 (fun c36 => ?_) (fun c36 => ?_)
  · have c36 : ¬ t = 32 := fun z => c36 (by rw [z]; rfl)
    refine e_iconst (v := 0) d_X6_takeOpening_43 (by decide) ?_
    refine e_iadd d_X6_takeOpening_44 ?_
    have hbr : nI br + (if t = 32 then (1 : Int32) else 0) = nI (br + (if t = 32 then 1 else 0)) := by
      by_cases e : t = 32
      · rw [if_pos e, if_pos e]; exact nI_1 br
      · rw [if_neg e, if_neg e]; exact Int32.add_zero _
    first
    | (rw [if_pos c36] at hbr; rw [hbr])
    | (rw [if_neg c36] at hbr; rw [hbr])
    refine e_puti d_X6_takeOpening_45 f_X6_97 H_re.s (Nat.le_of_ble_eq_true rfl) ?_
    refine e_aloadn d_X6_takeOpening_48 rfl ?_
    refine e_aloadn d_X6_takeOpening_49 rfl ?_
    refine e_get d_X6_takeOpening_50 f_X6_52 H_re.s.s rfl ?_
    refine e_bipush (v := 28) d_X6_takeOpening_53 (by decide) ?_
    refine e_icmp_ne d_X6_takeOpening_55 (fun c55 => ?_) (fun c55 => ?_)
    · have c55 : ¬ t = 28 := fun z => c55 (by rw [z]; rfl)
      refine e_aloadn d_X6_takeOpening_63 rfl ?_
      refine e_get d_X6_takeOpening_64 f_X6_52 H_re.s.s rfl ?_
      refine e_callRVV d_X6_takeOpening_67 l_X6_takeOpening_125 H_re.s.s rfl rfl (s_X6_push (x := t) (op := op + 1) (br := br + (if t = 32 then 1 else 0)) ⟨wt, H_re.s.s, ((H_rw.n (by decide)).n (by decide)), hwl, hws⟩ hl) rfl rfl (Nat.le_of_ble_eq_true rfl) (fun h_67 q_67 s_67 => ?_)
      exact e_vret d_X6_takeOpening_70 rfl (⟨rfl, by first | (rw [if_neg c55]; exact q_67.1) | (rw [if_pos c55]; exact q_67.1), (((Fr.refl [22, 23] _).up (by decide)).up (by decide)).trans q_67.2⟩)
    · have c55 := i_eq (a := t) (b := 28) (by omega) (by decide) c55
      refine e_bipush (v := 31) d_X6_takeOpening_58 (by decide) ?_
      refine e_gt d_X6_takeOpening_60 ?_
      refine e_callRVV d_X6_takeOpening_67 l_X6_takeOpening_125 H_re.s.s rfl rfl (s_X6_push (x := 31) (op := op + 1) (br := br + (if t = 32 then 1 else 0)) ⟨wt, H_re.s.s, ((H_rw.n (by decide)).n (by decide)), hwl, hws⟩ hl) rfl rfl (Nat.le_of_ble_eq_true rfl) (fun h_67 q_67 s_67 => ?_)
      exact e_vret d_X6_takeOpening_70 rfl (⟨rfl, by first | (rw [if_neg c55]; exact q_67.1) | (rw [if_pos c55]; exact q_67.1), (((Fr.refl [22, 23] _).up (by decide)).up (by decide)).trans q_67.2⟩)
  · have c36 := i_eq (a := t) (b := 32) (by omega) (by decide) c36
    refine e_iconst (v := 1) d_X6_takeOpening_39 (by decide) ?_
    refine e_gt d_X6_takeOpening_40 ?_
    refine e_iadd d_X6_takeOpening_44 ?_
    have hbr : nI br + (if t = 32 then (1 : Int32) else 0) = nI (br + (if t = 32 then 1 else 0)) := by
      by_cases e : t = 32
      · rw [if_pos e, if_pos e]; exact nI_1 br
      · rw [if_neg e, if_neg e]; exact Int32.add_zero _
    first
    | (rw [if_pos c36] at hbr; rw [hbr])
    | (rw [if_neg c36] at hbr; rw [hbr])
    refine e_puti d_X6_takeOpening_45 f_X6_97 H_re.s (Nat.le_of_ble_eq_true rfl) ?_
    refine e_aloadn d_X6_takeOpening_48 rfl ?_
    refine e_aloadn d_X6_takeOpening_49 rfl ?_
    refine e_get d_X6_takeOpening_50 f_X6_52 H_re.s.s rfl ?_
    refine e_bipush (v := 28) d_X6_takeOpening_53 (by decide) ?_
    refine e_icmp_ne d_X6_takeOpening_55 (fun c55 => ?_) (fun c55 => ?_)
    · have c55 : ¬ t = 28 := fun z => c55 (by rw [z]; rfl)
      refine e_aloadn d_X6_takeOpening_63 rfl ?_
      refine e_get d_X6_takeOpening_64 f_X6_52 H_re.s.s rfl ?_
      refine e_callRVV d_X6_takeOpening_67 l_X6_takeOpening_125 H_re.s.s rfl rfl (s_X6_push (x := t) (op := op + 1) (br := br + (if t = 32 then 1 else 0)) ⟨wt, H_re.s.s, ((H_rw.n (by decide)).n (by decide)), hwl, hws⟩ hl) rfl rfl (Nat.le_of_ble_eq_true rfl) (fun h_67 q_67 s_67 => ?_)
      exact e_vret d_X6_takeOpening_70 rfl (⟨rfl, by first | (rw [if_neg c55]; exact q_67.1) | (rw [if_pos c55]; exact q_67.1), (((Fr.refl [22, 23] _).up (by decide)).up (by decide)).trans q_67.2⟩)
    · have c55 := i_eq (a := t) (b := 28) (by omega) (by decide) c55
      refine e_bipush (v := 31) d_X6_takeOpening_58 (by decide) ?_
      refine e_gt d_X6_takeOpening_60 ?_
      refine e_callRVV d_X6_takeOpening_67 l_X6_takeOpening_125 H_re.s.s rfl rfl (s_X6_push (x := 31) (op := op + 1) (br := br + (if t = 32 then 1 else 0)) ⟨wt, H_re.s.s, ((H_rw.n (by decide)).n (by decide)), hwl, hws⟩ hl) rfl rfl (Nat.le_of_ble_eq_true rfl) (fun h_67 q_67 s_67 => ?_)
      exact e_vret d_X6_takeOpening_70 rfl (⟨rfl, by first | (rw [if_neg c55]; exact q_67.1) | (rw [if_pos c55]; exact q_67.1), (((Fr.refl [22, 23] _).up (by decide)).up (by decide)).trans q_67.2⟩)

theorem s_X6_takeBinary {h : AH} {t : Nat} {tp nc : Nat} {kd : Nat → Nat} {cd : Nat → List Nat} {my ne : Int32} {L sta kin op br : Nat} {at_ st : Int32} {sA cm : Bool} {ws : List Nat} (hR : RdW h tp L at_ st (nI t) sta kin sA cm ws op br) (hT : TxW h tp nc kd cd my ne) (h0 : 0 < nc) (hto : tot cd nc + ws.length ≤ 300) (hx : ∀ x, x ∈ ws → x < 100) (ho : cnO ws ≤ op) (ht : t < 100) (hl : (sdr (rkc t) ws).length < 32) : Sp M_X6_takeBinary (0, 0) h [.ref 22] (rV (fun h' => RdW h' tp L at_ st (nI t) 3 kin sA cm (t :: sdr (rkc t) ws) (op - cnO (stk (rkc t) ws)) br ∧ TxW h' tp nc kd (cdA cd nc (stk (rkc t) ws)) my ne ∧ Fr [22, 23, 42 + 4 * tp, 43 + 4 * tp, 44 + 4 * tp, 45 + 4 * tp] h h')) := by
  refine ⟨Nat.le_of_ble_eq_true rfl, ?_⟩
  show E _ _ _ 0 h [some (.ref 22)] []
  obtain ⟨wt, H_re, H_rw, hwl, hws⟩ := id hR
  refine e_aloadn d_X6_takeBinary_0 rfl ?_
  refine e_aloadn d_X6_takeBinary_1 rfl ?_
  refine e_get d_X6_takeBinary_2 f_X6_52 H_re rfl ?_
  refine e_callSI d_X6_takeBinary_5 l_X6_takeBinary_137 (s_X6_rank ht) rfl rfl (Nat.le_of_ble_eq_true rfl) ?_
  refine e_callRVV d_X6_takeBinary_8 l_X6_takeBinary_134 H_re rfl rfl (s_X6_settle hR hT h0 hto hx ho (by have := rkc_le t ht; omega)) rfl rfl (Nat.le_of_ble_eq_true rfl) (fun h_8 q_8 s_8 => ?_)
  obtain ⟨hR2, hT2, fr_8⟩ := q_8
  obtain ⟨wt2, H_re2, H_rw2, hwl2, hws2⟩ := id hR2
  refine e_aloadn d_X6_takeBinary_11 rfl ?_
  refine e_aloadn d_X6_takeBinary_12 rfl ?_
  refine e_get d_X6_takeBinary_13 f_X6_52 H_re2 rfl ?_
  refine e_callRVV d_X6_takeBinary_16 l_X6_takeBinary_125 H_re2 rfl rfl (s_X6_push (x := t) hR2 hl) rfl rfl (Nat.le_of_ble_eq_true rfl) (fun h_16 q_16 s_16 => ?_)
  obtain ⟨hR3, fr_16⟩ := q_16
  obtain ⟨wt3, H_re3, H_rw3, hwl3, hws3⟩ := id hR3
  refine e_aloadn d_X6_takeBinary_19 rfl ?_
  refine e_iconst (v := 3) d_X6_takeBinary_20 (by decide) ?_
  refine e_puti d_X6_takeBinary_21 f_X6_31 H_re3 (Nat.le_of_ble_eq_true rfl) ?_
  exact e_vret d_X6_takeBinary_24 rfl (⟨rfl, ⟨wt3, H_re3.s, (H_rw3.n (by decide)), hwl3, hws3⟩, TxW.fr (TxW.fr hT2 fr_16 (by simp)) (S := [22]) ((Fr.refl _ _).up (by decide)) (by simp), (fr_8.trans (fr_16.mono (by simp))).up (by simp)⟩)

theorem s_X6_takeClose {h : AH} {t : Nat} {w2 : List Nat} {tp nc : Nat} {kd : Nat → Nat} {cd : Nat → List Nat} {my ne : Int32} {L sta kin op br : Nat} {at_ st : Int32} {sA cm : Bool} {ws : List Nat} (hR : RdW h tp L at_ st (nI t) sta kin sA cm ws op br) (hT : TxW h tp nc kd cd my ne) (h0 : 0 < nc) (hto : tot cd nc + ws.length ≤ 300) (hx : ∀ x, x ∈ ws → x < 100) (ho : cnO ws ≤ op) (hs : sdr 1 ws = 32 :: w2) (ho1 : cnO (stk 1 ws) + 1 ≤ op) (hb1 : 1 ≤ br) : Sp M_X6_takeClose (0, 0) h [.ref 22] (rV (fun h' => RdW h' tp L at_ st (nI t) sta kin sA cm w2 (op - cnO (stk 1 ws) - 1) (br - 1) ∧ TxW h' tp nc kd (cdA cd nc (stk 1 ws)) my ne ∧ Fr [22, 23, 42 + 4 * tp, 43 + 4 * tp, 44 + 4 * tp, 45 + 4 * tp] h h')) := by
  refine ⟨Nat.le_of_ble_eq_true rfl, ?_⟩
  show E _ _ _ 0 h [some (.ref 22)] []
  obtain ⟨wt, H_re, H_rw, hwl, hws⟩ := id hR
  refine e_aloadn d_X6_takeClose_0 rfl ?_
  refine e_iconst (v := 1) d_X6_takeClose_1 (by decide) ?_
  refine e_callRVV d_X6_takeClose_2 l_X6_takeClose_134 H_re rfl rfl (s_X6_settle (r := 1) hR hT h0 hto hx ho (by decide)) rfl rfl (Nat.le_of_ble_eq_true rfl) (fun h_2 q_2 s_2 => ?_)
  obtain ⟨hR2, hT2, fr_2⟩ := q_2
  rw [hs] at hR2
  obtain ⟨wt2, H_re2, H_rw2, hwl2, hws2⟩ := id hR2
  have hw23 : w2.length + 1 ≤ 32 := hwl2
  have hw24 := hws2.1
  refine e_aloadn d_X6_takeClose_5 rfl ?_
  refine e_get d_X6_takeClose_6 f_X6_91 H_re2 rfl ?_
  refine e_if_le d_X6_takeClose_9 (fun z => by first | exact absurd (fun z => absurd (i_np (by simp at hwl2 ⊢; omega) z) (by simp)) z | exact absurd z (fun z => absurd (i_np (by simp at hwl2 ⊢; omega) z) (by simp))) (fun _ => ?_)
  refine e_aloadn d_X6_takeClose_12 rfl ?_
  refine e_get d_X6_takeClose_13 f_X6_9 H_re2 rfl ?_
  refine e_aloadn d_X6_takeClose_16 rfl ?_
  refine e_get d_X6_takeClose_17 f_X6_91 H_re2 rfl ?_
  refine e_iconst (v := 1) d_X6_takeClose_20 (by decide) ?_
  refine e_isub d_X6_takeClose_21 ?_
  rw [show nI (32 :: w2).length - 1 = nI w2.length from nI_m]
  refine e_ialdN (k := w2.length) d_X6_takeClose_22 H_rw2 rfl (by omega) (by omega) ?_
  refine e_bipush (v := 32) d_X6_takeClose_23 (by decide) ?_
  rw [hw24]
  refine e_icmp_ne d_X6_takeClose_25 (fun z => by first | exact absurd (fun z => z rfl) z | exact absurd z (fun z => z rfl)) (fun _ => ?_)
  refine e_aloadn d_X6_takeClose_28 rfl ?_
  refine e_dup d_X6_takeClose_29 rfl ?_
  refine e_get d_X6_takeClose_30 f_X6_91 H_re2 rfl ?_
  refine e_iconst (v := 1) d_X6_takeClose_33 (by decide) ?_
  refine e_isub d_X6_takeClose_34 ?_
  rw [show nI (32 :: w2).length - 1 = nI w2.length from nI_m]
  refine e_puti d_X6_takeClose_35 f_X6_91 H_re2 (Nat.le_of_ble_eq_true rfl) ?_
  refine e_aloadn d_X6_takeClose_38 rfl ?_
  refine e_dup d_X6_takeClose_39 rfl ?_
  refine e_get d_X6_takeClose_40 f_X6_94 H_re2.s rfl ?_
  refine e_iconst (v := 1) d_X6_takeClose_43 (by decide) ?_
  refine e_isub d_X6_takeClose_44 ?_
  rw [show nI (op - cnO (stk 1 ws)) - 1 = nI (op - cnO (stk 1 ws) - 1) from nI_subN (b := 1) (by omega)]
  refine e_puti d_X6_takeClose_45 f_X6_94 H_re2.s (Nat.le_of_ble_eq_true rfl) ?_
  refine e_aloadn d_X6_takeClose_48 rfl ?_
  refine e_dup d_X6_takeClose_49 rfl ?_
  refine e_get d_X6_takeClose_50 f_X6_97 H_re2.s.s rfl ?_
  refine e_iconst (v := 1) d_X6_takeClose_53 (by decide) ?_
  refine e_isub d_X6_takeClose_54 ?_
  rw [show nI br - 1 = nI (br - 1) from nI_subN (b := 1) hb1]
  refine e_puti d_X6_takeClose_55 f_X6_97 H_re2.s.s (Nat.le_of_ble_eq_true rfl) ?_
  exact e_vret d_X6_takeClose_58 rfl (⟨rfl, ⟨wt2, H_re2.s.s.s, (((H_rw2.n (by decide)).n (by decide)).n (by decide)), by omega, hws2.2⟩, TxW.fr hT2 (S := [22]) ((((Fr.refl _ _).up (by decide)).up (by decide)).up (by decide)) (by simp), ((fr_2.up (by simp)).up (by simp)).up (by simp)⟩)
