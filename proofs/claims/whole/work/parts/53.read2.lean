/-! THE READER: clauses, numbers -/
theorem s_X6_fail {h : AH} {q : Nat} {wt : Nat → Int32} {a b c l m n o p d e f : Int32} {x : Value} (H_re : Hs h 22 (oRe a b c (.ref 21) l m n o p d e f x 0 (-1))) (H_rw : Hs h 23 (aI 32 wt)) : Sp M_X6_fail (0, 0) h [.ref 22, .int (nI q)] (rV (fun h' => RdE h' q n ∧ Fr [22] h h')) := by
  refine ⟨Nat.le_of_ble_eq_true rfl, ?_⟩
  show E _ _ _ 0 h [some (.ref 22), some (.int (nI q))] []
  refine e_aloadn d_X6_fail_0 rfl ?_
  refine e_get d_X6_fail_1 f_X6_34 H_re rfl ?_
  refine e_if_ne d_X6_fail_4 (fun z => by first | exact absurd (fun z => z rfl) z | exact absurd z (fun z => z rfl)) (fun _ => ?_)
  refine e_aloadn d_X6_fail_7 rfl ?_
  refine e_iloadn d_X6_fail_8 rfl ?_
  refine e_puti d_X6_fail_9 f_X6_34 H_re (Nat.le_of_ble_eq_true rfl) ?_
  refine e_aloadn d_X6_fail_12 rfl ?_
  refine e_aloadn d_X6_fail_13 rfl ?_
  refine e_get d_X6_fail_14 f_X6_70 H_re.s rfl ?_
  refine e_puti d_X6_fail_17 f_X6_37 H_re.s (Nat.le_of_ble_eq_true rfl) ?_
  exact e_vret d_X6_fail_20 rfl (⟨rfl, ⟨⟨_, _, _, _, _, _, _, _, _, _, _, _, H_re.s.s⟩, _, ((H_rw.n (by decide)).n (by decide))⟩, ((Fr.refl _ _).up (by decide)).up (by decide)⟩)

theorem clause_ok {h : AH} {tp L t nc : Nat} {kd : Nat → Nat} {cd : Nat → List Nat} {my ne at_ st sta sas : Int32} {wt : Nat → Int32} (h14 : 14 ≤ t ∧ t ≤ 20) (hno : ¬ (t ≤ 16 ∧ hasK nc kd t = true)) (h10 : ¬ 10 ≤ nc) (hT : TxW h tp (nc + 1) (va_up kd nc t) (va_up cd nc []) my ne) (H_re : Hs h 22 (oRe 0 0 0 (.ref 21) (nI L) at_ st (nI t) sta (nI t) sas 0 (.ref (42 + 4 * tp)) 0 (-1))) (H_rw : Hs h 23 (aI 32 wt)) (hs : sta = nI (if t ≤ 15 then 1 else 3)) (ha : sas = bI (¬ t = 16)) : RCq h tp L at_ st (nI t) (gClause t nc kd cd my ne) := by
  subst hs ha
  have hk : va_up kd nc t (nc + 1 - 1) = t := by rw [show nc + 1 - 1 = nc from rfl, va_up_self]
  by_cases h1 : t ≤ 15
  · have hg : gClause t nc kd cd my ne = (0, (5, [], nc + 1, va_up kd nc t, va_up cd nc [], my, ne)) := by
      unfold gClause; rw [if_neg (by omega), if_neg hno, if_neg h10, if_pos h1, if_pos h1]
    rw [hg]
    rw [if_pos h1] at H_re
    exact Or.inl ⟨rfl, 0, va_up cd nc [], cdA_nil.symm, hT, fun _ => rfl, fun _ => ⟨nI t, ⟨_, _, _, _, _, wt, H_re, H_rw⟩, fun _ => (show nI t = nI (va_up kd nc t (nc + 1 - 1)) from by rw [hk])⟩, fun h9 => absurd h9 (by simp)⟩
  · rw [if_neg h1] at H_re
    by_cases h2 : t = 16
    · have hg : gClause t nc kd cd my ne = (0, (1, [(1, [])], nc + 1, va_up kd nc t, va_up cd nc [], my, ne)) := by
        unfold gClause; rw [if_neg (by omega), if_neg hno, if_neg h10, if_neg h1, if_neg h1, if_pos h2, if_pos h2]
      rw [hg]
      rw [bI_f (show ¬ ¬ t = 16 from fun z => z h2)] at H_re
      exact Or.inl ⟨rfl, 0, va_up cd nc [], cdA_nil.symm, hT, fun _ => rfl, fun h9 => absurd h9 (by simp), fun _ => ⟨wt, (show Hs h 22 (oRe (nI 0) (nI 0) (nI 0) (.ref 21) (nI L) at_ st (nI t) (nI 3) (nI (va_up kd nc t (nc + 1 - 1))) 0 0 (.ref (42 + 4 * tp)) 0 (-1)) from by rw [hk]; exact H_re), H_rw, Nat.zero_le _, trivial⟩⟩
    · have hg : gClause t nc kd cd my ne = (0, (0, [(2, [])], nc + 1, va_up kd nc t, va_up cd nc [], my, ne)) := by
        unfold gClause; rw [if_neg (by omega), if_neg hno, if_neg h10, if_neg h1, if_neg h1, if_neg h2, if_neg h2]
      rw [hg]
      rw [bI_t (show ¬ t = 16 from h2)] at H_re
      exact Or.inl ⟨rfl, 0, va_up cd nc [], cdA_nil.symm, hT, fun _ => rfl, fun h9 => absurd h9 (by simp), fun _ => ⟨wt, (show Hs h 22 (oRe (nI 0) (nI 0) (nI 0) (.ref 21) (nI L) at_ st (nI t) (nI 3) (nI (va_up kd nc t (nc + 1 - 1))) 1 0 (.ref (42 + 4 * tp)) 0 (-1)) from by rw [hk]; exact H_re), H_rw, Nat.zero_le _, trivial⟩⟩

theorem s_X6_takeClause {h : AH} {t : Nat} {tp nc : Nat} {kd : Nat → Nat} {cd : Nat → List Nat} {my ne : Int32} {L : Nat} {at_ st ki : Int32} (hT : TxW h tp nc kd cd my ne) (hR : RdR h tp L at_ st (nI t) 0 ki) (ht : t < 20000) : Sp M_X6_takeClause (0, 0) h [.ref 22] (rV (fun h' => RCq h' tp L at_ st (nI t) (gClause t nc kd cd my ne) ∧ Fr [22, 23, 42 + 4 * tp, 43 + 4 * tp, 44 + 4 * tp, 45 + 4 * tp] h h')) := by
  refine ⟨Nat.le_of_ble_eq_true rfl, ?_⟩
  show E _ _ _ 0 h [some (.ref 22)] []
  obtain ⟨top9, op9, br9, sas9, cm9, wt, H_re, H_rw⟩ := id hR
  obtain ⟨hnc, kinds, edges, code, H_tx, H_tkk, H_te, H_tco, hkd, hed, hco, htot⟩ := id hT
  refine e_aloadn d_X6_takeClause_0 rfl ?_
  refine e_get d_X6_takeClause_1 f_X6_52 H_re rfl ?_
  refine e_bipush (v := 14) d_X6_takeClause_4 (by decide) ?_
  refine e_icmp_lt d_X6_takeClause_6 (fun c6 => ?_) (fun c6 => ?_)
  · have c6 := i_lt (b := 14) (by omega) (by decide) c6
    refine e_aloadn d_X6_takeClause_18 rfl ?_
    refine e_iconst (v := 1) d_X6_takeClause_19 (by decide) ?_
    have hg : gClause t nc kd cd my ne = (1, (4, [], nc, kd, cd, my, ne)) := by
      unfold gClause
      rw [if_pos (by omega)]
    refine e_callRVV d_X6_takeClause_20 l_X6_takeClause_73 H_re rfl rfl (s_X6_fail (q := 1) H_re H_rw) rfl rfl (Nat.le_of_ble_eq_true rfl) (fun h_20 q_20 s_20 => ?_)
    refine e_gt d_X6_takeClause_23 ?_
    exact e_vret d_X6_takeClause_151 rfl (⟨rfl, by rw [hg]; exact Or.inr ⟨by simp, q_20.1, (TxW.fr hT q_20.2 (by simp)).b⟩, q_20.2.mono (by simp)⟩)
  · have c6 := i_nlt (b := 14) (by omega) (by decide) c6
    refine e_aloadn d_X6_takeClause_9 rfl ?_
    refine e_get d_X6_takeClause_10 f_X6_52 H_re rfl ?_
    refine e_bipush (v := 20) d_X6_takeClause_13 (by decide) ?_
    refine e_icmp_le d_X6_takeClause_15 (fun c15 => ?_) (fun c15 => ?_)
    · have c15 := i_le (b := 20) (by omega) (by decide) c15
      refine e_aloadn d_X6_takeClause_26 rfl ?_
      refine e_get d_X6_takeClause_27 f_X6_52 H_re rfl ?_
      refine e_bipush (v := 16) d_X6_takeClause_30 (by decide) ?_
      refine e_icmp_gt d_X6_takeClause_32 (fun c32 => ?_) (fun c32 => ?_)
      · have c32 := i_lt (a := 16) (by decide) (by omega) c32
        refine e_aloadn d_X6_takeClause_57 rfl ?_
        refine e_get d_X6_takeClause_58 f_X6_40 H_re rfl ?_
        have hno : ¬ (t ≤ 16 ∧ hasK nc kd t = true) := fun z => by first | exact c46 z.2 | omega
        refine e_callVI d_X6_takeClause_61 l_X6_takeClause_81 H_tx rfl rfl (s_X8_isFull (kd := kd) (cd := cd) H_tx hnc) rfl rfl (Nat.le_of_ble_eq_true rfl) ?_
        refine e_if_eq d_X6_takeClause_64 (fun c64 => ?_) (fun c64 => ?_)
        · have c64 := bI_0.mp c64
          refine e_aloadn d_X6_takeClause_76 rfl ?_
          refine e_aloadn d_X6_takeClause_77 rfl ?_
          refine e_get d_X6_takeClause_78 f_X6_52 H_re rfl ?_
          refine e_puti d_X6_takeClause_81 f_X6_85 H_re (Nat.le_of_ble_eq_true rfl) ?_
          refine e_aloadn d_X6_takeClause_84 rfl ?_
          refine e_get d_X6_takeClause_85 f_X6_40 H_re.s rfl ?_
          refine e_aloadn d_X6_takeClause_88 rfl ?_
          refine e_get d_X6_takeClause_89 f_X6_85 H_re.s rfl ?_
          refine e_callRVV d_X6_takeClause_92 l_X6_takeClause_88 (H_tx.n (by omega)) rfl rfl (s_X8_begin (k := t) (TxW.fr hT ((Fr.refl [22, 23] _).up (by decide)) (by simp)) (by omega) (by omega)) rfl rfl (Nat.le_of_ble_eq_true rfl) (fun h_92 q_92 s_92 => ?_)
          obtain ⟨hT2, fr_92⟩ := q_92
          have H_re := fr_92.hs H_re.s (by first | decide | (simp; omega))
          have H_rw := fr_92.hs (H_rw.n (by decide)) (by first | decide | (simp; omega))
          refine e_aloadn d_X6_takeClause_95 rfl ?_
          refine e_iconst (v := 0) d_X6_takeClause_96 (by decide) ?_
          refine e_puti d_X6_takeClause_97 f_X6_91 H_re (Nat.le_of_ble_eq_true rfl) ?_
          refine e_aloadn d_X6_takeClause_100 rfl ?_
          refine e_iconst (v := 0) d_X6_takeClause_101 (by decide) ?_
          refine e_puti d_X6_takeClause_102 f_X6_94 H_re.s (Nat.le_of_ble_eq_true rfl) ?_
          refine e_aloadn d_X6_takeClause_105 rfl ?_
          refine e_iconst (v := 0) d_X6_takeClause_106 (by decide) ?_
          refine e_puti d_X6_takeClause_107 f_X6_97 H_re.s.s (Nat.le_of_ble_eq_true rfl) ?_
          refine e_aloadn d_X6_takeClause_110 rfl ?_
          refine e_aloadn d_X6_takeClause_111 rfl ?_
          refine e_get d_X6_takeClause_112 f_X6_85 H_re.s.s.s rfl ?_
          refine e_bipush (v := 16) d_X6_takeClause_115 (by decide) ?_
          refine e_icmp_eq d_X6_takeClause_117 (fun c117 => ?_) (fun c117 => ?_)
          · have c117 := i_eq (a := t) (b := 16) (by omega) (by decide) c117
            refine e_iconst (v := 0) d_X6_takeClause_124 (by decide) ?_
            refine e_putz d_X6_takeClause_125 f_X6_100 (by first | exact Or.inl rfl | exact Or.inr rfl) H_re.s.s.s (Nat.le_of_ble_eq_true rfl) ?_
            refine e_aloadn d_X6_takeClause_128 rfl ?_
            refine e_iconst (v := 0) d_X6_takeClause_129 (by decide) ?_
            refine e_putz d_X6_takeClause_130 f_X6_104 (Or.inl rfl) H_re.s.s.s.s (Nat.le_of_ble_eq_true rfl) ?_
            refine e_aloadn d_X6_takeClause_133 rfl ?_
            refine e_aloadn d_X6_takeClause_134 rfl ?_
            refine e_get d_X6_takeClause_135 f_X6_85 H_re.s.s.s.s.s rfl ?_
            refine e_bipush (v := 15) d_X6_takeClause_138 (by decide) ?_
            refine e_icmp_gt d_X6_takeClause_140 (fun c140 => ?_) (fun c140 => ?_)
            · have c140 := i_lt (a := 15) (by decide) (by omega) c140
              refine e_iconst (v := 3) d_X6_takeClause_147 (by decide) ?_
              refine e_puti d_X6_takeClause_148 f_X6_31 H_re.s.s.s.s.s (Nat.le_of_ble_eq_true rfl) ?_
              exact e_vret d_X6_takeClause_151 rfl (⟨rfl, clause_ok (by omega) hno c64 (TxW.fr hT2 (S := [22]) ((((((((Fr.refl [22] _).up (by decide)).up (by decide)).up (by decide)).up (by decide)).up (by decide)).up (by decide))) (by simp)) H_re.s.s.s.s.s.s ((((((H_rw.n (by decide)).n (by decide)).n (by decide)).n (by decide)).n (by decide)).n (by decide)) (by first | (rw [if_pos (show t ≤ 15 by omega)]; rfl) | (rw [if_neg (show ¬ t ≤ 15 by omega)]; rfl)) (by first | (rw [bI_t c117]; done) | (rw [bI_f (fun z => z c117)]; done)), ((((Fr.refl [22, 23, 42 + 4 * tp, 43 + 4 * tp, 44 + 4 * tp, 45 + 4 * tp] _).up (by simp)).trans (fr_92.mono (by simp))).trans (((((((((Fr.refl [22] _).up (by decide)).up (by decide)).up (by decide)).up (by decide)).up (by decide)).up (by decide))).mono (by simp)))⟩)
            · have c140 := i_nlt (a := 15) (by decide) (by omega) c140
              refine e_iconst (v := 1) d_X6_takeClause_143 (by decide) ?_
              refine e_gt d_X6_takeClause_144 ?_
              refine e_puti d_X6_takeClause_148 f_X6_31 H_re.s.s.s.s.s (Nat.le_of_ble_eq_true rfl) ?_
              exact e_vret d_X6_takeClause_151 rfl (⟨rfl, clause_ok (by omega) hno c64 (TxW.fr hT2 (S := [22]) ((((((((Fr.refl [22] _).up (by decide)).up (by decide)).up (by decide)).up (by decide)).up (by decide)).up (by decide))) (by simp)) H_re.s.s.s.s.s.s ((((((H_rw.n (by decide)).n (by decide)).n (by decide)).n (by decide)).n (by decide)).n (by decide)) (by first | (rw [if_pos (show t ≤ 15 by omega)]; rfl) | (rw [if_neg (show ¬ t ≤ 15 by omega)]; rfl)) (by first | (rw [bI_t c117]; done) | (rw [bI_f (fun z => z c117)]; done)), ((((Fr.refl [22, 23, 42 + 4 * tp, 43 + 4 * tp, 44 + 4 * tp, 45 + 4 * tp] _).up (by simp)).trans (fr_92.mono (by simp))).trans (((((((((Fr.refl [22] _).up (by decide)).up (by decide)).up (by decide)).up (by decide)).up (by decide)).up (by decide))).mono (by simp)))⟩)
          · have c117 : ¬ t = 16 := fun z => c117 (by rw [z]; rfl)
            refine e_iconst (v := 1) d_X6_takeClause_120 (by decide) ?_
            refine e_gt d_X6_takeClause_121 ?_
            refine e_putz d_X6_takeClause_125 f_X6_100 (by first | exact Or.inl rfl | exact Or.inr rfl) H_re.s.s.s (Nat.le_of_ble_eq_true rfl) ?_
            refine e_aloadn d_X6_takeClause_128 rfl ?_
            refine e_iconst (v := 0) d_X6_takeClause_129 (by decide) ?_
            refine e_putz d_X6_takeClause_130 f_X6_104 (Or.inl rfl) H_re.s.s.s.s (Nat.le_of_ble_eq_true rfl) ?_
            refine e_aloadn d_X6_takeClause_133 rfl ?_
            refine e_aloadn d_X6_takeClause_134 rfl ?_
            refine e_get d_X6_takeClause_135 f_X6_85 H_re.s.s.s.s.s rfl ?_
            refine e_bipush (v := 15) d_X6_takeClause_138 (by decide) ?_
            refine e_icmp_gt d_X6_takeClause_140 (fun c140 => ?_) (fun c140 => ?_)
            · have c140 := i_lt (a := 15) (by decide) (by omega) c140
              refine e_iconst (v := 3) d_X6_takeClause_147 (by decide) ?_
              refine e_puti d_X6_takeClause_148 f_X6_31 H_re.s.s.s.s.s (Nat.le_of_ble_eq_true rfl) ?_
              exact e_vret d_X6_takeClause_151 rfl (⟨rfl, clause_ok (by omega) hno c64 (TxW.fr hT2 (S := [22]) ((((((((Fr.refl [22] _).up (by decide)).up (by decide)).up (by decide)).up (by decide)).up (by decide)).up (by decide))) (by simp)) H_re.s.s.s.s.s.s ((((((H_rw.n (by decide)).n (by decide)).n (by decide)).n (by decide)).n (by decide)).n (by decide)) (by first | (rw [if_pos (show t ≤ 15 by omega)]; rfl) | (rw [if_neg (show ¬ t ≤ 15 by omega)]; rfl)) (by first | (rw [bI_t c117]; done) | (rw [bI_f (fun z => z c117)]; done)), ((((Fr.refl [22, 23, 42 + 4 * tp, 43 + 4 * tp, 44 + 4 * tp, 45 + 4 * tp] _).up (by simp)).trans (fr_92.mono (by simp))).trans (((((((((Fr.refl [22] _).up (by decide)).up (by decide)).up (by decide)).up (by decide)).up (by decide)).up (by decide))).mono (by simp)))⟩)
            · have c140 := i_nlt (a := 15) (by decide) (by omega) c140
              refine e_iconst (v := 1) d_X6_takeClause_143 (by decide) ?_
              refine e_gt d_X6_takeClause_144 ?_
              refine e_puti d_X6_takeClause_148 f_X6_31 H_re.s.s.s.s.s (Nat.le_of_ble_eq_true rfl) ?_
              exact e_vret d_X6_takeClause_151 rfl (⟨rfl, clause_ok (by omega) hno c64 (TxW.fr hT2 (S := [22]) ((((((((Fr.refl [22] _).up (by decide)).up (by decide)).up (by decide)).up (by decide)).up (by decide)).up (by decide))) (by simp)) H_re.s.s.s.s.s.s ((((((H_rw.n (by decide)).n (by decide)).n (by decide)).n (by decide)).n (by decide)).n (by decide)) (by first | (rw [if_pos (show t ≤ 15 by omega)]; rfl) | (rw [if_neg (show ¬ t ≤ 15 by omega)]; rfl)) (by first | (rw [bI_t c117]; done) | (rw [bI_f (fun z => z c117)]; done)), ((((Fr.refl [22, 23, 42 + 4 * tp, 43 + 4 * tp, 44 + 4 * tp, 45 + 4 * tp] _).up (by simp)).trans (fr_92.mono (by simp))).trans (((((((((Fr.refl [22] _).up (by decide)).up (by decide)).up (by decide)).up (by decide)).up (by decide)).up (by decide))).mono (by simp)))⟩)
        · have c64 := bI_1.mp (bI_z.resolve_left c64)
          refine e_aloadn d_X6_takeClause_67 rfl ?_
          refine e_bipush (v := 6) d_X6_takeClause_68 (by decide) ?_
          have hg : gClause t nc kd cd my ne = (6, (4, [], nc, kd, cd, my, ne)) := by
            unfold gClause
            rw [if_neg (by omega), if_neg hno, if_pos c64]
          refine e_callRVV d_X6_takeClause_70 l_X6_takeClause_73 H_re rfl rfl (s_X6_fail (q := 6) H_re H_rw) rfl rfl (Nat.le_of_ble_eq_true rfl) (fun h_70 q_70 s_70 => ?_)
          refine e_gt d_X6_takeClause_73 ?_
          exact e_vret d_X6_takeClause_151 rfl (⟨rfl, by rw [hg]; exact Or.inr ⟨by simp, q_70.1, (TxW.fr hT q_70.2 (by simp)).b⟩, q_70.2.mono (by simp)⟩)
      · have c32 := i_nlt (a := 16) (by decide) (by omega) c32
        refine e_aloadn d_X6_takeClause_35 rfl ?_
        refine e_get d_X6_takeClause_36 f_X6_40 H_re rfl ?_
        refine e_aloadn d_X6_takeClause_39 rfl ?_
        refine e_get d_X6_takeClause_40 f_X6_52 H_re rfl ?_
        refine e_callVI d_X6_takeClause_43 l_X6_takeClause_77 H_tx rfl rfl (s_X8_has H_tx H_tkk hnc (by omega) hkd) rfl rfl (Nat.le_of_ble_eq_true rfl) ?_
        refine e_if_eq d_X6_takeClause_46 (fun c46 => ?_) (fun c46 => ?_)
        · have c46 := bI_0.mp c46
          refine e_aloadn d_X6_takeClause_57 rfl ?_
          refine e_get d_X6_takeClause_58 f_X6_40 H_re rfl ?_
          have hno : ¬ (t ≤ 16 ∧ hasK nc kd t = true) := fun z => by first | exact c46 z.2 | omega
          refine e_callVI d_X6_takeClause_61 l_X6_takeClause_81 H_tx rfl rfl (s_X8_isFull (kd := kd) (cd := cd) H_tx hnc) rfl rfl (Nat.le_of_ble_eq_true rfl) ?_
          refine e_if_eq d_X6_takeClause_64 (fun c64 => ?_) (fun c64 => ?_)
          · have c64 := bI_0.mp c64
            refine e_aloadn d_X6_takeClause_76 rfl ?_
            refine e_aloadn d_X6_takeClause_77 rfl ?_
            refine e_get d_X6_takeClause_78 f_X6_52 H_re rfl ?_
            refine e_puti d_X6_takeClause_81 f_X6_85 H_re (Nat.le_of_ble_eq_true rfl) ?_
            refine e_aloadn d_X6_takeClause_84 rfl ?_
            refine e_get d_X6_takeClause_85 f_X6_40 H_re.s rfl ?_
            refine e_aloadn d_X6_takeClause_88 rfl ?_
            refine e_get d_X6_takeClause_89 f_X6_85 H_re.s rfl ?_
            refine e_callRVV d_X6_takeClause_92 l_X6_takeClause_88 (H_tx.n (by omega)) rfl rfl (s_X8_begin (k := t) (TxW.fr hT ((Fr.refl [22, 23] _).up (by decide)) (by simp)) (by omega) (by omega)) rfl rfl (Nat.le_of_ble_eq_true rfl) (fun h_92 q_92 s_92 => ?_)
            obtain ⟨hT2, fr_92⟩ := q_92
            have H_re := fr_92.hs H_re.s (by first | decide | (simp; omega))
            have H_rw := fr_92.hs (H_rw.n (by decide)) (by first | decide | (simp; omega))
            refine e_aloadn d_X6_takeClause_95 rfl ?_
            refine e_iconst (v := 0) d_X6_takeClause_96 (by decide) ?_
            refine e_puti d_X6_takeClause_97 f_X6_91 H_re (Nat.le_of_ble_eq_true rfl) ?_
            refine e_aloadn d_X6_takeClause_100 rfl ?_
            refine e_iconst (v := 0) d_X6_takeClause_101 (by decide) ?_
            refine e_puti d_X6_takeClause_102 f_X6_94 H_re.s (Nat.le_of_ble_eq_true rfl) ?_
            refine e_aloadn d_X6_takeClause_105 rfl ?_
            refine e_iconst (v := 0) d_X6_takeClause_106 (by decide) ?_
            refine e_puti d_X6_takeClause_107 f_X6_97 H_re.s.s (Nat.le_of_ble_eq_true rfl) ?_
            refine e_aloadn d_X6_takeClause_110 rfl ?_
            refine e_aloadn d_X6_takeClause_111 rfl ?_
            refine e_get d_X6_takeClause_112 f_X6_85 H_re.s.s.s rfl ?_
            refine e_bipush (v := 16) d_X6_takeClause_115 (by decide) ?_
            refine e_icmp_eq d_X6_takeClause_117 (fun c117 => ?_) (fun c117 => ?_)
            · have c117 := i_eq (a := t) (b := 16) (by omega) (by decide) c117
              refine e_iconst (v := 0) d_X6_takeClause_124 (by decide) ?_
              refine e_putz d_X6_takeClause_125 f_X6_100 (by first | exact Or.inl rfl | exact Or.inr rfl) H_re.s.s.s (Nat.le_of_ble_eq_true rfl) ?_
              refine e_aloadn d_X6_takeClause_128 rfl ?_
              refine e_iconst (v := 0) d_X6_takeClause_129 (by decide) ?_
              refine e_putz d_X6_takeClause_130 f_X6_104 (Or.inl rfl) H_re.s.s.s.s (Nat.le_of_ble_eq_true rfl) ?_
              refine e_aloadn d_X6_takeClause_133 rfl ?_
              refine e_aloadn d_X6_takeClause_134 rfl ?_
              refine e_get d_X6_takeClause_135 f_X6_85 H_re.s.s.s.s.s rfl ?_
              refine e_bipush (v := 15) d_X6_takeClause_138 (by decide) ?_
              refine e_icmp_gt d_X6_takeClause_140 (fun c140 => ?_) (fun c140 => ?_)
              · have c140 := i_lt (a := 15) (by decide) (by omega) c140
                refine e_iconst (v := 3) d_X6_takeClause_147 (by decide) ?_
                refine e_puti d_X6_takeClause_148 f_X6_31 H_re.s.s.s.s.s (Nat.le_of_ble_eq_true rfl) ?_
                exact e_vret d_X6_takeClause_151 rfl (⟨rfl, clause_ok (by omega) hno c64 (TxW.fr hT2 (S := [22]) ((((((((Fr.refl [22] _).up (by decide)).up (by decide)).up (by decide)).up (by decide)).up (by decide)).up (by decide))) (by simp)) H_re.s.s.s.s.s.s ((((((H_rw.n (by decide)).n (by decide)).n (by decide)).n (by decide)).n (by decide)).n (by decide)) (by first | (rw [if_pos (show t ≤ 15 by omega)]; rfl) | (rw [if_neg (show ¬ t ≤ 15 by omega)]; rfl)) (by first | (rw [bI_t c117]; done) | (rw [bI_f (fun z => z c117)]; done)), ((((Fr.refl [22, 23, 42 + 4 * tp, 43 + 4 * tp, 44 + 4 * tp, 45 + 4 * tp] _).up (by simp)).trans (fr_92.mono (by simp))).trans (((((((((Fr.refl [22] _).up (by decide)).up (by decide)).up (by decide)).up (by decide)).up (by decide)).up (by decide))).mono (by simp)))⟩)
              · have c140 := i_nlt (a := 15) (by decide) (by omega) c140
                refine e_iconst (v := 1) d_X6_takeClause_143 (by decide) ?_
                refine e_gt d_X6_takeClause_144 ?_
                refine e_puti d_X6_takeClause_148 f_X6_31 H_re.s.s.s.s.s (Nat.le_of_ble_eq_true rfl) ?_
                exact e_vret d_X6_takeClause_151 rfl (⟨rfl, clause_ok (by omega) hno c64 (TxW.fr hT2 (S := [22]) ((((((((Fr.refl [22] _).up (by decide)).up (by decide)).up (by decide)).up (by decide)).up (by decide)).up (by decide))) (by simp)) H_re.s.s.s.s.s.s ((((((H_rw.n (by decide)).n (by decide)).n (by decide)).n (by decide)).n (by decide)).n (by decide)) (by first | (rw [if_pos (show t ≤ 15 by omega)]; rfl) | (rw [if_neg (show ¬ t ≤ 15 by omega)]; rfl)) (by first | (rw [bI_t c117]; done) | (rw [bI_f (fun z => z c117)]; done)), ((((Fr.refl [22, 23, 42 + 4 * tp, 43 + 4 * tp, 44 + 4 * tp, 45 + 4 * tp] _).up (by simp)).trans (fr_92.mono (by simp))).trans (((((((((Fr.refl [22] _).up (by decide)).up (by decide)).up (by decide)).up (by decide)).up (by decide)).up (by decide))).mono (by simp)))⟩)
            · have c117 : ¬ t = 16 := fun z => c117 (by rw [z]; rfl)
              refine e_iconst (v := 1) d_X6_takeClause_120 (by decide) ?_
              refine e_gt d_X6_takeClause_121 ?_
              refine e_putz d_X6_takeClause_125 f_X6_100 (by first | exact Or.inl rfl | exact Or.inr rfl) H_re.s.s.s (Nat.le_of_ble_eq_true rfl) ?_
              refine e_aloadn d_X6_takeClause_128 rfl ?_
              refine e_iconst (v := 0) d_X6_takeClause_129 (by decide) ?_
              refine e_putz d_X6_takeClause_130 f_X6_104 (Or.inl rfl) H_re.s.s.s.s (Nat.le_of_ble_eq_true rfl) ?_
              refine e_aloadn d_X6_takeClause_133 rfl ?_
              refine e_aloadn d_X6_takeClause_134 rfl ?_
              refine e_get d_X6_takeClause_135 f_X6_85 H_re.s.s.s.s.s rfl ?_
              refine e_bipush (v := 15) d_X6_takeClause_138 (by decide) ?_
              refine e_icmp_gt d_X6_takeClause_140 (fun c140 => ?_) (fun c140 => ?_)
              · have c140 := i_lt (a := 15) (by decide) (by omega) c140
                refine e_iconst (v := 3) d_X6_takeClause_147 (by decide) ?_
                refine e_puti d_X6_takeClause_148 f_X6_31 H_re.s.s.s.s.s (Nat.le_of_ble_eq_true rfl) ?_
                exact e_vret d_X6_takeClause_151 rfl (⟨rfl, clause_ok (by omega) hno c64 (TxW.fr hT2 (S := [22]) ((((((((Fr.refl [22] _).up (by decide)).up (by decide)).up (by decide)).up (by decide)).up (by decide)).up (by decide))) (by simp)) H_re.s.s.s.s.s.s ((((((H_rw.n (by decide)).n (by decide)).n (by decide)).n (by decide)).n (by decide)).n (by decide)) (by first | (rw [if_pos (show t ≤ 15 by omega)]; rfl) | (rw [if_neg (show ¬ t ≤ 15 by omega)]; rfl)) (by first | (rw [bI_t c117]; done) | (rw [bI_f (fun z => z c117)]; done)), ((((Fr.refl [22, 23, 42 + 4 * tp, 43 + 4 * tp, 44 + 4 * tp, 45 + 4 * tp] _).up (by simp)).trans (fr_92.mono (by simp))).trans (((((((((Fr.refl [22] _).up (by decide)).up (by decide)).up (by decide)).up (by decide)).up (by decide)).up (by decide))).mono (by simp)))⟩)
              · have c140 := i_nlt (a := 15) (by decide) (by omega) c140
                refine e_iconst (v := 1) d_X6_takeClause_143 (by decide) ?_
                refine e_gt d_X6_takeClause_144 ?_
                refine e_puti d_X6_takeClause_148 f_X6_31 H_re.s.s.s.s.s (Nat.le_of_ble_eq_true rfl) ?_
                exact e_vret d_X6_takeClause_151 rfl (⟨rfl, clause_ok (by omega) hno c64 (TxW.fr hT2 (S := [22]) ((((((((Fr.refl [22] _).up (by decide)).up (by decide)).up (by decide)).up (by decide)).up (by decide)).up (by decide))) (by simp)) H_re.s.s.s.s.s.s ((((((H_rw.n (by decide)).n (by decide)).n (by decide)).n (by decide)).n (by decide)).n (by decide)) (by first | (rw [if_pos (show t ≤ 15 by omega)]; rfl) | (rw [if_neg (show ¬ t ≤ 15 by omega)]; rfl)) (by first | (rw [bI_t c117]; done) | (rw [bI_f (fun z => z c117)]; done)), ((((Fr.refl [22, 23, 42 + 4 * tp, 43 + 4 * tp, 44 + 4 * tp, 45 + 4 * tp] _).up (by simp)).trans (fr_92.mono (by simp))).trans (((((((((Fr.refl [22] _).up (by decide)).up (by decide)).up (by decide)).up (by decide)).up (by decide)).up (by decide))).mono (by simp)))⟩)
          · have c64 := bI_1.mp (bI_z.resolve_left c64)
            refine e_aloadn d_X6_takeClause_67 rfl ?_
            refine e_bipush (v := 6) d_X6_takeClause_68 (by decide) ?_
            have hg : gClause t nc kd cd my ne = (6, (4, [], nc, kd, cd, my, ne)) := by
              unfold gClause
              rw [if_neg (by omega), if_neg hno, if_pos c64]
            refine e_callRVV d_X6_takeClause_70 l_X6_takeClause_73 H_re rfl rfl (s_X6_fail (q := 6) H_re H_rw) rfl rfl (Nat.le_of_ble_eq_true rfl) (fun h_70 q_70 s_70 => ?_)
            refine e_gt d_X6_takeClause_73 ?_
            exact e_vret d_X6_takeClause_151 rfl (⟨rfl, by rw [hg]; exact Or.inr ⟨by simp, q_70.1, (TxW.fr hT q_70.2 (by simp)).b⟩, q_70.2.mono (by simp)⟩)
        · have c46 := bI_1.mp (bI_z.resolve_left c46)
          refine e_aloadn d_X6_takeClause_49 rfl ?_
          refine e_iconst (v := 4) d_X6_takeClause_50 (by decide) ?_
          have hg : gClause t nc kd cd my ne = (4, (4, [], nc, kd, cd, my, ne)) := by
            unfold gClause
            rw [if_neg (by omega), if_pos ⟨c32, c46⟩]
          refine e_callRVV d_X6_takeClause_51 l_X6_takeClause_73 H_re rfl rfl (s_X6_fail (q := 4) H_re H_rw) rfl rfl (Nat.le_of_ble_eq_true rfl) (fun h_51 q_51 s_51 => ?_)
          refine e_gt d_X6_takeClause_54 ?_
          exact e_vret d_X6_takeClause_151 rfl (⟨rfl, by rw [hg]; exact Or.inr ⟨by simp, q_51.1, (TxW.fr hT q_51.2 (by simp)).b⟩, q_51.2.mono (by simp)⟩)
    · have c15 := i_nle (b := 20) (by omega) (by decide) c15
      refine e_aloadn d_X6_takeClause_18 rfl ?_
      refine e_iconst (v := 1) d_X6_takeClause_19 (by decide) ?_
      have hg : gClause t nc kd cd my ne = (1, (4, [], nc, kd, cd, my, ne)) := by
        unfold gClause
        rw [if_pos (by omega)]
      refine e_callRVV d_X6_takeClause_20 l_X6_takeClause_73 H_re rfl rfl (s_X6_fail (q := 1) H_re H_rw) rfl rfl (Nat.le_of_ble_eq_true rfl) (fun h_20 q_20 s_20 => ?_)
      refine e_gt d_X6_takeClause_23 ?_
      exact e_vret d_X6_takeClause_151 rfl (⟨rfl, by rw [hg]; exact Or.inr ⟨by simp, q_20.1, (TxW.fr hT q_20.2 (by simp)).b⟩, q_20.2.mono (by simp)⟩)

theorem sub_neg {t : Nat} (h : t < 100) : nI t - 100 < 0 := by
  have : ∀ t, t < 100 → nI t - 100 < 0 := by decide +kernel
  exact this t h

theorem number_ok {h : AH} {tp L t nc : Nat} {kd : Nat → Nat} {cd : Nat → List Nat} {my ne my9 ne9 at_ st ki : Int32} (h1 : 100 ≤ t) (h2 : ¬ limN (kd (nc - 1)) < t - 100) (hT : TxW h tp nc kd cd my9 ne9) (hm : my9 = if kd (nc - 1) = 14 then nI (t - 100) else my) (hn : ne9 = if kd (nc - 1) = 15 then nI (t - 100) else ne) (hR : RdR h tp L at_ st (nI t) 2 ki) : RCq h tp L at_ st (nI t) (gNumber t nc kd cd my ne) := by
  subst hm hn
  have hg : gNumber t nc kd cd my ne = (0, (6, [], nc, kd, cd, if kd (nc - 1) = 14 then nI (t - 100) else my, if kd (nc - 1) = 15 then nI (t - 100) else ne)) := by
    unfold gNumber; rw [if_neg (by omega), if_neg h2]
  rw [hg]
  exact Or.inl ⟨rfl, 0, cd, cdA_nil.symm, hT, fun _ => rfl, fun _ => ⟨ki, hR, fun h9 => absurd h9 (by simp)⟩, fun h9 => absurd h9 (by simp)⟩

theorem s_X6_takeNumber {h : AH} {t : Nat} {tp nc : Nat} {kd : Nat → Nat} {cd : Nat → List Nat} {my ne : Int32} {L : Nat} {at_ st : Int32} (hT : TxW h tp nc kd cd my ne) (hR : RdR h tp L at_ st (nI t) 1 (nI (kd (nc - 1)))) (ht : t < 20000) (hk : kd (nc - 1) < 100) : Sp M_X6_takeNumber (0, 0) h [.ref 22] (rV (fun h' => RCq h' tp L at_ st (nI t) (gNumber t nc kd cd my ne) ∧ Fr [22, 23, 42 + 4 * tp, 43 + 4 * tp, 44 + 4 * tp, 45 + 4 * tp] h h')) := by
  refine ⟨Nat.le_of_ble_eq_true rfl, ?_⟩
  show E _ _ _ 0 h [some (.ref 22), none] []
  obtain ⟨top9, op9, br9, sas9, cm9, wt, H_re, H_rw⟩ := id hR
  obtain ⟨hnc, kinds, edges, code, H_tx, H_tkk, H_te, H_tco, hkd, hed, hco, htot⟩ := id hT
  refine e_aloadn d_X6_takeNumber_0 rfl ?_
  refine e_get d_X6_takeNumber_1 f_X6_52 H_re rfl ?_
  refine e_bipush (v := 100) d_X6_takeNumber_4 (by decide) ?_
  skip
  refine e_isub d_X6_takeNumber_6 ?_
  refine e_istoren d_X6_takeNumber_7 (by decide) rfl ?_
  refine e_iloadn d_X6_takeNumber_8 rfl ?_
  refine e_if_ge d_X6_takeNumber_9 (fun c9 => ?_) (fun c9 => ?_)
  · have c9 : 100 ≤ t := Nat.le_of_not_lt (fun z => absurd (sub_neg z) (Int32.not_lt.mpr c9))
    rw [show nI t - 100 = nI (t - 100) from nI_subN (b := 100) c9]
    refine e_iloadn d_X6_takeNumber_20 rfl ?_
    refine e_aloadn d_X6_takeNumber_21 rfl ?_
    refine e_get d_X6_takeNumber_22 f_X6_85 H_re rfl ?_
    refine e_bipush (v := 14) d_X6_takeNumber_25 (by decide) ?_
    refine e_icmp_ne d_X6_takeNumber_27 (fun c27 => ?_) (fun c27 => ?_)
    · have c27 : ¬ kd (nc - 1) = 14 := fun z => c27 (by rw [z]; rfl)
      refine e_sipush (v := 9999) d_X6_takeNumber_35 (by decide) ?_
      refine e_icmp_le d_X6_takeNumber_38 (fun c38 => ?_) (fun c38 => ?_)
      · have c38 : ¬ limN (kd (nc - 1)) < t - 100 := by unfold limN; first | (rw [if_pos c27]; have := i_le (a := t - 100) (b := 14) (by omega) (by decide) c38; omega) | (rw [if_neg c27]; have := i_le (a := t - 100) (b := 9999) (by omega) (by decide) c38; omega)
        refine e_aloadn d_X6_takeNumber_49 rfl ?_
        refine e_get d_X6_takeNumber_50 f_X6_40 H_re rfl ?_
        refine e_aloadn d_X6_takeNumber_53 rfl ?_
        refine e_get d_X6_takeNumber_54 f_X6_85 H_re rfl ?_
        refine e_bipush (v := 14) d_X6_takeNumber_57 (by decide) ?_
        refine e_icmp_ne d_X6_takeNumber_59 (fun c59 => ?_) (fun c59 => ?_)
        · have c59 : ¬ kd (nc - 1) = 14 := fun z => c59 (by rw [z]; rfl)
          refine e_aloadn d_X6_takeNumber_66 rfl ?_
          refine e_get d_X6_takeNumber_67 f_X6_40 H_re rfl ?_
          refine e_get d_X6_takeNumber_70 f_X6_107 H_tx rfl ?_
          refine e_puti d_X6_takeNumber_73 f_X6_107 H_tx (Nat.le_of_ble_eq_true rfl) ?_
          refine e_aloadn d_X6_takeNumber_76 rfl ?_
          refine e_get d_X6_takeNumber_77 f_X6_40 (H_re.n (by omega)) rfl ?_
          refine e_aloadn d_X6_takeNumber_80 rfl ?_
          refine e_get d_X6_takeNumber_81 f_X6_85 (H_re.n (by omega)) rfl ?_
          refine e_bipush (v := 15) d_X6_takeNumber_84 (by decide) ?_
          refine e_icmp_ne d_X6_takeNumber_86 (fun c86 => ?_) (fun c86 => ?_)
          · have c86 : ¬ kd (nc - 1) = 15 := fun z => c86 (by rw [z]; rfl)
            refine e_aloadn d_X6_takeNumber_93 rfl ?_
            refine e_get d_X6_takeNumber_94 f_X6_40 (H_re.n (by omega)) rfl ?_
            refine e_get d_X6_takeNumber_97 f_X6_110 H_tx.s rfl ?_
            refine e_puti d_X6_takeNumber_100 f_X6_110 H_tx.s (Nat.le_of_ble_eq_true rfl) ?_
            refine e_aloadn d_X6_takeNumber_103 rfl ?_
            refine e_iconst (v := 2) d_X6_takeNumber_104 (by decide) ?_
            refine e_puti d_X6_takeNumber_105 f_X6_31 ((H_re.n (by omega)).n (by omega)) (Nat.le_of_ble_eq_true rfl) ?_
            exact e_vret d_X6_takeNumber_108 rfl (⟨rfl, number_ok c9 c38 (my9 := _) (ne9 := _) ⟨hnc, kinds, edges, code, (H_tx.s.s.n (by omega)), (((H_tkk.n (by omega)).n (by omega)).n (by omega)), (((H_te.n (by omega)).n (by omega)).n (by omega)), (((H_tco.n (by omega)).n (by omega)).n (by omega)), hkd, hed, hco, htot⟩ (by first | (rw [if_pos c59]; done) | (rw [if_neg c59]; done)) (by first | (rw [if_pos c86]; done) | (rw [if_neg c86]; done)) ⟨_, _, _, _, _, wt, (((H_re.n (by omega)).n (by omega)).s), (((H_rw.n (by omega)).n (by omega)).n (by decide))⟩, (((((Fr.refl _ _).up (by simp)).up (by simp)).up (by simp)))⟩)
          · have c86 := i_eq (a := kd (nc - 1)) (b := 15) (by omega) (by decide) c86
            refine e_iloadn d_X6_takeNumber_89 rfl ?_
            refine e_gt d_X6_takeNumber_90 ?_
            refine e_puti d_X6_takeNumber_100 f_X6_110 H_tx.s (Nat.le_of_ble_eq_true rfl) ?_
            refine e_aloadn d_X6_takeNumber_103 rfl ?_
            refine e_iconst (v := 2) d_X6_takeNumber_104 (by decide) ?_
            refine e_puti d_X6_takeNumber_105 f_X6_31 ((H_re.n (by omega)).n (by omega)) (Nat.le_of_ble_eq_true rfl) ?_
            exact e_vret d_X6_takeNumber_108 rfl (⟨rfl, number_ok c9 c38 (my9 := _) (ne9 := _) ⟨hnc, kinds, edges, code, (H_tx.s.s.n (by omega)), (((H_tkk.n (by omega)).n (by omega)).n (by omega)), (((H_te.n (by omega)).n (by omega)).n (by omega)), (((H_tco.n (by omega)).n (by omega)).n (by omega)), hkd, hed, hco, htot⟩ (by first | (rw [if_pos c59]; done) | (rw [if_neg c59]; done)) (by first | (rw [if_pos c86]; done) | (rw [if_neg c86]; done)) ⟨_, _, _, _, _, wt, (((H_re.n (by omega)).n (by omega)).s), (((H_rw.n (by omega)).n (by omega)).n (by decide))⟩, (((((Fr.refl _ _).up (by simp)).up (by simp)).up (by simp)))⟩)
        · have c59 := i_eq (a := kd (nc - 1)) (b := 14) (by omega) (by decide) c59
          refine e_iloadn d_X6_takeNumber_62 rfl ?_
          refine e_gt d_X6_takeNumber_63 ?_
          refine e_puti d_X6_takeNumber_73 f_X6_107 H_tx (Nat.le_of_ble_eq_true rfl) ?_
          refine e_aloadn d_X6_takeNumber_76 rfl ?_
          refine e_get d_X6_takeNumber_77 f_X6_40 (H_re.n (by omega)) rfl ?_
          refine e_aloadn d_X6_takeNumber_80 rfl ?_
          refine e_get d_X6_takeNumber_81 f_X6_85 (H_re.n (by omega)) rfl ?_
          refine e_bipush (v := 15) d_X6_takeNumber_84 (by decide) ?_
          refine e_icmp_ne d_X6_takeNumber_86 (fun c86 => ?_) (fun c86 => ?_)
          · have c86 : ¬ kd (nc - 1) = 15 := fun z => c86 (by rw [z]; rfl)
            refine e_aloadn d_X6_takeNumber_93 rfl ?_
            refine e_get d_X6_takeNumber_94 f_X6_40 (H_re.n (by omega)) rfl ?_
            refine e_get d_X6_takeNumber_97 f_X6_110 H_tx.s rfl ?_
            refine e_puti d_X6_takeNumber_100 f_X6_110 H_tx.s (Nat.le_of_ble_eq_true rfl) ?_
            refine e_aloadn d_X6_takeNumber_103 rfl ?_
            refine e_iconst (v := 2) d_X6_takeNumber_104 (by decide) ?_
            refine e_puti d_X6_takeNumber_105 f_X6_31 ((H_re.n (by omega)).n (by omega)) (Nat.le_of_ble_eq_true rfl) ?_
            exact e_vret d_X6_takeNumber_108 rfl (⟨rfl, number_ok c9 c38 (my9 := _) (ne9 := _) ⟨hnc, kinds, edges, code, (H_tx.s.s.n (by omega)), (((H_tkk.n (by omega)).n (by omega)).n (by omega)), (((H_te.n (by omega)).n (by omega)).n (by omega)), (((H_tco.n (by omega)).n (by omega)).n (by omega)), hkd, hed, hco, htot⟩ (by first | (rw [if_pos c59]; done) | (rw [if_neg c59]; done)) (by first | (rw [if_pos c86]; done) | (rw [if_neg c86]; done)) ⟨_, _, _, _, _, wt, (((H_re.n (by omega)).n (by omega)).s), (((H_rw.n (by omega)).n (by omega)).n (by decide))⟩, (((((Fr.refl _ _).up (by simp)).up (by simp)).up (by simp)))⟩)
          · have c86 := i_eq (a := kd (nc - 1)) (b := 15) (by omega) (by decide) c86
            refine e_iloadn d_X6_takeNumber_89 rfl ?_
            refine e_gt d_X6_takeNumber_90 ?_
            refine e_puti d_X6_takeNumber_100 f_X6_110 H_tx.s (Nat.le_of_ble_eq_true rfl) ?_
            refine e_aloadn d_X6_takeNumber_103 rfl ?_
            refine e_iconst (v := 2) d_X6_takeNumber_104 (by decide) ?_
            refine e_puti d_X6_takeNumber_105 f_X6_31 ((H_re.n (by omega)).n (by omega)) (Nat.le_of_ble_eq_true rfl) ?_
            exact e_vret d_X6_takeNumber_108 rfl (⟨rfl, number_ok c9 c38 (my9 := _) (ne9 := _) ⟨hnc, kinds, edges, code, (H_tx.s.s.n (by omega)), (((H_tkk.n (by omega)).n (by omega)).n (by omega)), (((H_te.n (by omega)).n (by omega)).n (by omega)), (((H_tco.n (by omega)).n (by omega)).n (by omega)), hkd, hed, hco, htot⟩ (by first | (rw [if_pos c59]; done) | (rw [if_neg c59]; done)) (by first | (rw [if_pos c86]; done) | (rw [if_neg c86]; done)) ⟨_, _, _, _, _, wt, (((H_re.n (by omega)).n (by omega)).s), (((H_rw.n (by omega)).n (by omega)).n (by decide))⟩, (((((Fr.refl _ _).up (by simp)).up (by simp)).up (by simp)))⟩)
      · have c38 : limN (kd (nc - 1)) < t - 100 := by unfold limN; first | (rw [if_pos c27]; have := i_nle (a := t - 100) (b := 14) (by omega) (by decide) c38; omega) | (rw [if_neg c27]; have := i_nle (a := t - 100) (b := 9999) (by omega) (by decide) c38; omega)
        refine e_aloadn d_X6_takeNumber_41 rfl ?_
        refine e_iconst (v := 2) d_X6_takeNumber_42 (by decide) ?_
        have hg : gNumber t nc kd cd my ne = (2, (5, [], nc, kd, cd, my, ne)) := by
          unfold gNumber
          rw [if_neg (by omega), if_pos c38]
        refine e_callRVV d_X6_takeNumber_43 l_X6_takeNumber_73 H_re rfl rfl (s_X6_fail (q := 2) H_re H_rw) rfl rfl (Nat.le_of_ble_eq_true rfl) (fun h_43 q_43 s_43 => ?_)
        refine e_gt d_X6_takeNumber_46 ?_
        exact e_vret d_X6_takeNumber_108 rfl (⟨rfl, by rw [hg]; exact Or.inr ⟨by simp, q_43.1, (TxW.fr hT q_43.2 (by simp)).b⟩, q_43.2.mono (by simp)⟩)
    · have c27 := i_eq (a := kd (nc - 1)) (b := 14) (by omega) (by decide) c27
      refine e_bipush (v := 14) d_X6_takeNumber_30 (by decide) ?_
      refine e_gt d_X6_takeNumber_32 ?_
      refine e_icmp_le d_X6_takeNumber_38 (fun c38 => ?_) (fun c38 => ?_)
      · have c38 : ¬ limN (kd (nc - 1)) < t - 100 := by unfold limN; first | (rw [if_pos c27]; have := i_le (a := t - 100) (b := 14) (by omega) (by decide) c38; omega) | (rw [if_neg c27]; have := i_le (a := t - 100) (b := 9999) (by omega) (by decide) c38; omega)
        refine e_aloadn d_X6_takeNumber_49 rfl ?_
        refine e_get d_X6_takeNumber_50 f_X6_40 H_re rfl ?_
        refine e_aloadn d_X6_takeNumber_53 rfl ?_
        refine e_get d_X6_takeNumber_54 f_X6_85 H_re rfl ?_
        refine e_bipush (v := 14) d_X6_takeNumber_57 (by decide) ?_
        refine e_icmp_ne d_X6_takeNumber_59 (fun c59 => ?_) (fun c59 => ?_)
        · have c59 : ¬ kd (nc - 1) = 14 := fun z => c59 (by rw [z]; rfl)
          refine e_aloadn d_X6_takeNumber_66 rfl ?_
          refine e_get d_X6_takeNumber_67 f_X6_40 H_re rfl ?_
          refine e_get d_X6_takeNumber_70 f_X6_107 H_tx rfl ?_
          refine e_puti d_X6_takeNumber_73 f_X6_107 H_tx (Nat.le_of_ble_eq_true rfl) ?_
          refine e_aloadn d_X6_takeNumber_76 rfl ?_
          refine e_get d_X6_takeNumber_77 f_X6_40 (H_re.n (by omega)) rfl ?_
          refine e_aloadn d_X6_takeNumber_80 rfl ?_
          refine e_get d_X6_takeNumber_81 f_X6_85 (H_re.n (by omega)) rfl ?_
          refine e_bipush (v := 15) d_X6_takeNumber_84 (by decide) ?_
          refine e_icmp_ne d_X6_takeNumber_86 (fun c86 => ?_) (fun c86 => ?_)
          · have c86 : ¬ kd (nc - 1) = 15 := fun z => c86 (by rw [z]; rfl)
            refine e_aloadn d_X6_takeNumber_93 rfl ?_
            refine e_get d_X6_takeNumber_94 f_X6_40 (H_re.n (by omega)) rfl ?_
            refine e_get d_X6_takeNumber_97 f_X6_110 H_tx.s rfl ?_
            refine e_puti d_X6_takeNumber_100 f_X6_110 H_tx.s (Nat.le_of_ble_eq_true rfl) ?_
            refine e_aloadn d_X6_takeNumber_103 rfl ?_
            refine e_iconst (v := 2) d_X6_takeNumber_104 (by decide) ?_
            refine e_puti d_X6_takeNumber_105 f_X6_31 ((H_re.n (by omega)).n (by omega)) (Nat.le_of_ble_eq_true rfl) ?_
            exact e_vret d_X6_takeNumber_108 rfl (⟨rfl, number_ok c9 c38 (my9 := _) (ne9 := _) ⟨hnc, kinds, edges, code, (H_tx.s.s.n (by omega)), (((H_tkk.n (by omega)).n (by omega)).n (by omega)), (((H_te.n (by omega)).n (by omega)).n (by omega)), (((H_tco.n (by omega)).n (by omega)).n (by omega)), hkd, hed, hco, htot⟩ (by first | (rw [if_pos c59]; done) | (rw [if_neg c59]; done)) (by first | (rw [if_pos c86]; done) | (rw [if_neg c86]; done)) ⟨_, _, _, _, _, wt, (((H_re.n (by omega)).n (by omega)).s), (((H_rw.n (by omega)).n (by omega)).n (by decide))⟩, (((((Fr.refl _ _).up (by simp)).up (by simp)).up (by simp)))⟩)
          · have c86 := i_eq (a := kd (nc - 1)) (b := 15) (by omega) (by decide) c86
            refine e_iloadn d_X6_takeNumber_89 rfl ?_
            refine e_gt d_X6_takeNumber_90 ?_
            refine e_puti d_X6_takeNumber_100 f_X6_110 H_tx.s (Nat.le_of_ble_eq_true rfl) ?_
            refine e_aloadn d_X6_takeNumber_103 rfl ?_
            refine e_iconst (v := 2) d_X6_takeNumber_104 (by decide) ?_
            refine e_puti d_X6_takeNumber_105 f_X6_31 ((H_re.n (by omega)).n (by omega)) (Nat.le_of_ble_eq_true rfl) ?_
            exact e_vret d_X6_takeNumber_108 rfl (⟨rfl, number_ok c9 c38 (my9 := _) (ne9 := _) ⟨hnc, kinds, edges, code, (H_tx.s.s.n (by omega)), (((H_tkk.n (by omega)).n (by omega)).n (by omega)), (((H_te.n (by omega)).n (by omega)).n (by omega)), (((H_tco.n (by omega)).n (by omega)).n (by omega)), hkd, hed, hco, htot⟩ (by first | (rw [if_pos c59]; done) | (rw [if_neg c59]; done)) (by first | (rw [if_pos c86]; done) | (rw [if_neg c86]; done)) ⟨_, _, _, _, _, wt, (((H_re.n (by omega)).n (by omega)).s), (((H_rw.n (by omega)).n (by omega)).n (by decide))⟩, (((((Fr.refl _ _).up (by simp)).up (by simp)).up (by simp)))⟩)
        · have c59 := i_eq (a := kd (nc - 1)) (b := 14) (by omega) (by decide) c59
          refine e_iloadn d_X6_takeNumber_62 rfl ?_
          refine e_gt d_X6_takeNumber_63 ?_
          refine e_puti d_X6_takeNumber_73 f_X6_107 H_tx (Nat.le_of_ble_eq_true rfl) ?_
          refine e_aloadn d_X6_takeNumber_76 rfl ?_
          refine e_get d_X6_takeNumber_77 f_X6_40 (H_re.n (by omega)) rfl ?_
          refine e_aloadn d_X6_takeNumber_80 rfl ?_
          refine e_get d_X6_takeNumber_81 f_X6_85 (H_re.n (by omega)) rfl ?_
          refine e_bipush (v := 15) d_X6_takeNumber_84 (by decide) ?_
          refine e_icmp_ne d_X6_takeNumber_86 (fun c86 => ?_) (fun c86 => ?_)
          · have c86 : ¬ kd (nc - 1) = 15 := fun z => c86 (by rw [z]; rfl)
            refine e_aloadn d_X6_takeNumber_93 rfl ?_
            refine e_get d_X6_takeNumber_94 f_X6_40 (H_re.n (by omega)) rfl ?_
            refine e_get d_X6_takeNumber_97 f_X6_110 H_tx.s rfl ?_
            refine e_puti d_X6_takeNumber_100 f_X6_110 H_tx.s (Nat.le_of_ble_eq_true rfl) ?_
            refine e_aloadn d_X6_takeNumber_103 rfl ?_
            refine e_iconst (v := 2) d_X6_takeNumber_104 (by decide) ?_
            refine e_puti d_X6_takeNumber_105 f_X6_31 ((H_re.n (by omega)).n (by omega)) (Nat.le_of_ble_eq_true rfl) ?_
            exact e_vret d_X6_takeNumber_108 rfl (⟨rfl, number_ok c9 c38 (my9 := _) (ne9 := _) ⟨hnc, kinds, edges, code, (H_tx.s.s.n (by omega)), (((H_tkk.n (by omega)).n (by omega)).n (by omega)), (((H_te.n (by omega)).n (by omega)).n (by omega)), (((H_tco.n (by omega)).n (by omega)).n (by omega)), hkd, hed, hco, htot⟩ (by first | (rw [if_pos c59]; done) | (rw [if_neg c59]; done)) (by first | (rw [if_pos c86]; done) | (rw [if_neg c86]; done)) ⟨_, _, _, _, _, wt, (((H_re.n (by omega)).n (by omega)).s), (((H_rw.n (by omega)).n (by omega)).n (by decide))⟩, (((((Fr.refl _ _).up (by simp)).up (by simp)).up (by simp)))⟩)
          · have c86 := i_eq (a := kd (nc - 1)) (b := 15) (by omega) (by decide) c86
            refine e_iloadn d_X6_takeNumber_89 rfl ?_
            refine e_gt d_X6_takeNumber_90 ?_
            refine e_puti d_X6_takeNumber_100 f_X6_110 H_tx.s (Nat.le_of_ble_eq_true rfl) ?_
            refine e_aloadn d_X6_takeNumber_103 rfl ?_
            refine e_iconst (v := 2) d_X6_takeNumber_104 (by decide) ?_
            refine e_puti d_X6_takeNumber_105 f_X6_31 ((H_re.n (by omega)).n (by omega)) (Nat.le_of_ble_eq_true rfl) ?_
            exact e_vret d_X6_takeNumber_108 rfl (⟨rfl, number_ok c9 c38 (my9 := _) (ne9 := _) ⟨hnc, kinds, edges, code, (H_tx.s.s.n (by omega)), (((H_tkk.n (by omega)).n (by omega)).n (by omega)), (((H_te.n (by omega)).n (by omega)).n (by omega)), (((H_tco.n (by omega)).n (by omega)).n (by omega)), hkd, hed, hco, htot⟩ (by first | (rw [if_pos c59]; done) | (rw [if_neg c59]; done)) (by first | (rw [if_pos c86]; done) | (rw [if_neg c86]; done)) ⟨_, _, _, _, _, wt, (((H_re.n (by omega)).n (by omega)).s), (((H_rw.n (by omega)).n (by omega)).n (by decide))⟩, (((((Fr.refl _ _).up (by simp)).up (by simp)).up (by simp)))⟩)
      · have c38 : limN (kd (nc - 1)) < t - 100 := by unfold limN; first | (rw [if_pos c27]; have := i_nle (a := t - 100) (b := 14) (by omega) (by decide) c38; omega) | (rw [if_neg c27]; have := i_nle (a := t - 100) (b := 9999) (by omega) (by decide) c38; omega)
        refine e_aloadn d_X6_takeNumber_41 rfl ?_
        refine e_iconst (v := 2) d_X6_takeNumber_42 (by decide) ?_
        have hg : gNumber t nc kd cd my ne = (2, (5, [], nc, kd, cd, my, ne)) := by
          unfold gNumber
          rw [if_neg (by omega), if_pos c38]
        refine e_callRVV d_X6_takeNumber_43 l_X6_takeNumber_73 H_re rfl rfl (s_X6_fail (q := 2) H_re H_rw) rfl rfl (Nat.le_of_ble_eq_true rfl) (fun h_43 q_43 s_43 => ?_)
        refine e_gt d_X6_takeNumber_46 ?_
        exact e_vret d_X6_takeNumber_108 rfl (⟨rfl, by rw [hg]; exact Or.inr ⟨by simp, q_43.1, (TxW.fr hT q_43.2 (by simp)).b⟩, q_43.2.mono (by simp)⟩)
  · have c9 : t < 100 := Nat.lt_of_not_le (fun z => c9 (by rw [show nI t - 100 = nI (t - 100) from nI_subN (b := 100) z]; exact (nI_leI (a := 0) (by decide) (by omega)).mpr (Nat.zero_le _)))
    refine e_aloadn d_X6_takeNumber_12 rfl ?_
    refine e_iconst (v := 1) d_X6_takeNumber_13 (by decide) ?_
    have hg : gNumber t nc kd cd my ne = (1, (5, [], nc, kd, cd, my, ne)) := by
      unfold gNumber
      rw [if_pos c9]
    refine e_callRVV d_X6_takeNumber_14 l_X6_takeNumber_73 H_re rfl rfl (s_X6_fail (q := 1) H_re H_rw) rfl rfl (Nat.le_of_ble_eq_true rfl) (fun h_14 q_14 s_14 => ?_)
    refine e_gt d_X6_takeNumber_17 ?_
    exact e_vret d_X6_takeNumber_108 rfl (⟨rfl, by rw [hg]; exact Or.inr ⟨by simp, q_14.1, (TxW.fr hT q_14.2 (by simp)).b⟩, q_14.2.mono (by simp)⟩)

theorem s_X6_takeStop {h : AH} {t : Nat} {tp nc : Nat} {kd : Nat → Nat} {cd : Nat → List Nat} {my ne : Int32} {L : Nat} {at_ st ki : Int32} (hT : TxW h tp nc kd cd my ne) (hR : RdR h tp L at_ st (nI t) 2 ki) (ht : t < 20000) : Sp M_X6_takeStop (0, 0) h [.ref 22] (rV (fun h' => RCq h' tp L at_ st (nI t) (gStop t nc kd cd my ne) ∧ Fr [22, 23, 42 + 4 * tp, 43 + 4 * tp, 44 + 4 * tp, 45 + 4 * tp] h h')) := by
  refine ⟨Nat.le_of_ble_eq_true rfl, ?_⟩
  show E _ _ _ 0 h [some (.ref 22)] []
  obtain ⟨top9, op9, br9, sas9, cm9, wt, H_re, H_rw⟩ := id hR
  refine e_aloadn d_X6_takeStop_0 rfl ?_
  refine e_get d_X6_takeStop_1 f_X6_52 H_re rfl ?_
  refine e_bipush (v := 34) d_X6_takeStop_4 (by decide) ?_
  refine e_icmp_eq d_X6_takeStop_6 (fun c6 => ?_) (fun c6 => ?_)
  · have c6 := i_eq (a := t) (b := 34) (by omega) (by decide) c6
    refine e_aloadn d_X6_takeStop_14 rfl ?_
    refine e_iconst (v := 0) d_X6_takeStop_15 (by decide) ?_
    refine e_puti d_X6_takeStop_16 f_X6_31 H_re (Nat.le_of_ble_eq_true rfl) ?_
    exact e_vret d_X6_takeStop_19 rfl (⟨rfl, by unfold gStop; rw [if_pos c6]; exact Or.inl ⟨rfl, 0, cd, cdA_nil.symm, TxW.fr hT (S := [22]) ((Fr.refl _ _).up (by decide)) (by simp), fun _ => rfl, fun _ => ⟨ki, ⟨_, _, _, _, _, wt, H_re.s, (H_rw.n (by decide))⟩, fun h9 => absurd h9 (by simp)⟩, fun h9 => absurd h9 (by simp)⟩, (Fr.refl _ _).up (by simp)⟩)
  · have c6 : ¬ t = 34 := fun z => c6 (by rw [z]; rfl)
    refine e_aloadn d_X6_takeStop_9 rfl ?_
    refine e_iconst (v := 1) d_X6_takeStop_10 (by decide) ?_
    skip
    refine e_callRVV d_X6_takeStop_11 l_X6_takeStop_73 H_re rfl rfl (s_X6_fail (q := 1) H_re H_rw) rfl rfl (Nat.le_of_ble_eq_true rfl) (fun h_11 q_11 s_11 => ?_)
    obtain ⟨⟨⟨a9, b9, c9, l9, m9, n9, o9, p9, d9, e9, f9, x9, H_re2⟩, wt2, H_rw2⟩, -⟩ := id q_11
    refine e_aloadn d_X6_takeStop_14 rfl ?_
    refine e_iconst (v := 0) d_X6_takeStop_15 (by decide) ?_
    refine e_puti d_X6_takeStop_16 f_X6_31 H_re2 (Nat.le_of_ble_eq_true rfl) ?_
    exact e_vret d_X6_takeStop_19 rfl (⟨rfl, by unfold gStop; rw [if_neg c6]; exact Or.inr ⟨by simp, ⟨⟨_, _, _, _, _, _, _, _, _, _, _, _, H_re2.s⟩, _, (H_rw2.n (by decide))⟩, (TxW.fr hT (q_11.2.up (k := 22) (by decide)) (by simp)).b⟩, (q_11.2.up (k := 22) (by decide)).mono (by simp)⟩)
