/-! FROM THE LAW'S ENTRY -/
def an0 : Nat → Int32 := fillTo (-1) (fun _ => 0) 168
abbrev cn0 : Cn := Cn.mk 0 0 0 0 0 1000 0 0 an0
abbrev da0 : Da := Da.mk (fun _ _ => 0) (fun _ => 0) (fun _ => 0) (fun _ => 0) (fun _ => 0) (fun _ => 0) (fun _ => 0) (fun _ => 0) (fun _ => 0) (fun _ => (0, fun _ => 0, fun _ => [], -1, -1))
abbrev gh0 : Gh := (cn0, cn0, da0, 0, fun _ => 0, -1, -1)
theorem an0_at {j : Nat} (h : j < 168) : an0 j = -1 := by unfold an0 fillTo; rw [if_pos h]
theorem cn0_ok : CnOK cn0 da0 :=
  ⟨by decide, by decide, by decide, by decide, by decide, by decide, by decide, by decide, fun x k hx => absurd hx (Nat.not_lt_zero _), fun t ht => absurd ht (Nat.not_lt_zero _), fun t ht x hx => Or.inl (an0_at (by omega)), fun t ht x hx _ => an0_at (by omega), fun i hi => absurd hi (Nat.not_lt_zero _), fun i hi => absurd hi (Nat.not_lt_zero _), fun i hi => absurd hi (Nat.not_lt_zero _)⟩
theorem gh0_ok : GhOK gh0 := ⟨cn0_ok, cn0_ok, ⟨Nat.le_refl _, Nat.le_refl _, Nat.le_refl _, Nat.le_refl _, Nat.le_refl _⟩, Nat.zero_le _, fun _ _ => (by decide : (0 : Nat) < 256)⟩
theorem am0 {a : Nat → Int32} (h : ∀ j, j < 6 → a j = if j = 5 then 1000 else 0) : Am a cn0 da0 :=
  ⟨h 0 (by decide), h 1 (by decide), h 2 (by decide), h 3 (by decide), h 4 (by decide), h 5 (by decide), fun x k hx => absurd hx (Nat.not_lt_zero _), fun x hx => absurd hx (Nat.not_lt_zero _), fun x hx => absurd hx (Nat.not_lt_zero _), fun t ht => absurd ht (Nat.not_lt_zero _), fun t ht => absurd ht (Nat.not_lt_zero _), fun i hi => absurd hi (Nat.not_lt_zero _), fun i hi => absurd hi (Nat.not_lt_zero _)⟩
theorem law_start {h : AH} {L : Nat} {xs : Nat → Int32} (hL : L ≤ 3072) (hs : h.1 = (L, xs)) (hz : h.2.1 = 0) : E M_L_law (16476, 60119) (fun v _ => v = some (.int 1)) 0 h [some (.float 0), none, none, none] [] := by
  refine n_O (ci := 10) (fs := [.null, .null, .null, .null, .null, .int 0, .null, .int 0, .null, .int 0, .int 0, .int 0, .null, .null, .null, .null, .null, .null]) (N := 18) (b := 0) (κ' := (16475, 60101)) d_L_law_0 rfl ⟨lw_in 100 (by decide +kernel) rfl, lw_in 101 (by decide +kernel) rfl, lw_in 80 (by decide +kernel) rfl⟩ (fsdef rfl (by decide +kernel)) (fun g => rfl) hz rfl rfl (fun h1 A1 z1 f1 => ?_)
  refine e_dup d_L_law_3 rfl ?_
  refine e_ctor d_L_law_4 l_L_law_9 (s_X10_init A1 z1) (Nat.le_of_ble_eq_true rfl) (by decide) (fun h2 q2 => ?_)
  obtain ⟨sc2, zP, P0, P1, P2, P3, P4, P5, P6, P7, P8, P9, P10, P11, P12, P13, P14, P15, P16, P17, P18, P19, P21, P22, P23, P24, P25, P26, P27, P28, P29, P30, P31, P32, P33, P34, P35, P36, P37, P38, P39, P40, P41, P42, P43, P44, P45, P46, P47, P48, P49, P50, P51, P52, P53, P54, P55, P56, P57, P58, P59, P60, P61, P62, P63, P64, P65, tx, P20, etx⟩ := q2
  refine e_astoren d_L_law_7 (by decide) rfl ?_
  refine n_O (ci := 11) (fs := [.null, .null, .null, .int 0, .int 0, .int 0, .null, .null, .null, .null, .null, .null, .long 0, .long 0, .int 0, .int 0, .int 0, .int 0, .int 0, .int 0, .int 0, .int 0, .int 0, .null, .null, .int 0, .null, .null, .int 0, .int 0, .int 0, .null, .null, .null, .int 0, .null, .null, .null, .null, .int 0, .null, .null, .null, .null, .null, .null, .long 0, .long 0]) (N := 48) (b := 66) (κ' := (16409, 56542)) d_L_law_8 rfl ⟨lw_in 985 (by decide +kernel) rfl, lw_in 986 (by decide +kernel) rfl, lw_in 92 (by decide +kernel) rfl⟩ (fsdef rfl (by decide +kernel)) (fun g => rfl) zP rfl rfl (fun h3 A3 z3 f3 => ?_)
  refine e_dup d_L_law_11 rfl ?_
  refine e_ctor d_L_law_12 l_L_law_12 (s_X11_init A3 z3) (Nat.le_of_ble_eq_true rfl) (by decide) (fun h4 q4 => ?_)
  obtain ⟨zR, fr4, R66, R67, R68, R69, R70, R71, R72, R73, R74, R75, R76, R77, R78, R79, R80, R81, R82, R83, R84, R85, R86, R87, R88, R89, R90, R91, R92⟩ := q4
  refine e_astoren d_L_law_15 (by decide) rfl ?_
  refine e_iconst (v := 0) d_L_law_16 (by decide) ?_
  refine e_istoren d_L_law_17 (by decide) rfl ?_
  have F : Fr [66] h2 h4 := (Fr.any f3).trans fr4
  have hs4 : h4.1 = (L, xs) := F.1.trans (sc2.trans (f1.1.trans hs))
  have P0 := F.hs P0 (by decide)
  have P1 := F.hs P1 (by decide)
  have P2 := F.hs P2 (by decide)
  have P3 := F.hs P3 (by decide)
  have P4 := F.hs P4 (by decide)
  have P5 := F.hs P5 (by decide)
  have P6 := F.hs P6 (by decide)
  have P7 := F.hs P7 (by decide)
  have P8 := F.hs P8 (by decide)
  have P9 := F.hs P9 (by decide)
  have P10 := F.hs P10 (by decide)
  have P11 := F.hs P11 (by decide)
  have P12 := F.hs P12 (by decide)
  have P13 := F.hs P13 (by decide)
  have P14 := F.hs P14 (by decide)
  have P15 := F.hs P15 (by decide)
  have P16 := F.hs P16 (by decide)
  have P17 := F.hs P17 (by decide)
  have P18 := F.hs P18 (by decide)
  have P19 := F.hs P19 (by decide)
  have P21 := F.hs P21 (by decide)
  have P22 := F.hs P22 (by decide)
  have P23 := F.hs P23 (by decide)
  have P24 := F.hs P24 (by decide)
  have P25 := F.hs P25 (by decide)
  have P26 := F.hs P26 (by decide)
  have P27 := F.hs P27 (by decide)
  have P28 := F.hs P28 (by decide)
  have P29 := F.hs P29 (by decide)
  have P30 := F.hs P30 (by decide)
  have P31 := F.hs P31 (by decide)
  have P32 := F.hs P32 (by decide)
  have P33 := F.hs P33 (by decide)
  have P34 := F.hs P34 (by decide)
  have P35 := F.hs P35 (by decide)
  have P36 := F.hs P36 (by decide)
  have P37 := F.hs P37 (by decide)
  have P38 := F.hs P38 (by decide)
  have P39 := F.hs P39 (by decide)
  have P40 := F.hs P40 (by decide)
  have P41 := F.hs P41 (by decide)
  have P42 := F.hs P42 (by decide)
  have P43 := F.hs P43 (by decide)
  have P44 := F.hs P44 (by decide)
  have P45 := F.hs P45 (by decide)
  have P46 := F.hs P46 (by decide)
  have P47 := F.hs P47 (by decide)
  have P48 := F.hs P48 (by decide)
  have P49 := F.hs P49 (by decide)
  have P50 := F.hs P50 (by decide)
  have P51 := F.hs P51 (by decide)
  have P52 := F.hs P52 (by decide)
  have P53 := F.hs P53 (by decide)
  have P54 := F.hs P54 (by decide)
  have P55 := F.hs P55 (by decide)
  have P56 := F.hs P56 (by decide)
  have P57 := F.hs P57 (by decide)
  have P58 := F.hs P58 (by decide)
  have P59 := F.hs P59 (by decide)
  have P60 := F.hs P60 (by decide)
  have P61 := F.hs P61 (by decide)
  have P62 := F.hs P62 (by decide)
  have P63 := F.hs P63 (by decide)
  have P64 := F.hs P64 (by decide)
  have P65 := F.hs P65 (by decide)
  have P20 := F.hs P20 (by decide)
  have hB : ∀ t, t < 6 → TxB h4 t := fun t ht => by
    have : t = 0 ∨ t = 1 ∨ t = 2 ∨ t = 3 ∨ t = 4 ∨ t = 5 := by omega
    rcases this with rfl | rfl | rfl | rfl | rfl | rfl
    · exact ⟨0, 0, 0, _, _, _, P42, P43, P44, P45, rfl⟩
    · exact ⟨0, 0, 0, _, _, _, P46, P47, P48, P49, rfl⟩
    · exact ⟨0, 0, 0, _, _, _, P50, P51, P52, P53, rfl⟩
    · exact ⟨0, 0, 0, _, _, _, P54, P55, P56, P57, rfl⟩
    · exact ⟨0, 0, 0, _, _, _, P58, P59, P60, P61, rfl⟩
    · exact ⟨0, 0, 0, _, _, _, P62, P63, P64, P65, rfl⟩
  have IC : InvC h4 gh0 1 := by
    refine ⟨by rw [zR]; decide, P0, ⟨by decide, cn0_ok.hca, _, _, _, _, P1, P2, P3, P4, P5, fun c hc => absurd hc (Nat.not_lt_zero _)⟩, ⟨_, _, _, P6, P7, P8, P9, P10, P11, fun t ht => absurd ht (Nat.not_lt_zero _)⟩, ⟨15, 16, _, _, _, _, 0, 0, Or.inl ⟨rfl, rfl⟩, P12, P13, P14, P15, P16, fun i hi => absurd hi (Nat.not_lt_zero _)⟩, ⟨_, _, P17, P18, P19, fun i hi => absurd hi (Nat.not_lt_zero _)⟩, ⟨tx, P20, etx⟩, ⟨_, P21, fun k hk => rfl⟩, ⟨hB, fun t ht => absurd ht (Nat.not_lt_zero _)⟩, ⟨⟨0, 0, 0, 0, 0, 0, 0, 0, 0, 0, 0, 0, 0, .null, .null, P22⟩, _, P23⟩, ⟨_, P24, P25, _, P26⟩, ⟨-1, [], ⟨30, _, _, _, P27, P28, P29, P30, Or.inl rfl, by decide, by decide, by decide, fun j v hj => by simp at hj, fun x hx => absurd hx List.not_mem_nil⟩, Or.inl rfl, 0, by decide, rfl⟩, ⟨0, _, _, _, P31, P32, P33, P34, rfl, rfl⟩, ⟨0, _, _, _, P35, P36, P37, P38, rfl, rfl⟩, ⟨_, P39⟩, ⟨P40, P41⟩⟩
  have IM : InvM h4 gh0 := by
    refine ⟨⟨_, _, _, _, _, _, _, _, _, _, _, _, _, _, _, _, _, _, _, R66⟩, ⟨_, R67, am0 (by decide)⟩, ⟨_, R68, am0 (by decide)⟩, ⟨_, R69, fun k hk => (by decide : (0 : Int32) = sbI 0)⟩, fun t ht => absurd ht (Nat.not_lt_zero _), ⟨⟨_, _, _, _, _, _, R70, R71, R72, R73, R74, R75⟩, ⟨_, _, _, _, R76, R77, R78, R79⟩, _, _, _, _, _, R80, R81, R82, R83, R84⟩, ⟨⟨⟨_, R85⟩, _, R86⟩, ⟨_, R88⟩, _, R89⟩, ⟨_, R87⟩, ⟨_, R90⟩, ⟨_, R91⟩, ⟨_, R92⟩⟩
  exact law_loop hL L 0 h4 gh0 1 (by omega) (Nat.zero_le _) hs4 IC IM gh0_ok
theorem law_cls {args : Array Value} {s : State} (hts : ∀ w ∈ lw_good, w.before args s = true) : ∃ G : va_G, ∀ (c : Nat) (q : vw_C), vwCl[c]? = some q → u_Kn s q.1 q.2.1 q.2.2 (G.1 c) (G.2 c) := by
  have h : ∀ c : Nat, ∃ x : ClassId × (Nat → Nat), ∀ q : vw_C, vwCl[c]? = some q → u_Kn s q.1 q.2.1 q.2.2 x.1 x.2 := fun c => by
    by_cases hc : c < 12
    · have : c = 0 ∨ c = 1 ∨ c = 2 ∨ c = 3 ∨ c = 4 ∨ c = 5 ∨ c = 6 ∨ c = 7 ∨ c = 8 ∨ c = 9 ∨ c = 10 ∨ c = 11 := by omega
      rcases this with rfl | rfl | rfl | rfl | rfl | rfl | rfl | rfl | rfl | rfl | rfl | rfl
      · obtain ⟨cC, iS, z⟩ := u_known hts (Cg_all (ci := 0) rfl).1 (hts (Cond.instantiable "MorningCoin$Children" 7) (lw_in 109 (by decide +kernel) rfl))
        exact ⟨(cC, iS), fun q hq => by cases hq; exact z⟩
      · obtain ⟨cC, iS, z⟩ := u_known hts (Cg_all (ci := 1) rfl).1 (hts (Cond.instantiable "MorningCoin$Dealings" 5) (lw_in 300 (by decide +kernel) rfl))
        exact ⟨(cC, iS), fun q hq => by cases hq; exact z⟩
      · obtain ⟨cC, iS, z⟩ := u_known hts (Cg_all (ci := 2) rfl).1 (hts (Cond.instantiable "MorningCoin$Image" 9) (lw_in 346 (by decide +kernel) rfl))
        exact ⟨(cC, iS), fun q hq => by cases hq; exact z⟩
      · obtain ⟨cC, iS, z⟩ := u_known hts (Cg_all (ci := 3) rfl).1 (hts (Cond.instantiable "MorningCoin$Judge" 2) (lw_in 287 (by decide +kernel) rfl))
        exact ⟨(cC, iS), fun q hq => by cases hq; exact z⟩
      · obtain ⟨cC, iS, z⟩ := u_known hts (Cg_all (ci := 4) rfl).1 (hts (Cond.instantiable "MorningCoin$Land" 3) (lw_in 211 (by decide +kernel) rfl))
        exact ⟨(cC, iS), fun q hq => by cases hq; exact z⟩
      · obtain ⟨cC, iS, z⟩ := u_known hts (Cg_all (ci := 5) rfl).1 (hts (Cond.instantiable "MorningCoin$Links" 7) (lw_in 180 (by decide +kernel) rfl))
        exact ⟨(cC, iS), fun q hq => by cases hq; exact z⟩
      · obtain ⟨cC, iS, z⟩ := u_known hts (Cg_all (ci := 6) rfl).1 (hts (Cond.instantiable "MorningCoin$Reader" 16) (lw_in 230 (by decide +kernel) rfl))
        exact ⟨(cC, iS), fun q hq => by cases hq; exact z⟩
      · obtain ⟨cC, iS, z⟩ := u_known hts (Cg_all (ci := 7) rfl).1 (hts (Cond.instantiable "MorningCoin$Tally" 4) (lw_in 327 (by decide +kernel) rfl))
        exact ⟨(cC, iS), fun q hq => by cases hq; exact z⟩
      · obtain ⟨cC, iS, z⟩ := u_known hts (Cg_all (ci := 8) rfl).1 (hts (Cond.instantiable "MorningCoin$Text" 6) (lw_in 382 (by decide +kernel) rfl))
        exact ⟨(cC, iS), fun q hq => by cases hq; exact z⟩
      · obtain ⟨cC, iS, z⟩ := u_known hts (Cg_all (ci := 9) rfl).1 (hts (Cond.instantiable "MorningCoin$Things" 6) (lw_in 147 (by decide +kernel) rfl))
        exact ⟨(cC, iS), fun q hq => by cases hq; exact z⟩
      · obtain ⟨cC, iS, z⟩ := u_known hts (Cg_all (ci := 10) rfl).1 (hts (Cond.instantiable "MorningCoin" 18) (lw_in 101 (by decide +kernel) rfl))
        exact ⟨(cC, iS), fun q hq => by cases hq; exact z⟩
      · obtain ⟨cC, iS, z⟩ := u_known hts (Cg_all (ci := 11) rfl).1 (hts (Cond.instantiable "MorningCoinModel" 48) (lw_in 986 (by decide +kernel) rfl))
        exact ⟨(cC, iS), fun q hq => by cases hq; exact z⟩
    · exact ⟨(0, fun _ => 0), fun q hq => by
        have : c < vwCl.length := (List.getElem?_eq_some_iff.mp hq).1
        exact absurd this hc⟩
  obtain ⟨f, hf⟩ := Classical.axiomOfChoice h
  exact ⟨(fun c => (f c).1, fun c => (f c).2), hf⟩
theorem law_nest {args : Array Value} {s : State} (hts : ∀ w ∈ lw_tbl, w.before args s = true) : ∀ w ∈ lw_nest, va_Nw (.methodLinkNest w.1 w.2.1 w.2.2.1 w.2.2.2) s := by
  have h : ∀ w ∈ lw_nest, Cond.methodLinkNest w.1 w.2.1 w.2.2.1 w.2.2.2 ∈ lw_tbl := by decide +kernel
  exact fun w hw => va_Nw.of rfl (hts _ (h w hw))
def strT : Term := Term.string "MorningCoin$Reader" 156
theorem law_str {args : Array Value} {s : State} {A : Nat → Prop} (hg : (Jvm.Cond.and given_1 narrow_1).before args s = true) (hA : ∀ a : Nat, a < s.heap.size → ¬ A a) : ∃ adK adV : Nat → Nat, vk_S 1 [108] [wBytes] adK adV A s s.heap ∧ ∀ i : Nat, i < 1 → strT.eval args s none [] s = some (.ref (adK i)) := by
  have hs := flat_of_before _ hg
  have he : ∀ j, j < 108 → Cond.eq (.elem (.field strT "java/lang/String" "value" "[B") (.int (Int32.ofNat j))) (.int (wBytes.getD j 0)) ∈ flatC (Jvm.Cond.and given_1 narrow_1) := by decide +kernel
  refine vk_Sof (tm := fun _ => strT) ?_ (fun _ _ => hs _ (by decide +kernel)) (fun _ _ => hs _ (by decide +kernel)) (fun _ _ => hs _ (by decide +kernel)) ?_ ?_ ?_ hA
  · intro i hi
    obtain rfl : i = 0 := by omega
    decide
  · intro i hi
    obtain rfl : i = 0 := by omega
    exact hs _ (by decide +kernel)
  · intro i hi j hj
    obtain rfl : i = 0 := by omega
    exact hs _ (he j hj)
  · intro i j hi hj hne
    omega
