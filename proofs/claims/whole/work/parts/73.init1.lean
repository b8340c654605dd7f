/-! CONSTRUCTORS -/
section NEWQ
variable {M : MD} {κ κ' : Nat × Nat} {Q : Option Value → AH → Prop} {pc pc2 : Nat} {h : AH} {ls : List (Option Value)} {st : List Value} {nn : Int32} {N b : Nat}
theorem n_I (hd : decode M.2.1 pc = .ok (.newarray .int, 2) ∧ pc2 = pc + 2) (hz : h.2.1 = b) (hn : nn = nI N) (hN : N ≤ 100000) (h1 : κ.1 = κ'.1 + 1) (h2 : κ.2 = κ'.2 + N) (kk : ∀ h1 : AH, Hs h1 b (aI N (fun _ => 0)) → h1.2.1 = b + 1 → Fr [] h h1 → E M κ' Q pc2 h1 ls (.ref b :: st)) : E M κ Q pc h ls (.int nn :: st) := by
  subst hz; exact e_newI hd hn hN h1 h2 (kk _ (Hs.new _ _) rfl (Fr.refl [] h).pu)
theorem n_Z (hd : decode M.2.1 pc = .ok (.newarray .boolean, 2) ∧ pc2 = pc + 2) (hz : h.2.1 = b) (hn : nn = nI N) (hN : N ≤ 100000) (h1 : κ.1 = κ'.1 + 1) (h2 : κ.2 = κ'.2 + N) (kk : ∀ h1 : AH, Hs h1 b (aZ N (fun _ => 0)) → h1.2.1 = b + 1 → Fr [] h h1 → E M κ' Q pc2 h1 ls (.ref b :: st)) : E M κ Q pc h ls (.int nn :: st) := by
  subst hz; exact e_newZ hd hn hN h1 h2 (kk _ (Hs.new _ _) rfl (Fr.refl [] h).pu)
theorem n_B (hd : decode M.2.1 pc = .ok (.newarray .byte, 2) ∧ pc2 = pc + 2) (hz : h.2.1 = b) (hn : nn = nI N) (hN : N ≤ 100000) (h1 : κ.1 = κ'.1 + 1) (h2 : κ.2 = κ'.2 + N) (kk : ∀ h1 : AH, Hs h1 b (aB N (fun _ => 0)) → h1.2.1 = b + 1 → Fr [] h h1 → E M κ' Q pc2 h1 ls (.ref b :: st)) : E M κ Q pc h ls (.int nn :: st) := by
  subst hz; exact e_newB hd hn hN h1 h2 (kk _ (Hs.new _ _) rfl (Fr.refl [] h).pu)
theorem n_J (hd : decode M.2.1 pc = .ok (.newarray .long, 2) ∧ pc2 = pc + 2) (hz : h.2.1 = b) (hn : nn = nI N) (hN : N ≤ 100000) (h1 : κ.1 = κ'.1 + 1) (h2 : κ.2 = κ'.2 + N) (kk : ∀ h1 : AH, Hs h1 b (aJ N (fun _ => 0)) → h1.2.1 = b + 1 → Fr [] h h1 → E M κ' Q pc2 h1 ls (.ref b :: st)) : E M κ Q pc h ls (.int nn :: st) := by
  subst hz; exact e_newJ hd hn hN h1 h2 (kk _ (Hs.new _ _) rfl (Fr.refl [] h).pu)
theorem n_T {idx : Nat} (hd : decode M.2.1 pc = .ok (.anewarray idx, 3) ∧ pc2 = pc + 3) (hw : Cond.classLink M.1.cls idx "MorningCoin$Text" ∈ lw_good) (hz : h.2.1 = b) (hn : nn = nI N) (hN : N ≤ 100000) (h1 : κ.1 = κ'.1 + 1) (h2 : κ.2 = κ'.2 + N) (kk : ∀ h1 : AH, Hs h1 b (aT N (fun _ => none)) → h1.2.1 = b + 1 → Fr [] h h1 → E M κ' Q pc2 h1 ls (.ref b :: st)) : E M κ Q pc h ls (.int nn :: st) := by
  subst hz; exact e_newT hd hw (nn_of hn hN).1 (nn_of hn hN).2 (by omega) h1 h2 (kk _ (Hs.new _ _) rfl (Fr.refl [] h).pu)
theorem n_O {idx ci : Nat} {C : String} {fs : List Value} (hd : decode M.2.1 pc = .ok (.new idx, 3) ∧ pc2 = pc + 3) (hq : (vwCl[ci]?).map (fun q => (q.1, q.2.2)) = some (C, N)) (hw : Cond.classLink M.1.cls idx C ∈ lw_good ∧ Cond.instantiable C N ∈ lw_good ∧ Cond.initialized C ∈ lw_good)
    (hfs : ∀ q : vw_C, vwCl[ci]? = some q → ∀ j, j < N → (parseFieldDescriptor (q.2.1 j).2.2.1).map defaultValue = some (vp_V fs j)) (hfg : ∀ g : GC, fs.map (gv g) = fs) (hz : h.2.1 = b)
    (h1 : κ.1 = κ'.1 + 1) (h2 : κ.2 = κ'.2 + N) (kk : ∀ h1 : AH, Hs h1 b (.inr (ci, fs)) → h1.2.1 = b + 1 → Fr [] h h1 → E M κ' Q pc2 h1 ls (.ref b :: st)) : E M κ Q pc h ls st := by
  subst hz; exact e_new hd hq hw hfs hfg h1 h2 (kk _ (Hs.new _ _) rfl (Fr.refl [] h).pu)
variable {idx a ci k : Nat} {fs fs' : List Value} {x : Int32}
theorem q_K (hc : Hs h a (.inr (ci, fs))) (v : Value) (he : fs.set k v = fs') (kk : ∀ h1 : AH, Hs h1 a (.inr (ci, fs')) → h1.2.1 = h.2.1 → Fr [a] h h1 → E M κ Q pc2 h1 ls st) : E M κ Q pc2 (up h a (.inr (ci, fs.set k v))) ls st := kk _ (he ▸ hc.s) rfl ((Fr.refl [a] h).up (List.mem_singleton.mpr rfl))
theorem q_aF {b : Nat} {ty : FieldType} (hd : decode M.2.1 pc = .ok (.putfield idx, 3) ∧ pc2 = pc + 3) (hF : Fl M.1.cls idx ci k (.array ty) true) (hi : M.1.name = "<init>") (hi2 : (vwCl[ci]?).map (·.1) = some M.1.cls) (hc : Hs h a (.inr (ci, fs))) (hkl : k < fs.length) (he : fs.set k (.ref b) = fs') (kk : ∀ h1 : AH, Hs h1 a (.inr (ci, fs')) → h1.2.1 = h.2.1 → Fr [a] h h1 → E M κ Q pc2 h1 ls st) : E M κ Q pc h ls (.ref b :: .ref a :: st) := e_putaF hd hF hi hi2 hc hkl (q_K hc _ he kk)
theorem q_oF {b : Nat} {C : String} (hd : decode M.2.1 pc = .ok (.putfield idx, 3) ∧ pc2 = pc + 3) (hF : Fl M.1.cls idx ci k (.object C) true) (hi : M.1.name = "<init>") (hi2 : (vwCl[ci]?).map (·.1) = some M.1.cls) (hc : Hs h a (.inr (ci, fs))) (hkl : k < fs.length) (he : fs.set k (.ref b) = fs') (kk : ∀ h1 : AH, Hs h1 a (.inr (ci, fs')) → h1.2.1 = h.2.1 → Fr [a] h h1 → E M κ Q pc2 h1 ls st) : E M κ Q pc h ls (.ref b :: .ref a :: st) := e_putoF hd hF hi hi2 hc hkl (q_K hc _ he kk)
theorem q_a {b : Nat} {ty : FieldType} (hd : decode M.2.1 pc = .ok (.putfield idx, 3) ∧ pc2 = pc + 3) (hF : Fl M.1.cls idx ci k (.array ty) false) (hc : Hs h a (.inr (ci, fs))) (hkl : k < fs.length) (he : fs.set k (.ref b) = fs') (kk : ∀ h1 : AH, Hs h1 a (.inr (ci, fs')) → h1.2.1 = h.2.1 → Fr [a] h h1 → E M κ Q pc2 h1 ls st) : E M κ Q pc h ls (.ref b :: .ref a :: st) := e_puta hd hF hc hkl (q_K hc _ he kk)
theorem q_i (hd : decode M.2.1 pc = .ok (.putfield idx, 3) ∧ pc2 = pc + 3) (hF : Fl M.1.cls idx ci k .int false) (hc : Hs h a (.inr (ci, fs))) (hkl : k < fs.length) (he : fs.set k (.int x) = fs') (kk : ∀ h1 : AH, Hs h1 a (.inr (ci, fs')) → h1.2.1 = h.2.1 → Fr [a] h h1 → E M κ Q pc2 h1 ls st) : E M κ Q pc h ls (.int x :: .ref a :: st) := e_puti hd hF hc hkl (q_K hc _ he kk)
end NEWQ
theorem Fr.new {S : List Nat} {h h1 h2 : AH} {b : Nat} (F : Fr S h h1) (hb : h.2.1 ≤ b) (G : Fr [b] h1 h2) : Fr S h h2 := ⟨G.1.trans F.1, Nat.le_trans F.2.1 G.2.1, fun k hk hS => (G.2.2 k (Nat.lt_of_lt_of_le hk F.2.1) (fun z => by rw [List.mem_singleton] at z; omega)).trans (F.2.2 k hk hS)⟩
theorem fsdef {ci N : Nat} {fs : List Value} {q0 : vw_C} (h0 : vwCl[ci]? = some q0) (h : ∀ j, j < N → (parseFieldDescriptor (q0.2.1 j).2.2.1).map defaultValue = some (vp_V fs j)) : ∀ q : vw_C, vwCl[ci]? = some q → ∀ j, j < N → (parseFieldDescriptor (q.2.1 j).2.2.1).map defaultValue = some (vp_V fs j) := by
  intro q hq; rw [h0] at hq; cases hq; exact h
theorem Fr.any {S : List Nat} {h h' : AH} (F : Fr [] h h') : Fr S h h' := F.mono (fun _ z => absurd z List.not_mem_nil)
theorem e_ctorN {M N : MD} {κ κ1 : Nat × Nat} {Q : Option Value → AH → Prop} {P : AH → Prop} {pc pc2 idx b : Nat} {h : AH} {ls : List (Option Value)} {rest : List Value} (hd : decode M.2.1 pc = .ok (.invokespecial idx, 3) ∧ pc2 = pc + 3) (hL : LcIN M idx N 0) (hsp : Sp N κ1 h [.ref b] (rV P)) (hw : (rest.map fun v => v.category).sum ≤ 8) (hκ : κ1.1 ≤ κ.1 ∧ κ1.2 ≤ κ.2)
    (k : ∀ h' : AH, P h' → E M (κ.1 - κ1.1, κ.2 - κ1.2) Q pc2 h' ls rest) : E M κ Q pc h ls (.ref b :: rest) :=
  e_specialN (ci := 0) (fs := []) (q := ("", fun _ => ("", "", "", false), 0)) (av := []) hd hL hsp rfl rfl hw hκ (fun v h' q _ => by obtain ⟨rfl, q⟩ := q; exact k h' q)
theorem e_ctor {M N : MD} {κ κ1 : Nat × Nat} {Q : Option Value → AH → Prop} {P : AH → Prop} {pc pc2 idx b : Nat} {h : AH} {ls : List (Option Value)} {rest : List Value} (hd : decode M.2.1 pc = .ok (.invokespecial idx, 3) ∧ pc2 = pc + 3) (hL : LcI M idx N 0) (hsp : Sp N κ1 h [.ref b] (rV P)) (hw : (rest.map fun v => v.category).sum ≤ 8) (hκ : κ1.1 ≤ κ.1 ∧ κ1.2 ≤ κ.2)
    (k : ∀ h' : AH, P h' → E M (κ.1 - κ1.1, κ.2 - κ1.2) Q pc2 h' ls rest) : E M κ Q pc h ls (.ref b :: rest) :=
  e_special (ci := 0) (fs := []) (q := ("", fun _ => ("", "", "", false), 0)) (av := []) hd hL hsp rfl rfl hw hκ (fun v h' q _ => by obtain ⟨rfl, q⟩ := q; exact k h' q)

theorem s_X0_init {h : AH} {a s : Nat} (H : Hs h a (.inr (0, [.null, .null, .null, .null, .int 0, .int 0, .int 0]))) (hz : h.2.1 = s) : Sp M_X0_init (4, 56) h [.ref a] (rV (fun h' => h'.2.1 = s + 4 ∧ Fr [a] h h' ∧ Hs h' a (.inr (0, [.ref (s), .ref (s + 1), .ref (s + 2), .ref (s + 3), .int 0, .int 0, .int 0])) ∧ Hs h' (s) (aI 14 (fun _ => 0)) ∧ Hs h' (s + 1) (aI 14 (fun _ => 0)) ∧ Hs h' (s + 2) (aI 14 (fun _ => 0)) ∧ Hs h' (s + 3) (aI 14 (fun _ => 0)))) := by
  refine ⟨Nat.le_of_ble_eq_true rfl, ?_⟩
  show E _ _ _ 0 h [some (.ref a)] []
  have ha : a < s := hz ▸ H.1
  refine e_aloadn d_X0_init_0 rfl ?_
  refine e_objInit d_X0_init_1 ⟨lw_in 113 (by decide +kernel) rfl, lw_in 106 (by decide +kernel) rfl, lw_in 107 (by decide +kernel) rfl⟩ (Nat.le_of_ble_eq_true rfl) (Nat.le_of_ble_eq_true rfl) ?_
  refine e_aloadn d_X0_init_4 rfl ?_
  refine e_bipush (v := 14) d_X0_init_5 (by decide) ?_
  refine n_I (N := 14) (b := s) (κ' := (3, 42)) d_X0_init_7 hz (by decide) (by decide) rfl rfl (fun h1 A1 z1 f1 => ?_)
  have H1 := f1.hs H List.not_mem_nil
  refine q_aF (fs' := [.ref (s), .null, .null, .null, .int 0, .int 0, .int 0]) d_X0_init_9 f_X0_9 rfl rfl H1 (Nat.le_of_ble_eq_true rfl) rfl (fun h2 H2 y2 f2 => ?_)
  have z2 := y2.trans z1
  refine e_aloadn d_X0_init_12 rfl ?_
  refine e_bipush (v := 14) d_X0_init_13 (by decide) ?_
  refine n_I (N := 14) (b := s + 1) (κ' := (2, 28)) d_X0_init_15 z2 (by decide) (by decide) rfl rfl (fun h3 A3 z3 f3 => ?_)
  have H3 := f3.hs H2 List.not_mem_nil
  refine q_aF (fs' := [.ref (s), .ref (s + 1), .null, .null, .int 0, .int 0, .int 0]) d_X0_init_17 f_X0_15 rfl rfl H3 (Nat.le_of_ble_eq_true rfl) rfl (fun h4 H4 y4 f4 => ?_)
  have z4 := y4.trans z3
  refine e_aloadn d_X0_init_20 rfl ?_
  refine e_bipush (v := 14) d_X0_init_21 (by decide) ?_
  refine n_I (N := 14) (b := s + 2) (κ' := (1, 14)) d_X0_init_23 z4 (by decide) (by decide) rfl rfl (fun h5 A5 z5 f5 => ?_)
  have H5 := f5.hs H4 List.not_mem_nil
  refine q_aF (fs' := [.ref (s), .ref (s + 1), .ref (s + 2), .null, .int 0, .int 0, .int 0]) d_X0_init_25 f_X0_18 rfl rfl H5 (Nat.le_of_ble_eq_true rfl) rfl (fun h6 H6 y6 f6 => ?_)
  have z6 := y6.trans z5
  refine e_aloadn d_X0_init_28 rfl ?_
  refine e_bipush (v := 14) d_X0_init_29 (by decide) ?_
  refine n_I (N := 14) (b := s + 3) (κ' := (0, 0)) d_X0_init_31 z6 (by decide) (by decide) rfl rfl (fun h7 A7 z7 f7 => ?_)
  have H7 := f7.hs H6 List.not_mem_nil
  refine q_aF (fs' := [.ref (s), .ref (s + 1), .ref (s + 2), .ref (s + 3), .int 0, .int 0, .int 0]) d_X0_init_33 f_X0_21 rfl rfl H7 (Nat.le_of_ble_eq_true rfl) rfl (fun h8 H8 y8 f8 => ?_)
  have z8 := y8.trans z7
  have g8 := Fr.refl [a] h8
  have g7 := (f8).trans g8
  have g6 := (Fr.any (S := [a]) f7).trans g7
  have g5 := (f6).trans g6
  have g4 := (Fr.any (S := [a]) f5).trans g5
  have g3 := (f4).trans g4
  have g2 := (Fr.any (S := [a]) f3).trans g3
  have g1 := (f2).trans g2
  have g0 := (Fr.any (S := [a]) f1).trans g1
  exact e_vret d_X0_init_36 rfl ⟨rfl, z8, g0, H8, g1.hs A1 (by simp; omega), g3.hs A3 (by simp; omega), g5.hs A5 (by simp; omega), g7.hs A7 (by simp; omega)⟩
theorem s_X9_init {h : AH} {a s : Nat} (H : Hs h a (.inr (9, [.null, .null, .null, .null, .null, .int 0]))) (hz : h.2.1 = s) : Sp M_X9_init (5, 216) h [.ref a] (rV (fun h' => h'.2.1 = s + 5 ∧ Fr [a] h h' ∧ Hs h' a (.inr (9, [.ref (s), .ref (s + 1), .ref (s + 2), .ref (s + 3), .ref (s + 4), .int 0])) ∧ Hs h' (s) (aI 12 (fun _ => 0)) ∧ Hs h' (s + 1) (aI 12 (fun _ => 0)) ∧ Hs h' (s + 2) (aZ 12 (fun _ => 0)) ∧ Hs h' (s + 3) (aI 12 (fun _ => 0)) ∧ Hs h' (s + 4) (aI 168 (fillTo (-1) (fun _ => 0) 168)))) := by
  refine ⟨Nat.le_of_ble_eq_true rfl, ?_⟩
  show E _ _ _ 0 h [some (.ref a)] []
  have ha : a < s := hz ▸ H.1
  refine e_aloadn d_X9_init_0 rfl ?_
  refine e_objInit d_X9_init_1 ⟨lw_in 151 (by decide +kernel) rfl, lw_in 106 (by decide +kernel) rfl, lw_in 107 (by decide +kernel) rfl⟩ (Nat.le_of_ble_eq_true rfl) (Nat.le_of_ble_eq_true rfl) ?_
  refine e_aloadn d_X9_init_4 rfl ?_
  refine e_bipush (v := 12) d_X9_init_5 (by decide) ?_
  refine n_I (N := 12) (b := s) (κ' := (4, 204)) d_X9_init_7 hz (by decide) (by decide) rfl rfl (fun h1 A1 z1 f1 => ?_)
  have H1 := f1.hs H List.not_mem_nil
  refine q_aF (fs' := [.ref (s), .null, .null, .null, .null, .int 0]) d_X9_init_9 f_X9_9 rfl rfl H1 (Nat.le_of_ble_eq_true rfl) rfl (fun h2 H2 y2 f2 => ?_)
  have z2 := y2.trans z1
  refine e_aloadn d_X9_init_12 rfl ?_
  refine e_bipush (v := 12) d_X9_init_13 (by decide) ?_
  refine n_I (N := 12) (b := s + 1) (κ' := (3, 192)) d_X9_init_15 z2 (by decide) (by decide) rfl rfl (fun h3 A3 z3 f3 => ?_)
  have H3 := f3.hs H2 List.not_mem_nil
  refine q_aF (fs' := [.ref (s), .ref (s + 1), .null, .null, .null, .int 0]) d_X9_init_17 f_X9_15 rfl rfl H3 (Nat.le_of_ble_eq_true rfl) rfl (fun h4 H4 y4 f4 => ?_)
  have z4 := y4.trans z3
  refine e_aloadn d_X9_init_20 rfl ?_
  refine e_bipush (v := 12) d_X9_init_21 (by decide) ?_
  refine n_Z (N := 12) (b := s + 2) (κ' := (2, 180)) d_X9_init_23 z4 (by decide) (by decide) rfl rfl (fun h5 A5 z5 f5 => ?_)
  have H5 := f5.hs H4 List.not_mem_nil
  refine q_aF (fs' := [.ref (s), .ref (s + 1), .ref (s + 2), .null, .null, .int 0]) d_X9_init_25 f_X9_18 rfl rfl H5 (Nat.le_of_ble_eq_true rfl) rfl (fun h6 H6 y6 f6 => ?_)
  have z6 := y6.trans z5
  refine e_aloadn d_X9_init_28 rfl ?_
  refine e_bipush (v := 12) d_X9_init_29 (by decide) ?_
  refine n_I (N := 12) (b := s + 3) (κ' := (1, 168)) d_X9_init_31 z6 (by decide) (by decide) rfl rfl (fun h7 A7 z7 f7 => ?_)
  have H7 := f7.hs H6 List.not_mem_nil
  refine q_aF (fs' := [.ref (s), .ref (s + 1), .ref (s + 2), .ref (s + 3), .null, .int 0]) d_X9_init_33 f_X9_22 rfl rfl H7 (Nat.le_of_ble_eq_true rfl) rfl (fun h8 H8 y8 f8 => ?_)
  have z8 := y8.trans z7
  refine e_aloadn d_X9_init_36 rfl ?_
  refine e_sipush (v := 168) d_X9_init_37 (by decide) ?_
  refine n_I (N := 168) (b := s + 4) (κ' := (0, 0)) d_X9_init_40 z8 (by decide) (by decide) rfl rfl (fun h9 A9 z9 f9 => ?_)
  have H9 := f9.hs H8 List.not_mem_nil
  refine q_aF (fs' := [.ref (s), .ref (s + 1), .ref (s + 2), .ref (s + 3), .ref (s + 4), .int 0]) d_X9_init_42 f_X9_25 rfl rfl H9 (Nat.le_of_ble_eq_true rfl) rfl (fun h10 H10 y10 f10 => ?_)
  have z10 := y10.trans z9
  refine e_aloadn d_X9_init_45 rfl ?_
  refine e_get d_X9_init_46 f_X9_25 H10 rfl ?_
  refine e_iconst (v := -1) d_X9_init_49 (by decide) ?_
  have hf := ((f10).hs A9 (by simp; omega))
  refine e_callSV d_X9_init_50 l_X9_init_28 (s_J7_fill_53178 hf (by decide)) rfl rfl (Nat.le_of_ble_eq_true rfl) ?_
  have g10 := Fr.refl [a] h10
  have g9 := (f10).trans g10
  have g8 := (Fr.any (S := [a]) f9).trans g9
  have g7 := (f8).trans g8
  have g6 := (Fr.any (S := [a]) f7).trans g7
  have g5 := (f6).trans g6
  have g4 := (Fr.any (S := [a]) f5).trans g5
  have g3 := (f4).trans g4
  have g2 := (Fr.any (S := [a]) f3).trans g3
  have g1 := (f2).trans g2
  have g0 := (Fr.any (S := [a]) f1).trans g1
  have gF : Fr [a] h (up h10 (s + 4) (aI 168 (fillTo (-1) (fun _ => 0) 168))) := Fr.new g0 (by omega) ((Fr.refl [s + 4] h10).up (List.mem_singleton.mpr rfl))
  exact e_vret d_X9_init_53 rfl ⟨rfl, z10, gF, Hs.n H10 (by omega), Hs.n (g1.hs A1 (by simp; omega)) (by omega), Hs.n (g3.hs A3 (by simp; omega)) (by omega), Hs.n (g5.hs A5 (by simp; omega)) (by omega), Hs.n (g7.hs A7 (by simp; omega)) (by omega), Hs.s (g9.hs A9 (by simp; omega))⟩
theorem s_X5_init {h : AH} {a s : Nat} (H : Hs h a (.inr (5, [.null, .null, .null, .null, .int 0, .int 0, .int 0]))) (hz : h.2.1 = s) : Sp M_X5_init (4, 64) h [.ref a] (rV (fun h' => h'.2.1 = s + 4 ∧ Fr [a] h h' ∧ Hs h' a (.inr (5, [.ref (s), .ref (s + 1), .ref (s + 2), .ref (s + 3), .int 0, .int 0, .int 0])) ∧ Hs h' (s) (aI 20 (fun _ => 0)) ∧ Hs h' (s + 1) (aI 20 (fun _ => 0)) ∧ Hs h' (s + 2) (aI 12 (fun _ => 0)) ∧ Hs h' (s + 3) (aI 12 (fun _ => 0)))) := by
  refine ⟨Nat.le_of_ble_eq_true rfl, ?_⟩
  show E _ _ _ 0 h [some (.ref a)] []
  have ha : a < s := hz ▸ H.1
  refine e_aloadn d_X5_init_0 rfl ?_
  refine e_objInit d_X5_init_1 ⟨lw_in 184 (by decide +kernel) rfl, lw_in 106 (by decide +kernel) rfl, lw_in 107 (by decide +kernel) rfl⟩ (Nat.le_of_ble_eq_true rfl) (Nat.le_of_ble_eq_true rfl) ?_
  refine e_aloadn d_X5_init_4 rfl ?_
  refine e_bipush (v := 20) d_X5_init_5 (by decide) ?_
  refine n_I (N := 20) (b := s) (κ' := (3, 44)) d_X5_init_7 hz (by decide) (by decide) rfl rfl (fun h1 A1 z1 f1 => ?_)
  have H1 := f1.hs H List.not_mem_nil
  refine q_aF (fs' := [.ref (s), .null, .null, .null, .int 0, .int 0, .int 0]) d_X5_init_9 f_X5_9 rfl rfl H1 (Nat.le_of_ble_eq_true rfl) rfl (fun h2 H2 y2 f2 => ?_)
  have z2 := y2.trans z1
  refine e_aloadn d_X5_init_12 rfl ?_
  refine e_bipush (v := 20) d_X5_init_13 (by decide) ?_
  refine n_I (N := 20) (b := s + 1) (κ' := (2, 24)) d_X5_init_15 z2 (by decide) (by decide) rfl rfl (fun h3 A3 z3 f3 => ?_)
  have H3 := f3.hs H2 List.not_mem_nil
  refine q_aF (fs' := [.ref (s), .ref (s + 1), .null, .null, .int 0, .int 0, .int 0]) d_X5_init_17 f_X5_15 rfl rfl H3 (Nat.le_of_ble_eq_true rfl) rfl (fun h4 H4 y4 f4 => ?_)
  have z4 := y4.trans z3
  refine e_aloadn d_X5_init_20 rfl ?_
  refine e_bipush (v := 12) d_X5_init_21 (by decide) ?_
  refine n_I (N := 12) (b := s + 2) (κ' := (1, 12)) d_X5_init_23 z4 (by decide) (by decide) rfl rfl (fun h5 A5 z5 f5 => ?_)
  have H5 := f5.hs H4 List.not_mem_nil
  refine q_a (fs' := [.ref (s), .ref (s + 1), .ref (s + 2), .null, .int 0, .int 0, .int 0]) d_X5_init_25 f_X5_18 H5 (Nat.le_of_ble_eq_true rfl) rfl (fun h6 H6 y6 f6 => ?_)
  have z6 := y6.trans z5
  refine e_aloadn d_X5_init_28 rfl ?_
  refine e_bipush (v := 12) d_X5_init_29 (by decide) ?_
  refine n_I (N := 12) (b := s + 3) (κ' := (0, 0)) d_X5_init_31 z6 (by decide) (by decide) rfl rfl (fun h7 A7 z7 f7 => ?_)
  have H7 := f7.hs H6 List.not_mem_nil
  refine q_a (fs' := [.ref (s), .ref (s + 1), .ref (s + 2), .ref (s + 3), .int 0, .int 0, .int 0]) d_X5_init_33 f_X5_21 H7 (Nat.le_of_ble_eq_true rfl) rfl (fun h8 H8 y8 f8 => ?_)
  have z8 := y8.trans z7
  have g8 := Fr.refl [a] h8
  have g7 := (f8).trans g8
  have g6 := (Fr.any (S := [a]) f7).trans g7
  have g5 := (f6).trans g6
  have g4 := (Fr.any (S := [a]) f5).trans g5
  have g3 := (f4).trans g4
  have g2 := (Fr.any (S := [a]) f3).trans g3
  have g1 := (f2).trans g2
  have g0 := (Fr.any (S := [a]) f1).trans g1
  exact e_vret d_X5_init_36 rfl ⟨rfl, z8, g0, H8, g1.hs A1 (by simp; omega), g3.hs A3 (by simp; omega), g5.hs A5 (by simp; omega), g7.hs A7 (by simp; omega)⟩
theorem s_X4_init {h : AH} {a s : Nat} (H : Hs h a (.inr (4, [.null, .null, .int 0]))) (hz : h.2.1 = s) : Sp M_X4_init (2, 16) h [.ref a] (rV (fun h' => h'.2.1 = s + 2 ∧ Fr [a] h h' ∧ Hs h' a (.inr (4, [.ref (s), .ref (s + 1), .int 0])) ∧ Hs h' (s) (aI 8 (fun _ => 0)) ∧ Hs h' (s + 1) (aI 8 (fun _ => 0)))) := by
  refine ⟨Nat.le_of_ble_eq_true rfl, ?_⟩
  show E _ _ _ 0 h [some (.ref a)] []
  have ha : a < s := hz ▸ H.1
  refine e_aloadn d_X4_init_0 rfl ?_
  refine e_objInit d_X4_init_1 ⟨lw_in 215 (by decide +kernel) rfl, lw_in 106 (by decide +kernel) rfl, lw_in 107 (by decide +kernel) rfl⟩ (Nat.le_of_ble_eq_true rfl) (Nat.le_of_ble_eq_true rfl) ?_
  refine e_aloadn d_X4_init_4 rfl ?_
  refine e_bipush (v := 8) d_X4_init_5 (by decide) ?_
  refine n_I (N := 8) (b := s) (κ' := (1, 8)) d_X4_init_7 hz (by decide) (by decide) rfl rfl (fun h1 A1 z1 f1 => ?_)
  have H1 := f1.hs H List.not_mem_nil
  refine q_aF (fs' := [.ref (s), .null, .int 0]) d_X4_init_9 f_X4_9 rfl rfl H1 (Nat.le_of_ble_eq_true rfl) rfl (fun h2 H2 y2 f2 => ?_)
  have z2 := y2.trans z1
  refine e_aloadn d_X4_init_12 rfl ?_
  refine e_bipush (v := 8) d_X4_init_13 (by decide) ?_
  refine n_I (N := 8) (b := s + 1) (κ' := (0, 0)) d_X4_init_15 z2 (by decide) (by decide) rfl rfl (fun h3 A3 z3 f3 => ?_)
  have H3 := f3.hs H2 List.not_mem_nil
  refine q_aF (fs' := [.ref (s), .ref (s + 1), .int 0]) d_X4_init_17 f_X4_15 rfl rfl H3 (Nat.le_of_ble_eq_true rfl) rfl (fun h4 H4 y4 f4 => ?_)
  have z4 := y4.trans z3
  have g4 := Fr.refl [a] h4
  have g3 := (f4).trans g4
  have g2 := (Fr.any (S := [a]) f3).trans g3
  have g1 := (f2).trans g2
  have g0 := (Fr.any (S := [a]) f1).trans g1
  exact e_vret d_X4_init_20 rfl ⟨rfl, z4, g0, H4, g1.hs A1 (by simp; omega), g3.hs A3 (by simp; omega)⟩
theorem s_X8_init {h : AH} {a s : Nat} (H : Hs h a (.inr (8, [.null, .null, .null, .int 0, .int 0, .int 0]))) (hz : h.2.1 = s) : Sp M_X8_init (3, 321) h [.ref a] (rV (fun h' => h'.2.1 = s + 3 ∧ Fr [a] h h' ∧ Hs h' a (.inr (8, [.ref (s), .ref (s + 1), .ref (s + 2), .int 0, .int 0, .int 0])) ∧ Hs h' (s) (aI 10 (fun _ => 0)) ∧ Hs h' (s + 1) (aI 11 (fun _ => 0)) ∧ Hs h' (s + 2) (aI 300 (fun _ => 0)))) := by
  refine ⟨Nat.le_of_ble_eq_true rfl, ?_⟩
  show E _ _ _ 0 h [some (.ref a)] []
  have ha : a < s := hz ▸ H.1
  refine e_aloadn d_X8_init_0 rfl ?_
  refine e_objInit d_X8_init_1 ⟨lw_in 386 (by decide +kernel) rfl, lw_in 106 (by decide +kernel) rfl, lw_in 107 (by decide +kernel) rfl⟩ (Nat.le_of_ble_eq_true rfl) (Nat.le_of_ble_eq_true rfl) ?_
  refine e_aloadn d_X8_init_4 rfl ?_
  refine e_bipush (v := 10) d_X8_init_5 (by decide) ?_
  refine n_I (N := 10) (b := s) (κ' := (2, 311)) d_X8_init_7 hz (by decide) (by decide) rfl rfl (fun h1 A1 z1 f1 => ?_)
  have H1 := f1.hs H List.not_mem_nil
  refine q_aF (fs' := [.ref (s), .null, .null, .int 0, .int 0, .int 0]) d_X8_init_9 f_X8_9 rfl rfl H1 (Nat.le_of_ble_eq_true rfl) rfl (fun h2 H2 y2 f2 => ?_)
  have z2 := y2.trans z1
  refine e_aloadn d_X8_init_12 rfl ?_
  refine e_bipush (v := 11) d_X8_init_13 (by decide) ?_
  refine n_I (N := 11) (b := s + 1) (κ' := (1, 300)) d_X8_init_15 z2 (by decide) (by decide) rfl rfl (fun h3 A3 z3 f3 => ?_)
  have H3 := f3.hs H2 List.not_mem_nil
  refine q_aF (fs' := [.ref (s), .ref (s + 1), .null, .int 0, .int 0, .int 0]) d_X8_init_17 f_X8_15 rfl rfl H3 (Nat.le_of_ble_eq_true rfl) rfl (fun h4 H4 y4 f4 => ?_)
  have z4 := y4.trans z3
  refine e_aloadn d_X8_init_20 rfl ?_
  refine e_sipush (v := 300) d_X8_init_21 (by decide) ?_
  refine n_I (N := 300) (b := s + 2) (κ' := (0, 0)) d_X8_init_24 z4 (by decide) (by decide) rfl rfl (fun h5 A5 z5 f5 => ?_)
  have H5 := f5.hs H4 List.not_mem_nil
  refine q_aF (fs' := [.ref (s), .ref (s + 1), .ref (s + 2), .int 0, .int 0, .int 0]) d_X8_init_26 f_X8_18 rfl rfl H5 (Nat.le_of_ble_eq_true rfl) rfl (fun h6 H6 y6 f6 => ?_)
  have z6 := y6.trans z5
  have g6 := Fr.refl [a] h6
  have g5 := (f6).trans g6
  have g4 := (Fr.any (S := [a]) f5).trans g5
  have g3 := (f4).trans g4
  have g2 := (Fr.any (S := [a]) f3).trans g3
  have g1 := (f2).trans g2
  have g0 := (Fr.any (S := [a]) f1).trans g1
  exact e_vret d_X8_init_29 rfl ⟨rfl, z6, g0, H6, g1.hs A1 (by simp; omega), g3.hs A3 (by simp; omega), g5.hs A5 (by simp; omega)⟩
theorem s_X6_init {h : AH} {a s : Nat} (H : Hs h a (.inr (6, [.null, .int 0, .int 0, .int 0, .null, .int 0, .int 0, .int 0, .int 0, .int 0, .int 0, .int 0, .int 0, .null, .int 0, .int 0]))) (hz : h.2.1 = s) : Sp M_X6_init (1, 32) h [.ref a] (rV (fun h' => h'.2.1 = s + 1 ∧ Fr [a] h h' ∧ Hs h' a (.inr (6, [.ref (s), .int 0, .int 0, .int 0, .null, .int 0, .int 0, .int 0, .int 0, .int 0, .int 0, .int 0, .int 0, .null, .int 0, .int 0])) ∧ Hs h' (s) (aI 32 (fun _ => 0)))) := by
  refine ⟨Nat.le_of_ble_eq_true rfl, ?_⟩
  show E _ _ _ 0 h [some (.ref a)] []
  have ha : a < s := hz ▸ H.1
  refine e_aloadn d_X6_init_0 rfl ?_
  refine e_objInit d_X6_init_1 ⟨lw_in 234 (by decide +kernel) rfl, lw_in 106 (by decide +kernel) rfl, lw_in 107 (by decide +kernel) rfl⟩ (Nat.le_of_ble_eq_true rfl) (Nat.le_of_ble_eq_true rfl) ?_
  refine e_aloadn d_X6_init_4 rfl ?_
  refine e_bipush (v := 32) d_X6_init_5 (by decide) ?_
  refine n_I (N := 32) (b := s) (κ' := (0, 0)) d_X6_init_7 hz (by decide) (by decide) rfl rfl (fun h1 A1 z1 f1 => ?_)
  have H1 := f1.hs H List.not_mem_nil
  refine q_aF (fs' := [.ref (s), .int 0, .int 0, .int 0, .null, .int 0, .int 0, .int 0, .int 0, .int 0, .int 0, .int 0, .int 0, .null, .int 0, .int 0]) d_X6_init_9 f_X6_9 rfl rfl H1 (Nat.le_of_ble_eq_true rfl) rfl (fun h2 H2 y2 f2 => ?_)
  have z2 := y2.trans z1
  have g2 := Fr.refl [a] h2
  have g1 := (f2).trans g2
  have g0 := (Fr.any (S := [a]) f1).trans g1
  exact e_vret d_X6_init_12 rfl ⟨rfl, z2, g0, H2, g1.hs A1 (by simp; omega)⟩
theorem s_X3_init {h : AH} {a s : Nat} (H : Hs h a (.inr (3, [.null, .null]))) (hz : h.2.1 = s) : Sp M_X3_init (2, 43) h [.ref a] (rV (fun h' => h'.2.1 = s + 2 ∧ Fr [a] h h' ∧ Hs h' a (.inr (3, [.ref (s), .ref (s + 1)])) ∧ Hs h' (s) (aI 11 (fun _ => 0)) ∧ Hs h' (s + 1) (aI 32 (fun _ => 0)))) := by
  refine ⟨Nat.le_of_ble_eq_true rfl, ?_⟩
  show E _ _ _ 0 h [some (.ref a)] []
  have ha : a < s := hz ▸ H.1
  refine e_aloadn d_X3_init_0 rfl ?_
  refine e_objInit d_X3_init_1 ⟨lw_in 291 (by decide +kernel) rfl, lw_in 106 (by decide +kernel) rfl, lw_in 107 (by decide +kernel) rfl⟩ (Nat.le_of_ble_eq_true rfl) (Nat.le_of_ble_eq_true rfl) ?_
  refine e_aloadn d_X3_init_4 rfl ?_
  refine e_bipush (v := 11) d_X3_init_5 (by decide) ?_
  refine n_I (N := 11) (b := s) (κ' := (1, 32)) d_X3_init_7 hz (by decide) (by decide) rfl rfl (fun h1 A1 z1 f1 => ?_)
  have H1 := f1.hs H List.not_mem_nil
  refine q_aF (fs' := [.ref (s), .null]) d_X3_init_9 f_X3_9 rfl rfl H1 (Nat.le_of_ble_eq_true rfl) rfl (fun h2 H2 y2 f2 => ?_)
  have z2 := y2.trans z1
  refine e_aloadn d_X3_init_12 rfl ?_
  refine e_bipush (v := 32) d_X3_init_13 (by decide) ?_
  refine n_I (N := 32) (b := s + 1) (κ' := (0, 0)) d_X3_init_15 z2 (by decide) (by decide) rfl rfl (fun h3 A3 z3 f3 => ?_)
  have H3 := f3.hs H2 List.not_mem_nil
  refine q_aF (fs' := [.ref (s), .ref (s + 1)]) d_X3_init_17 f_X3_15 rfl rfl H3 (Nat.le_of_ble_eq_true rfl) rfl (fun h4 H4 y4 f4 => ?_)
  have z4 := y4.trans z3
  have g4 := Fr.refl [a] h4
  have g3 := (f4).trans g4
  have g2 := (Fr.any (S := [a]) f3).trans g3
  have g1 := (f2).trans g2
  have g0 := (Fr.any (S := [a]) f1).trans g1
  exact e_vret d_X3_init_20 rfl ⟨rfl, z4, g0, H4, g1.hs A1 (by simp; omega), g3.hs A3 (by simp; omega)⟩
theorem s_X1_init {h : AH} {a s : Nat} (H : Hs h a (.inr (1, [.null, .null, .null, .int 0, .int 0]))) (hz : h.2.1 = s) : Sp M_X1_init (3, 29) h [.ref a] (rV (fun h' => h'.2.1 = s + 3 ∧ Fr [a] h h' ∧ Hs h' a (.inr (1, [.ref (s), .ref (s + 1), .ref (s + 2), .int 0, .int (-1)])) ∧ Hs h' (s) (aI 14 (fun _ => 0)) ∧ Hs h' (s + 1) (aI 14 (fun _ => 0)) ∧ Hs h' (s + 2) (aI 1 (fun _ => 0)))) := by
  refine ⟨Nat.le_of_ble_eq_true rfl, ?_⟩
  show E _ _ _ 0 h [some (.ref a)] []
  have ha : a < s := hz ▸ H.1
  refine e_aloadn d_X1_init_0 rfl ?_
  refine e_objInit d_X1_init_1 ⟨lw_in 304 (by decide +kernel) rfl, lw_in 106 (by decide +kernel) rfl, lw_in 107 (by decide +kernel) rfl⟩ (Nat.le_of_ble_eq_true rfl) (Nat.le_of_ble_eq_true rfl) ?_
  refine e_aloadn d_X1_init_4 rfl ?_
  refine e_bipush (v := 14) d_X1_init_5 (by decide) ?_
  refine n_I (N := 14) (b := s) (κ' := (2, 15)) d_X1_init_7 hz (by decide) (by decide) rfl rfl (fun h1 A1 z1 f1 => ?_)
  have H1 := f1.hs H List.not_mem_nil
  refine q_aF (fs' := [.ref (s), .null, .null, .int 0, .int 0]) d_X1_init_9 f_X1_9 rfl rfl H1 (Nat.le_of_ble_eq_true rfl) rfl (fun h2 H2 y2 f2 => ?_)
  have z2 := y2.trans z1
  refine e_aloadn d_X1_init_12 rfl ?_
  refine e_bipush (v := 14) d_X1_init_13 (by decide) ?_
  refine n_I (N := 14) (b := s + 1) (κ' := (1, 1)) d_X1_init_15 z2 (by decide) (by decide) rfl rfl (fun h3 A3 z3 f3 => ?_)
  have H3 := f3.hs H2 List.not_mem_nil
  refine q_aF (fs' := [.ref (s), .ref (s + 1), .null, .int 0, .int 0]) d_X1_init_17 f_X1_15 rfl rfl H3 (Nat.le_of_ble_eq_true rfl) rfl (fun h4 H4 y4 f4 => ?_)
  have z4 := y4.trans z3
  refine e_aloadn d_X1_init_20 rfl ?_
  refine e_iconst (v := 1) d_X1_init_21 (by decide) ?_
  refine n_I (N := 1) (b := s + 2) (κ' := (0, 0)) d_X1_init_22 z4 (by decide) (by decide) rfl rfl (fun h5 A5 z5 f5 => ?_)
  have H5 := f5.hs H4 List.not_mem_nil
  refine q_a (fs' := [.ref (s), .ref (s + 1), .ref (s + 2), .int 0, .int 0]) d_X1_init_24 f_X1_18 H5 (Nat.le_of_ble_eq_true rfl) rfl (fun h6 H6 y6 f6 => ?_)
  have z6 := y6.trans z5
  refine e_aloadn d_X1_init_27 rfl ?_
  refine e_iconst (v := -1) d_X1_init_28 (by decide) ?_
  refine q_i (fs' := [.ref (s), .ref (s + 1), .ref (s + 2), .int 0, .int (-1)]) d_X1_init_29 f_X1_21 H6 (Nat.le_of_ble_eq_true rfl) rfl (fun h7 H7 y7 f7 => ?_)
  have z7 := y7.trans z6
  have g7 := Fr.refl [a] h7
  have g6 := (f7).trans g7
  have g5 := (f6).trans g6
  have g4 := (Fr.any (S := [a]) f5).trans g5
  have g3 := (f4).trans g4
  have g2 := (Fr.any (S := [a]) f3).trans g3
  have g1 := (f2).trans g2
  have g0 := (Fr.any (S := [a]) f1).trans g1
  exact e_vret d_X1_init_32 rfl ⟨rfl, z7, g0, H7, g1.hs A1 (by simp; omega), g3.hs A3 (by simp; omega), g5.hs A5 (by simp; omega)⟩
theorem s_X7_init {h : AH} {a s : Nat} (H : Hs h a (.inr (7, [.null, .null, .null, .int 0]))) (hz : h.2.1 = s) : Sp M_X7_init (3, 272) h [.ref a] (rV (fun h' => h'.2.1 = s + 3 ∧ Fr [a] h h' ∧ Hs h' a (.inr (7, [.ref (s), .ref (s + 1), .ref (s + 2), .int 0])) ∧ Hs h' (s) (aI 128 (fun _ => 0)) ∧ Hs h' (s + 1) (aI 128 (fun _ => 0)) ∧ Hs h' (s + 2) (aI 16 (fun _ => 0)))) := by
  refine ⟨Nat.le_of_ble_eq_true rfl, ?_⟩
  show E _ _ _ 0 h [some (.ref a)] []
  have ha : a < s := hz ▸ H.1
  refine e_aloadn d_X7_init_0 rfl ?_
  refine e_objInit d_X7_init_1 ⟨lw_in 331 (by decide +kernel) rfl, lw_in 106 (by decide +kernel) rfl, lw_in 107 (by decide +kernel) rfl⟩ (Nat.le_of_ble_eq_true rfl) (Nat.le_of_ble_eq_true rfl) ?_
  refine e_aloadn d_X7_init_4 rfl ?_
  refine e_sipush (v := 128) d_X7_init_5 (by decide) ?_
  refine n_I (N := 128) (b := s) (κ' := (2, 144)) d_X7_init_8 hz (by decide) (by decide) rfl rfl (fun h1 A1 z1 f1 => ?_)
  have H1 := f1.hs H List.not_mem_nil
  refine q_aF (fs' := [.ref (s), .null, .null, .int 0]) d_X7_init_10 f_X7_11 rfl rfl H1 (Nat.le_of_ble_eq_true rfl) rfl (fun h2 H2 y2 f2 => ?_)
  have z2 := y2.trans z1
  refine e_aloadn d_X7_init_13 rfl ?_
  refine e_sipush (v := 128) d_X7_init_14 (by decide) ?_
  refine n_I (N := 128) (b := s + 1) (κ' := (1, 16)) d_X7_init_17 z2 (by decide) (by decide) rfl rfl (fun h3 A3 z3 f3 => ?_)
  have H3 := f3.hs H2 List.not_mem_nil
  refine q_aF (fs' := [.ref (s), .ref (s + 1), .null, .int 0]) d_X7_init_19 f_X7_15 rfl rfl H3 (Nat.le_of_ble_eq_true rfl) rfl (fun h4 H4 y4 f4 => ?_)
  have z4 := y4.trans z3
  refine e_aloadn d_X7_init_22 rfl ?_
  refine e_bipush (v := 16) d_X7_init_23 (by decide) ?_
  refine n_I (N := 16) (b := s + 2) (κ' := (0, 0)) d_X7_init_25 z4 (by decide) (by decide) rfl rfl (fun h5 A5 z5 f5 => ?_)
  have H5 := f5.hs H4 List.not_mem_nil
  refine q_aF (fs' := [.ref (s), .ref (s + 1), .ref (s + 2), .int 0]) d_X7_init_27 f_X7_18 rfl rfl H5 (Nat.le_of_ble_eq_true rfl) rfl (fun h6 H6 y6 f6 => ?_)
  have z6 := y6.trans z5
  have g6 := Fr.refl [a] h6
  have g5 := (f6).trans g6
  have g4 := (Fr.any (S := [a]) f5).trans g5
  have g3 := (f4).trans g4
  have g2 := (Fr.any (S := [a]) f3).trans g3
  have g1 := (f2).trans g2
  have g0 := (Fr.any (S := [a]) f1).trans g1
  exact e_vret d_X7_init_30 rfl ⟨rfl, z6, g0, H6, g1.hs A1 (by simp; omega), g3.hs A3 (by simp; omega), g5.hs A5 (by simp; omega)⟩
theorem s_X2_init {h : AH} {a s : Nat} (H : Hs h a (.inr (2, [.null, .int 0, .int 0, .int 0, .int 0, .int 0, .int 0, .int 0, .int 0]))) (hz : h.2.1 = s) : Sp M_X2_init (1, 168) h [.ref a] (rV (fun h' => h'.2.1 = s + 1 ∧ Fr [a] h h' ∧ Hs h' a (.inr (2, [.ref (s), .int 0, .int 0, .int 0, .int 0, .int 0, .int 0, .int 0, .int (1000)])) ∧ Hs h' (s) (aI 168 (fillTo (-1) (fun _ => 0) 168)))) := by
  refine ⟨Nat.le_of_ble_eq_true rfl, ?_⟩
  show E _ _ _ 0 h [some (.ref a)] []
  have ha : a < s := hz ▸ H.1
  refine e_aloadn d_X2_init_0 rfl ?_
  refine e_objInit d_X2_init_1 ⟨lw_in 350 (by decide +kernel) rfl, lw_in 106 (by decide +kernel) rfl, lw_in 107 (by decide +kernel) rfl⟩ (Nat.le_of_ble_eq_true rfl) (Nat.le_of_ble_eq_true rfl) ?_
  refine e_aloadn d_X2_init_4 rfl ?_
  refine e_sipush (v := 168) d_X2_init_5 (by decide) ?_
  refine n_I (N := 168) (b := s) (κ' := (0, 0)) d_X2_init_8 hz (by decide) (by decide) rfl rfl (fun h1 A1 z1 f1 => ?_)
  have H1 := f1.hs H List.not_mem_nil
  refine q_aF (fs' := [.ref (s), .int 0, .int 0, .int 0, .int 0, .int 0, .int 0, .int 0, .int 0]) d_X2_init_10 f_X2_9 rfl rfl H1 (Nat.le_of_ble_eq_true rfl) rfl (fun h2 H2 y2 f2 => ?_)
  have z2 := y2.trans z1
  refine e_aloadn d_X2_init_13 rfl ?_
  refine e_sipush (v := 1000) d_X2_init_14 (by decide) ?_
  refine q_i (fs' := [.ref (s), .int 0, .int 0, .int 0, .int 0, .int 0, .int 0, .int 0, .int (1000)]) d_X2_init_17 f_X2_15 H2 (Nat.le_of_ble_eq_true rfl) rfl (fun h3 H3 y3 f3 => ?_)
  have z3 := y3.trans z2
  refine e_aloadn d_X2_init_20 rfl ?_
  refine e_get d_X2_init_21 f_X2_9 H3 rfl ?_
  refine e_iconst (v := -1) d_X2_init_24 (by decide) ?_
  have hf := ((f3).hs ((f2).hs A1 (by simp; omega)) (by simp; omega))
  refine e_callSV d_X2_init_25 l_X2_init_19 (s_J7_fill_53178 hf (by decide)) rfl rfl (Nat.le_of_ble_eq_true rfl) ?_
  have g3 := Fr.refl [a] h3
  have g2 := (f3).trans g3
  have g1 := (f2).trans g2
  have g0 := (Fr.any (S := [a]) f1).trans g1
  have gF : Fr [a] h (up h3 (s) (aI 168 (fillTo (-1) (fun _ => 0) 168))) := Fr.new g0 (by omega) ((Fr.refl [s] h3).up (List.mem_singleton.mpr rfl))
  exact e_vret d_X2_init_28 rfl ⟨rfl, z3, gF, Hs.n H3 (by omega), Hs.s (g1.hs A1 (by simp; omega))⟩
