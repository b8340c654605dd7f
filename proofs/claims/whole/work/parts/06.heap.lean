/-! THE CELLS: rows for objects and arrays, over the abstract machine -/
theorem lw_ins (ws : List Cond) (ps : List Nat) (hp : ws = ps.filterMap (fun i => lw_tbl[i]?)) (h : ws.all goodWord = true) : ∀ w ∈ ws, w ∈ lw_good := by
  intro w hw
  have h1 := List.all_eq_true.mp h w hw
  rw [hp] at hw
  obtain ⟨i, -, hi⟩ := List.mem_filterMap.mp hw
  exact lw_in i hi h1
theorem i_X0 : ∀ w ∈ u_ws RX0 TX0 7, w ∈ lw_good := lw_ins _ [130, 132, 134, 136, 138, 140, 142] (by decide +kernel) (by decide +kernel)
theorem i_X1 : ∀ w ∈ u_ws RX1 TX1 5, w ∈ lw_good := lw_ins _ [315, 317, 319, 321, 323] (by decide +kernel) (by decide +kernel)
theorem i_X2 : ∀ w ∈ u_ws RX2 TX2 9, w ∈ lw_good := lw_ins _ [363, 365, 367, 369, 371, 373, 375, 377, 379] (by decide +kernel) (by decide +kernel)
theorem i_X3 : ∀ w ∈ u_ws RX3 TX3 2, w ∈ lw_good := lw_ins _ [294, 296] (by decide +kernel) (by decide +kernel)
theorem i_X4 : ∀ w ∈ u_ws RX4 TX4 3, w ∈ lw_good := lw_ins _ [220, 222, 224] (by decide +kernel) (by decide +kernel)
theorem i_X5 : ∀ w ∈ u_ws RX5 TX5 7, w ∈ lw_good := lw_ins _ [195, 197, 199, 201, 203, 205, 207] (by decide +kernel) (by decide +kernel)
theorem i_X6 : ∀ w ∈ u_ws RX6 TX6 16, w ∈ lw_good := lw_ins _ [253, 255, 257, 259, 261, 263, 265, 267, 269, 271, 273, 275, 277, 279, 281, 283] (by decide +kernel) (by decide +kernel)
theorem i_X7 : ∀ w ∈ u_ws RX7 TX7 4, w ∈ lw_good := lw_ins _ [336, 338, 340, 342] (by decide +kernel) (by decide +kernel)
theorem i_X8 : ∀ w ∈ u_ws RX8 TX8 6, w ∈ lw_good := lw_ins _ [401, 403, 405, 407, 409, 411] (by decide +kernel) (by decide +kernel)
theorem i_X9 : ∀ w ∈ u_ws RX9 TX9 6, w ∈ lw_good := lw_ins _ [165, 167, 169, 171, 173, 175] (by decide +kernel) (by decide +kernel)
theorem i_X10 : ∀ w ∈ u_ws RX10 TX10 18, w ∈ lw_good := lw_ins _ [432, 434, 436, 438, 440, 442, 444, 446, 448, 450, 452, 454, 456, 458, 460, 462, 464, 466] (by decide +kernel) (by decide +kernel)
theorem i_X11 : ∀ w ∈ u_ws RX11 TX11 48, w ∈ lw_good := lw_ins _ [1043, 1045, 1047, 1049, 1051, 1053, 1055, 1057, 1059, 1061, 1063, 1065, 1067, 1069, 1071, 1073, 1075, 1077, 1079, 1081, 1083, 1085, 1087, 1089, 1091, 1093, 1095, 1097, 1099, 1101, 1103, 1105, 1107, 1109, 1111, 1113, 1115, 1117, 1119, 1121, 1123, 1125, 1127, 1129, 1131, 1133, 1135, 1137] (by decide +kernel) (by decide +kernel)
def Cg (q : vw_C) : Prop := (∀ w ∈ u_ws q.1 q.2.1 q.2.2, w ∈ lw_good) ∧ (∃ ty0 : Nat → FieldType, ∀ k, k < q.2.2 → parseFieldDescriptor (q.2.1 k).2.2.1 = some (ty0 k)) ∧ ∀ a, a < q.2.2 → ∀ b, b < q.2.2 → a ≠ b → (q.2.1 a).2.1 ≠ (q.2.1 b).2.1
theorem Cg_all {ci : Nat} {q : vw_C} (hq : vwCl[ci]? = some q) : Cg q := by
  match ci, hq with
  | 0, hq => cases hq; exact ⟨i_X0, ⟨tyX0, tyX0_ok⟩, nmX0⟩
  | 1, hq => cases hq; exact ⟨i_X1, ⟨tyX1, tyX1_ok⟩, nmX1⟩
  | 2, hq => cases hq; exact ⟨i_X2, ⟨tyX2, tyX2_ok⟩, nmX2⟩
  | 3, hq => cases hq; exact ⟨i_X3, ⟨tyX3, tyX3_ok⟩, nmX3⟩
  | 4, hq => cases hq; exact ⟨i_X4, ⟨tyX4, tyX4_ok⟩, nmX4⟩
  | 5, hq => cases hq; exact ⟨i_X5, ⟨tyX5, tyX5_ok⟩, nmX5⟩
  | 6, hq => cases hq; exact ⟨i_X6, ⟨tyX6, tyX6_ok⟩, nmX6⟩
  | 7, hq => cases hq; exact ⟨i_X7, ⟨tyX7, tyX7_ok⟩, nmX7⟩
  | 8, hq => cases hq; exact ⟨i_X8, ⟨tyX8, tyX8_ok⟩, nmX8⟩
  | 9, hq => cases hq; exact ⟨i_X9, ⟨tyX9, tyX9_ok⟩, nmX9⟩
  | 10, hq => cases hq; exact ⟨i_X10, ⟨tyX10, tyX10_ok⟩, nmX10⟩
  | 11, hq => cases hq; exact ⟨i_X11, ⟨tyX11, tyX11_ok⟩, nmX11⟩
  | k + 12, hq => simp at hq
/-- a link to a field: which class, which field, its type, whether it is final -/
def Fl (own : String) (idx ci k : Nat) (ty : FieldType) (fin : Bool) : Prop := ∃ q : vw_C, vwCl[ci]? = some q ∧ k < q.2.2 ∧ Cond.fieldLink own idx (q.2.1 k).1 (q.2.1 k).2.1 (q.2.1 k).2.2.1 ∈ lw_good ∧ parseFieldDescriptor (q.2.1 k).2.2.1 = some ty ∧ (q.2.1 k).2.2.2 = fin ∧ (q.2.1 k).1 = q.1
def up (h : AH) (a : Nat) (c : AC) : AH := (h.1, h.2.1, va_up h.2.2 a c)
def pu (h : AH) (c : AC) : AH := (h.1, h.2.1 + 1, va_up h.2.2 h.2.1 c)
theorem Hs.s {h : AH} {a : Nat} {c c' : AC} (H : Hs h a c) : Hs (up h a c') a c' := ⟨H.1, va_up_self _ _ _⟩
theorem Hs.n {h : AH} {a b : Nat} {c c' : AC} (H : Hs h b c) (hne : b ≠ a) : Hs (up h a c') b c := ⟨H.1, (va_up_ne _ _ hne).trans H.2⟩
theorem Hs.p {h : AH} {b : Nat} {c c' : AC} (H : Hs h b c) : Hs (pu h c') b c := ⟨Nat.lt_succ_of_lt H.1, (va_up_ne _ _ (Nat.ne_of_lt H.1)).trans H.2⟩
theorem Sh.upd {h : AH} {a : Nat} {c c' : AC} (H : Hs h a c) (e : shp c' = shp c) : Sh h (up h a c') := ⟨Nat.le_refl _, fun k _ => by
  by_cases q : k = a
  · subst q; show shp (va_up _ _ _ _) = _; rw [va_up_self, H.2, e]
  · show shp (va_up _ _ _ _) = _; rw [va_up_ne _ _ q]⟩
theorem Sh.put {h h2 : AH} {a : Nat} {c c' : AC} (B : Sh (up h a c') h2) (H : Hs h a c) (e : shp c' = shp c) : Sh h h2 := (Sh.upd H e).trans B
theorem Sh.psh {h : AH} {c : AC} : Sh h (pu h c) := ⟨Nat.le_succ _, fun k hk => by show shp (va_up _ _ _ _) = _; rw [va_up_ne _ _ (Nat.ne_of_lt hk)]⟩
theorem Hs.new (h : AH) (c : AC) : Hs (pu h c) h.2.1 c := ⟨Nat.lt_succ_self _, va_up_self _ _ _⟩
theorem Wd_store {g : GC} {s : State} {h : AH} {H H1 : Heap} {a : Nat} {cA : Nat → ClassId} (hsz : H.size = g.1 + h.2.1) (hP : va_P g.2.1 vwCl (wsl g cA h.2.1 h.2.2) H) (hAr : Ar s cA h.2.1 h.2.2) (ha : a < h.2.1) (e : AC)
    (he : va_at g.2.1 vwCl (g.1 + a, gE g (cA a) e) H1) (hty : ∀ (ty : FieldType) (x : vp_A), e = .inl (ty, x) → ∃ x', h.2.2 a = .inl (ty, x')) (z : H1.size = H.size) (oq : ∀ q : Nat, q ≠ g.1 + a → H1[q]? = H[q]?) : Wd g s (up h a e) H1 := by
  refine ⟨z.trans hsz, cA, ?_, hAr.up hty⟩
  show va_P g.2.1 vwCl (wsl g cA h.2.1 (va_up h.2.2 a e)) H1
  rw [← wsl_set ha]
  exact hP.set wsl_D (wsl_get ha) he oq
theorem Wd_push {g : GC} {s : State} {h : AH} {H H1 : Heap} {cA : Nat → ClassId} {c : ClassId} (hsz : H.size = g.1 + h.2.1) (hP : va_P g.2.1 vwCl (wsl g cA h.2.1 h.2.2) H) (hAr : Ar s cA h.2.1 h.2.2) (e : AC)
    (he : va_at g.2.1 vwCl (g.1 + h.2.1, gE g c e) H1) (harr : ∀ (ty : FieldType) (x : vp_A), e = .inl (ty, x) → ArrOfT s c ty ∧ va_RA s c ty) (z : H1.size = H.size + 1) (oq : ∀ q : Nat, q < H.size → H1[q]? = H[q]?) : Wd g s (pu h e) H1 := by
  refine ⟨by rw [z, hsz]; rfl, va_up cA h.2.1 c, ?_, hAr.push harr⟩
  show va_P g.2.1 vwCl (wsl g (va_up cA h.2.1 c) (h.2.1 + 1) (va_up h.2.2 h.2.1 e)) H1
  rw [← wsl_push]
  refine va_P.app (hP.kept (fun k q hk => oq q.1 (hP k q hk).lt)) (fun k q hk => ?_)
  have hz : k < 1 := (List.getElem?_eq_some_iff.mp hk).1
  rw [show k = 0 by omega] at hk
  cases hk
  exact he
theorem e_get {M : MD} {κ : Nat × Nat} {Q : Option Value → AH → Prop} {pc pc2 : Nat} {h : AH} {ls : List (Option Value)} {st : List Value} {idx a ci k : Nat} {ty : FieldType} {fin : Bool} {fs : List Value} {v : Value}
    (hd : decode M.2.1 pc = .ok (.getfield idx, 3) ∧ pc2 = pc + 3) (hF : Fl M.1.cls idx ci k ty fin) (hc : Hs h a (.inr (ci, fs))) (hv : fs[k]? = some v) (kk : E M κ Q pc2 h ls (v :: st)) : E M κ Q pc h ls (.ref a :: st) := by
  obtain ⟨hd, rfl⟩ := hd
  intro p l e R s m args below meth c g Z mc ms hC hmc hms hret H locs cells slots lsA hk hs hW hS hl
  obtain ⟨hx, hb, hml, hr, hown, hts, hnm, hlk, hf, hlo, hK, hT, hX, hg⟩ := id hC
  obtain ⟨hsz, cA, hP, hAr⟩ := id hW
  obtain ⟨⟨C, T, N⟩, hq, hkN, hlink, -, -, -⟩ := hF
  have he := wsl_get (g := g) (cA := cA) (f := h.2.2) hc.1
  rw [hc.2] at he
  exact va_get (D := g.2.1) (ci := ci) (v := gv g v) (C := C) (T := T) (N := N) hx hb hts (Cg_all hq).1 hown hK.K hP a he hq k hkN (hts _ hlink) (fun _ h9 => h9) (by rw [List.getElem?_map, hv]; rfl) hd (kk p l e R s m args below meth c g Z mc ms hC hmc hms hret H locs cells slots lsA hk hs hW hS hl)
theorem e_putG {M : MD} {κ : Nat × Nat} {Q : Option Value → AH → Prop} {pc pc2 : Nat} {h : AH} {ls : List (Option Value)} {st : List Value} {idx a ci k : Nat} {ty : FieldType} {fin : Bool} {fs : List Value} {v : Value}
    (hd : decode M.2.1 pc = .ok (.putfield idx, 3) ∧ pc2 = pc + 3) (hF : Fl M.1.cls idx ci k ty fin) (hfn : fin = true → M.1.name = "<init>" ∧ (vwCl[ci]?).map (·.1) = some M.1.cls) (hc : Hs h a (.inr (ci, fs))) (hkl : k < fs.length) (hn : ∀ g : GC, narrow ty (gv g v) = gv g v ∧ fits ty (gv g v) = true)
    (kk : E M κ Q pc2 (up h a (.inr (ci, fs.set k v))) ls st) : E M κ Q pc h ls (v :: .ref a :: st) := by
  obtain ⟨hd, rfl⟩ := hd
  intro p l e R s m args below meth c g Z mc ms hC hmc hms hret H locs cells slots lsA hk hs hW hS hl
  obtain ⟨hx, hb, hml, hr, hown, hts, hnm, hlk, hf, hlo, hK, hT, hX, hg⟩ := id hC
  obtain ⟨hsz, cA, hP, hAr⟩ := hW
  obtain ⟨⟨C, T, N⟩, hq, hkN, hlink, hty, hfin, hCo⟩ := hF
  obtain ⟨hin, ⟨ty0, hty0⟩, hnm0⟩ := Cg_all hq
  dsimp only at hin hty0 hnm0 hkN hlink hty hfin hCo
  have he := wsl_get (g := g) (cA := cA) (f := h.2.2) hc.1
  rw [hc.2] at he
  obtain ⟨r, h1, cell, q1, q2, q3, q4⟩ := hP a _ he
  have hr' : r = (C, T, N) := Option.some.inj (h1.symm.trans hq)
  subst hr'
  have hap := va_apart (own := M.1.cls) hts hin ty0 hty0 hnm0 hK.K hq
  obtain ⟨hSl, hfc, kC, hkC, hkind⟩ := hK.1 ci _ hq
  obtain ⟨cf, kf, fi, f, hi, hsl⟩ := hSl k hkN
  have hst := (u_facts hfc hkC (u_lays hts hin hkN) hi).1
  have hlen : k < (fs.map (gv g)).length := by rw [List.length_map]; exact hkl
  have fin1 : ∀ H1 : Heap, H1[g.1 + a]? = some (cell.setSlot f.slot (gv g v)) → H1.size = H.size → (∀ q : Nat, q ≠ g.1 + a → H1[q]? = H[q]?) →
      W p l e R s m args below meth c H1 (locs ++ [⟨g.1 + a, f.slot⟩]) cells slots Z (F0 m (pc + 3) lsA (st.map (gv g))) := by
    intro H1 e1 e2 e3
    refine kk p l e R s m args below meth c g Z mc ms hC hmc hms (fun pc' v2 h2 H2 l2 c2 s2 L2 a1 a2 => hret pc' v2 h2 H2 l2 c2 s2 L2 a1 ⟨a2.1, Sh.put a2.2 hc (by simp only [shp, List.length_set])⟩) H1 _ cells slots lsA hk hs ?_ (hS.put e2 e3 (Nat.le_add_right _ _)) hl
    refine Wd_store hsz hP hAr hc.1 _ ?_ (fun ty x h9 => by cases h9) e2 e3
    rw [hsl] at e1
    refine ⟨_, hq, t_OB.to (V := updV (vp_V (fs.map (gv g))) k (gv g v)) ⟨_, e1, q2, q3, t_set q4 hap hkN _⟩ (fun j _ => ?_)⟩
    rw [List.map_set]
    exact vp_updV_set hlen _ j
  cases fin with
  | false =>
    have hlay := hts _ (hin _ (u_in_lay hkN))
    unfold u_lay at hlay
    rw [if_neg (by rw [hfin]; decide)] at hlay
    have h6 := u_store hfc hkC hkind hlay hi hty (hn g).1 (hn g).2
    exact W.putK hx hb (f := f) ⟨hown, hts _ hlink, ⟨_, _, _, hi⟩, hst⟩ (by rw [q2]; exact h6) q1 q3 (by rw [hsl]; exact k2_hasslot (q4 k hkN)) rfl rfl hd fin1
  | true =>
    have hlay := hts _ (hin _ (u_in_lay hkN))
    unfold u_lay at hlay
    rw [if_pos hfin] at hlay
    obtain ⟨hi1, hi2⟩ := hfn rfl
    have hCM : C = M.1.cls := by
      rw [hq] at hi2
      exact Option.some.inj hi2
    have hcf : m.cls = cf := by
      obtain ⟨_, _, c', _, _, _, -, -, hf', -, -, -, hown2, -⟩ := Cond.laysFinal_spec hlay
      have e1 : c' = cf := by have := hi.symm.trans hf'; simp at this; exact this.1.symm
      rw [hCo, hCM] at hown2
      rw [← e1]; exact Option.some.inj (hown.symm.trans hown2)
    have h6 := u_fits hfc hkC hkind (Or.inr hlay) hi hty (hn g).1 (hn g).2
    exact W.putFinK hx hb hown (hts _ hlink) hi hst hcf (hnm.trans hi1) (by rw [q2]; exact h6) q1 q3 (by rw [hsl]; exact k2_hasslot (q4 k hkN)) rfl rfl hd fin1
section PUTS
variable {M : MD} {κ : Nat × Nat} {Q : Option Value → AH → Prop} {pc pc2 : Nat} {h : AH} {ls : List (Option Value)} {st : List Value} {idx a ci k : Nat} {fs : List Value}
theorem e_puti {x : Int32} (hd : decode M.2.1 pc = .ok (.putfield idx, 3) ∧ pc2 = pc + 3) (hF : Fl M.1.cls idx ci k .int false) (hc : Hs h a (.inr (ci, fs))) (hkl : k < fs.length)
    (kk : E M κ Q pc2 (up h a (.inr (ci, fs.set k (.int x)))) ls st) : E M κ Q pc h ls (.int x :: .ref a :: st) := e_putG hd hF (fun z => by cases z) hc hkl (fun g => ⟨rfl, rfl⟩) kk
theorem e_putz {x : Int32} (hd : decode M.2.1 pc = .ok (.putfield idx, 3) ∧ pc2 = pc + 3) (hF : Fl M.1.cls idx ci k .boolean false) (hx : x = 0 ∨ x = 1) (hc : Hs h a (.inr (ci, fs))) (hkl : k < fs.length)
    (kk : E M κ Q pc2 (up h a (.inr (ci, fs.set k (.int x)))) ls st) : E M κ Q pc h ls (.int x :: .ref a :: st) := e_putG hd hF (fun z => by cases z) hc hkl (fun g => by rcases hx with rfl | rfl <;> exact ⟨rfl, rfl⟩) kk
theorem e_putj {x : Int64} (hd : decode M.2.1 pc = .ok (.putfield idx, 3) ∧ pc2 = pc + 3) (hF : Fl M.1.cls idx ci k .long false) (hc : Hs h a (.inr (ci, fs))) (hkl : k < fs.length)
    (kk : E M κ Q pc2 (up h a (.inr (ci, fs.set k (.long x)))) ls st) : E M κ Q pc h ls (.long x :: .ref a :: st) := e_putG hd hF (fun z => by cases z) hc hkl (fun g => ⟨rfl, rfl⟩) kk
theorem e_puta {b : Nat} {ty : FieldType} (hd : decode M.2.1 pc = .ok (.putfield idx, 3) ∧ pc2 = pc + 3) (hF : Fl M.1.cls idx ci k (.array ty) false) (hc : Hs h a (.inr (ci, fs))) (hkl : k < fs.length)
    (kk : E M κ Q pc2 (up h a (.inr (ci, fs.set k (.ref b)))) ls st) : E M κ Q pc h ls (.ref b :: .ref a :: st) := e_putG hd hF (fun z => by cases z) hc hkl (fun g => ⟨rfl, rfl⟩) kk
theorem e_puto {b : Nat} {C : String} (hd : decode M.2.1 pc = .ok (.putfield idx, 3) ∧ pc2 = pc + 3) (hF : Fl M.1.cls idx ci k (.object C) false) (hc : Hs h a (.inr (ci, fs))) (hkl : k < fs.length)
    (kk : E M κ Q pc2 (up h a (.inr (ci, fs.set k (.ref b)))) ls st) : E M κ Q pc h ls (.ref b :: .ref a :: st) := e_putG hd hF (fun z => by cases z) hc hkl (fun g => ⟨rfl, rfl⟩) kk
theorem e_putaF {b : Nat} {ty : FieldType} (hd : decode M.2.1 pc = .ok (.putfield idx, 3) ∧ pc2 = pc + 3) (hF : Fl M.1.cls idx ci k (.array ty) true) (hi : M.1.name = "<init>") (hi2 : (vwCl[ci]?).map (·.1) = some M.1.cls) (hc : Hs h a (.inr (ci, fs))) (hkl : k < fs.length)
    (kk : E M κ Q pc2 (up h a (.inr (ci, fs.set k (.ref b)))) ls st) : E M κ Q pc h ls (.ref b :: .ref a :: st) := e_putG hd hF (fun _ => ⟨hi, hi2⟩) hc hkl (fun g => ⟨rfl, rfl⟩) kk
theorem e_putoF {b : Nat} {C : String} (hd : decode M.2.1 pc = .ok (.putfield idx, 3) ∧ pc2 = pc + 3) (hF : Fl M.1.cls idx ci k (.object C) true) (hi : M.1.name = "<init>") (hi2 : (vwCl[ci]?).map (·.1) = some M.1.cls) (hc : Hs h a (.inr (ci, fs))) (hkl : k < fs.length)
    (kk : E M κ Q pc2 (up h a (.inr (ci, fs.set k (.ref b)))) ls st) : E M κ Q pc h ls (.ref b :: .ref a :: st) := e_putG hd hF (fun _ => ⟨hi, hi2⟩) hc hkl (fun g => ⟨rfl, rfl⟩) kk
end PUTS
section ARRS
variable {M : MD} {κ : Nat × Nat} {Q : Option Value → AH → Prop} {pc pc2 : Nat} {h : AH} {ls : List (Option Value)} {st : List Value} {a n : Nat} {i : Int32}
/-- arrays of ints (booleans, bytes), of longs, of references -/
abbrev aI (n : Nat) (f : Nat → Int32) : AC := .inl (.int, n, .inl f)
abbrev aB (n : Nat) (f : Nat → Int32) : AC := .inl (.byte, n, .inl f)
abbrev aZ (n : Nat) (f : Nat → Int32) : AC := .inl (.boolean, n, .inl f)
abbrev aJ (n : Nat) (f : Nat → Int64) : AC := .inl (.long, n, .inr (.inl f))
abbrev aT (n : Nat) (f : Nat → Option Nat) : AC := .inl (.object "MorningCoin$Text", n, .inr (.inr (.inr (.inr f))))
theorem wsl_at {g : GC} {cA : Nat → ClassId} {e : AC} (hc : Hs h a e) : (wsl g cA h.2.1 h.2.2)[a]? = some (g.1 + a, gE g (cA a) e) := by
  rw [← hc.2]; exact wsl_get hc.1
theorem e_iald {f : Nat → Int32} (hd : decode M.2.1 pc = .ok (.iaload, 1) ∧ pc2 = pc + 1) (hc : Hs h a (aI n f)) (hi : vp_in i n) (kk : E M κ Q pc2 h ls (.int (f i.toNatClampNeg) :: st)) : E M κ Q pc h ls (.int i :: .ref a :: st) := by
  obtain ⟨hd, rfl⟩ := hd
  intro p l e R s m args below meth c g Z mc ms hC hmc hms hret H locs cells slots lsA hk hs hW hS hl
  obtain ⟨hsz, cA, hP, hAr⟩ := id hW
  exact va_iald hC.1 hC.2.1 (hC.2.2.2.2.2.2.2.2.2.2.1.KA (hAr a _ _ hc.1 hc.2)) hP a 0 (wsl_at hc) rfl hi hd (kk p l e R s m args below meth c g Z mc ms hC hmc hms hret H locs cells slots lsA hk hs hW hS hl)
theorem e_bald {f : Nat → Int32} (hd : decode M.2.1 pc = .ok (.baload, 1) ∧ pc2 = pc + 1) (hc : Hs h a (aB n f)) (hi : vp_in i n) (kk : E M κ Q pc2 h ls (.int (f i.toNatClampNeg) :: st)) : E M κ Q pc h ls (.int i :: .ref a :: st) := by
  obtain ⟨hd, rfl⟩ := hd
  intro p l e R s m args below meth c g Z mc ms hC hmc hms hret H locs cells slots lsA hk hs hW hS hl
  obtain ⟨hsz, cA, hP, hAr⟩ := id hW
  exact va_bald hC.1 hC.2.1 (hC.2.2.2.2.2.2.2.2.2.2.1.KA (hAr a _ _ hc.1 hc.2)) hP a 0 (wsl_at hc) rfl hi hd (kk p l e R s m args below meth c g Z mc ms hC hmc hms hret H locs cells slots lsA hk hs hW hS hl)
theorem e_zald {f : Nat → Int32} (hd : decode M.2.1 pc = .ok (.baload, 1) ∧ pc2 = pc + 1) (hc : Hs h a (aZ n f)) (hi : vp_in i n) (kk : E M κ Q pc2 h ls (.int (f i.toNatClampNeg) :: st)) : E M κ Q pc h ls (.int i :: .ref a :: st) := by
  obtain ⟨hd, rfl⟩ := hd
  intro p l e R s m args below meth c g Z mc ms hC hmc hms hret H locs cells slots lsA hk hs hW hS hl
  obtain ⟨hsz, cA, hP, hAr⟩ := id hW
  exact va_zald hC.1 hC.2.1 (hC.2.2.2.2.2.2.2.2.2.2.1.KA (hAr a _ _ hc.1 hc.2)) hP a 0 (wsl_at hc) rfl hi hd (kk p l e R s m args below meth c g Z mc ms hC hmc hms hret H locs cells slots lsA hk hs hW hS hl)
theorem e_lald {f : Nat → Int64} (hd : decode M.2.1 pc = .ok (.laload, 1) ∧ pc2 = pc + 1) (hc : Hs h a (aJ n f)) (hi : vp_in i n) (kk : E M κ Q pc2 h ls (.long (f i.toNatClampNeg) :: st)) : E M κ Q pc h ls (.int i :: .ref a :: st) := by
  obtain ⟨hd, rfl⟩ := hd
  intro p l e R s m args below meth c g Z mc ms hC hmc hms hret H locs cells slots lsA hk hs hW hS hl
  obtain ⟨hsz, cA, hP, hAr⟩ := id hW
  exact va_lald hC.1 hC.2.1 (hC.2.2.2.2.2.2.2.2.2.2.1.KA (hAr a _ _ hc.1 hc.2)) hP a 0 (wsl_at hc) rfl hi hd (kk p l e R s m args below meth c g Z mc ms hC hmc hms hret H locs cells slots lsA hk hs hW hS hl)
theorem gv_rf {g : GC} (r : Option Nat) : va_rf (r.map (fun k => g.1 + k)) = gv g (va_rf r) := by cases r <;> rfl
theorem e_tald {f : Nat → Option Nat} (hd : decode M.2.1 pc = .ok (.aaload, 1) ∧ pc2 = pc + 1) (hc : Hs h a (aT n f)) (hi : vp_in i n) (kk : E M κ Q pc2 h ls (va_rf (f i.toNatClampNeg) :: st)) : E M κ Q pc h ls (.int i :: .ref a :: st) := by
  obtain ⟨hd, rfl⟩ := hd
  intro p l e R s m args below meth c g Z mc ms hC hmc hms hret H locs cells slots lsA hk hs hW hS hl
  obtain ⟨hsz, cA, hP, hAr⟩ := id hW
  refine va_aldq hC.1 hC.2.1 (hC.2.2.2.2.2.2.2.2.2.2.1.KA (hAr a _ _ hc.1 hc.2)) hP a 0 (wsl_at hc) rfl hi hd ?_
  rw [gv_rf]
  exact kk p l e R s m args below meth c g Z mc ms hC hmc hms hret H locs cells slots lsA hk hs hW hS hl
theorem e_alen {ty : FieldType} {x : vp_A} (hd : decode M.2.1 pc = .ok (.arraylength, 1) ∧ pc2 = pc + 1) (hc : Hs h a (.inl (ty, x))) (kk : E M κ Q pc2 h ls (.int (nI x.1) :: st)) : E M κ Q pc h ls (.ref a :: st) := by
  obtain ⟨hd, rfl⟩ := hd
  intro p l e R s m args below meth c g Z mc ms hC hmc hms hret H locs cells slots lsA hk hs hW hS hl
  obtain ⟨hsz, cA, hP, hAr⟩ := id hW
  exact va_alen hC.1 hC.2.1 (hC.2.2.2.2.2.2.2.2.2.2.1.KA (hAr a _ _ hc.1 hc.2)) hP a 0 (wsl_at hc) rfl rfl hd (kk p l e R s m args below meth c g Z mc ms hC hmc hms hret H locs cells slots lsA hk hs hW hS hl)
theorem arr_up {α : Type} (mk : α → Value) (c : ClassId) (n : Nat) (f : Nat → α) (k : Nat) (x : α) : (arrV c n (fun j => mk (f j))).setSlot k (mk x) = arrV c n (fun j => mk (va_up f k x j)) := by
  rw [arrV_store]
  congr 1
  funext q
  by_cases hq : q = k
  · subst hq; simp [updV, va_up]
  · simp [updV, va_up, hq]
theorem e_iast {f : Nat → Int32} {x : Int32} (hd : decode M.2.1 pc = .ok (.iastore, 1) ∧ pc2 = pc + 1) (hc : Hs h a (aI n f)) (hi : vp_in i n) (kk : E M κ Q pc2 (up h a (aI n (va_up f i.toNatClampNeg x))) ls st) : E M κ Q pc h ls (.int x :: .int i :: .ref a :: st) := by
  obtain ⟨hd, rfl⟩ := hd
  intro p l e R s m args below meth c g Z mc ms hC hmc hms hret H locs cells slots lsA hk hs hW hS hl
  obtain ⟨hsz, cA, hP, hAr⟩ := id hW
  refine W.iast hC.1 hC.2.1 (hP a _ (wsl_at hc)) ((hAr a _ _ hc.1 hc.2).1 n (fun j => .int (f j))) (fun q => by cases q) (by show ¬ (i < 0 ∨ (arrV _ _ _).slots.size ≤ _); rw [arrV_size]; exact hi) rfl rfl hd fun H1 e1 z oq => ?_
  refine kk p l e R s m args below meth c g Z mc ms hC hmc hms (fun pc' v2 h2 H2 l2 c2 s2 L2 a1 a2 => hret pc' v2 h2 H2 l2 c2 s2 L2 a1 ⟨a2.1, Sh.put a2.2 hc rfl⟩) H1 _ cells slots lsA hk hs (Wd_store hsz hP hAr hc.1 _ ?_ (fun ty y h9 => by cases h9; exact ⟨_, hc.2⟩) z oq) (hS.put z oq (Nat.le_add_right _ _)) hl
  exact e1.trans (congrArg some (arr_up Value.int (cA a) n f _ x))
theorem e_bast {f : Nat → Int32} {x : Int32} (hd : decode M.2.1 pc = .ok (.bastore, 1) ∧ pc2 = pc + 1) (hc : Hs h a (aB n f)) (hi : vp_in i n) (kk : E M κ Q pc2 (up h a (aB n (va_up f i.toNatClampNeg x.toInt8.toInt32))) ls st) : E M κ Q pc h ls (.int x :: .int i :: .ref a :: st) := by
  obtain ⟨hd, rfl⟩ := hd
  intro p l e R s m args below meth c g Z mc ms hC hmc hms hret H locs cells slots lsA hk hs hW hS hl
  obtain ⟨hsz, cA, hP, hAr⟩ := id hW
  refine W.bast hC.1 hC.2.1 (hP a _ (wsl_at hc)) ((hAr a _ _ hc.1 hc.2).1 n (fun j => .int (f j))) (fun q => by cases q) (by show ¬ (i < 0 ∨ (arrV _ _ _).slots.size ≤ _); rw [arrV_size]; exact hi) rfl rfl hd fun H1 e1 z oq => ?_
  refine kk p l e R s m args below meth c g Z mc ms hC hmc hms (fun pc' v2 h2 H2 l2 c2 s2 L2 a1 a2 => hret pc' v2 h2 H2 l2 c2 s2 L2 a1 ⟨a2.1, Sh.put a2.2 hc rfl⟩) H1 _ cells slots lsA hk hs (Wd_store hsz hP hAr hc.1 _ ?_ (fun ty y h9 => by cases h9; exact ⟨_, hc.2⟩) z oq) (hS.put z oq (Nat.le_add_right _ _)) hl
  exact e1.trans (congrArg some (arr_up Value.int (cA a) n f _ _))
theorem e_zast {f : Nat → Int32} {x : Int32} (hd : decode M.2.1 pc = .ok (.bastore, 1) ∧ pc2 = pc + 1) (hc : Hs h a (aZ n f)) (hi : vp_in i n) (hx : x = 0 ∨ x = 1) (kk : E M κ Q pc2 (up h a (aZ n (va_up f i.toNatClampNeg x))) ls st) : E M κ Q pc h ls (.int x :: .int i :: .ref a :: st) := by
  obtain ⟨hd, rfl⟩ := hd
  intro p l e R s m args below meth c g Z mc ms hC hmc hms hret H locs cells slots lsA hk hs hW hS hl
  obtain ⟨hsz, cA, hP, hAr⟩ := id hW
  refine W.zast hC.1 hC.2.1 (hP a _ (wsl_at hc)) ((hAr a _ _ hc.1 hc.2).1 n (fun j => .int (f j))) (fun q => by cases q) (by show ¬ (i < 0 ∨ (arrV _ _ _).slots.size ≤ _); rw [arrV_size]; exact hi) rfl rfl hd fun H1 e1 z oq => ?_
  refine kk p l e R s m args below meth c g Z mc ms hC hmc hms (fun pc' v2 h2 H2 l2 c2 s2 L2 a1 a2 => hret pc' v2 h2 H2 l2 c2 s2 L2 a1 ⟨a2.1, Sh.put a2.2 hc rfl⟩) H1 _ cells slots lsA hk hs (Wd_store hsz hP hAr hc.1 _ ?_ (fun ty y h9 => by cases h9; exact ⟨_, hc.2⟩) z oq) (hS.put z oq (Nat.le_add_right _ _)) hl
  have hnx : narrow .boolean (.int x) = .int x := by rcases hx with rfl | rfl <;> rfl
  rw [hnx] at e1
  exact e1.trans (congrArg some (arr_up Value.int (cA a) n f _ _))
theorem e_last {f : Nat → Int64} {x : Int64} (hd : decode M.2.1 pc = .ok (.lastore, 1) ∧ pc2 = pc + 1) (hc : Hs h a (aJ n f)) (hi : vp_in i n) (kk : E M κ Q pc2 (up h a (aJ n (va_up f i.toNatClampNeg x))) ls st) : E M κ Q pc h ls (.long x :: .int i :: .ref a :: st) := by
  obtain ⟨hd, rfl⟩ := hd
  intro p l e R s m args below meth c g Z mc ms hC hmc hms hret H locs cells slots lsA hk hs hW hS hl
  obtain ⟨hsz, cA, hP, hAr⟩ := id hW
  refine W.last hC.1 hC.2.1 (hP a _ (wsl_at hc)) ((hAr a _ _ hc.1 hc.2).1 n (fun j => .long (f j))) (fun q => by cases q) (by show ¬ (i < 0 ∨ (arrV _ _ _).slots.size ≤ _); rw [arrV_size]; exact hi) rfl rfl hd fun H1 e1 z oq => ?_
  refine kk p l e R s m args below meth c g Z mc ms hC hmc hms (fun pc' v2 h2 H2 l2 c2 s2 L2 a1 a2 => hret pc' v2 h2 H2 l2 c2 s2 L2 a1 ⟨a2.1, Sh.put a2.2 hc rfl⟩) H1 _ cells slots lsA hk hs (Wd_store hsz hP hAr hc.1 _ ?_ (fun ty y h9 => by cases h9; exact ⟨_, hc.2⟩) z oq) (hS.put z oq (Nat.le_add_right _ _)) hl
  exact e1.trans (congrArg some (arr_up Value.long (cA a) n f _ x))
/-- a Text into a row of Texts -/
theorem e_tast {f : Nat → Option Nat} {b : Nat} {fs : List Value} (hd : decode M.2.1 pc = .ok (.aastore, 1) ∧ pc2 = pc + 1) (hc : Hs h a (aT n f)) (hv : Hs h b (.inr (8, fs))) (hi : vp_in i n) (kk : E M κ Q pc2 (up h a (aT n (va_up f i.toNatClampNeg (some b)))) ls st) : E M κ Q pc h ls (.ref b :: .int i :: .ref a :: st) := by
  obtain ⟨hd, rfl⟩ := hd
  intro p l e R s m args below meth c g Z mc ms hC hmc hms hret H locs cells slots lsA hk hs hW hS hl
  obtain ⟨hsz, cA, hP, hAr⟩ := id hW
  have hK := hC.2.2.2.2.2.2.2.2.2.2.1
  obtain ⟨r', hr', cellV, g1, g2, g3, -⟩ := hP b _ (wsl_at hv)
  have hcls := (hK.1 8 _ rfl).2
  obtain ⟨kA, comp, k1, k2, k3, -⟩ := (hAr a _ _ hc.1 hc.2).2
  have hcomp : comp = g.2.1.1 8 := Option.some.inj (k3.symm.trans hcls.1)
  subst hcomp
  obtain ⟨kC, hkC, -⟩ := hcls.2
  have hlt : i.toNatClampNeg < n := Nat.not_le.mp fun q => hi (Or.inr q)
  have h0 : ¬ i < 0 := fun q => hi (Or.inl q)
  refine W.aast hC.1 hC.2.1 (hP a _ (wsl_at hc)) (fun q h => by cases h) (fun h => by cases h) k1 k2 rfl hkC ⟨h0, by show _ < (arrV _ _ _).slots.size; rw [arrV_size]; exact hlt⟩ g1 (fun q h => by rw [g3] at h; cases h) (by rw [g2]; exact hkC) (by rw [g2]; exact va_assign hcls) rfl rfl hd fun H1 e1 z oq => ?_
  refine kk p l e R s m args below meth c g Z mc ms hC hmc hms (fun pc' v2 h2 H2 l2 c2 s2 L2 a1 a2 => hret pc' v2 h2 H2 l2 c2 s2 L2 a1 ⟨a2.1, Sh.put a2.2 hc rfl⟩) H1 _ cells slots lsA hk hs (Wd_store hsz hP hAr hc.1 _ ?_ (fun ty y h9 => by cases h9; exact ⟨_, hc.2⟩) z oq) (hS.put z oq (Nat.le_add_right _ _)) hl
  refine e1.trans (congrArg some ?_)
  refine (arr_up va_rf (cA a) n (fun j => (f j).map (fun k => g.1 + k)) i.toNatClampNeg (some (g.1 + b))).trans ?_
  show arrV (cA a) n _ = arrV (cA a) n (fun j => va_rf (Option.map (fun k => g.1 + k) (va_up f i.toNatClampNeg (some b) j)))
  congr 1
  funext q
  by_cases hq : q = i.toNatClampNeg
  · subst hq; simp [va_up]
  · simp [va_up, hq]
theorem defV_int : defaultValue .int = .int 0 := rfl
/-- a new array of numbers -/
theorem e_newarr {κ' : Nat × Nat} {at_ : ArrayType} {N : Nat} {x : vp_A} {nn : Int32} {ty : FieldType} (hd : decode M.2.1 pc = .ok (.newarray at_, 2) ∧ pc2 = pc + 2) (hty : newarray.typeOf at_ = ty) (hw : Cond.arrayClass ty ∈ lw_good) (hx : ∀ (g : GC) (c : ClassId), arrV c N (fun _ => defaultValue ty) = vp_cell c (gA g x)) (hra : ∀ (U : State) (c : ClassId), U.vm.findClass ("[" ++ ty.toString) = some c → va_RA U c ty)
    (hn : ¬ nn < 0) (hN : nn.toNatClampNeg = N) (hbytes : N * componentBytes ty ≤ 536870912) (h1 : κ.1 = κ'.1 + 1) (h2 : κ.2 = κ'.2 + N) (kk : E M κ' Q pc2 (pu h (.inl (ty, x))) ls (.ref h.2.1 :: st)) : E M κ Q pc h ls (.int nn :: st) := by
  obtain ⟨hd, rfl⟩ := hd
  subst hty
  intro p l e R s m args below meth c g Z mc ms hC hmc hms hret H locs cells slots lsA hk hs hW hS hl
  obtain ⟨hsz, cA, hP, hAr⟩ := id hW
  refine va_newaK hC.1 hC.2.1 (hC.2.2.2.2.2.1 _ hw) rfl hd rfl hn hN hbytes (by omega) (by omega) hsz fun H1 cA1 e1 z1 o1 hArr hNm => ?_
  refine kk p l e R s m args below meth c g Z mc ms hC hmc hms (fun pc' v2 h2 H2 l2 c2 s2 L2 a1 a2 => hret pc' v2 h2 H2 l2 c2 s2 L2 a1 ⟨a2.1, Sh.psh.trans a2.2⟩) H1 locs (cells + 1) (slots + N) lsA (by omega) (by omega) (Wd_push (c := cA1) hsz hP hAr _ ?_ (fun ty y h9 => by cases h9; exact ⟨hArr, hra s cA1 hNm⟩) (by omega) (fun q hq => o1 q (by omega))) ⟨Nat.le_trans hS.1 (by omega), fun q q1 q2 => (o1 q (Nat.lt_of_lt_of_le q1 (by have := hS.1; omega))).trans (hS.2.1 q q1 q2), hS.2.2⟩ hl
  exact e1.trans (congrArg some (hx g cA1))
/-- a new row of Texts -/
theorem e_newT {κ' : Nat × Nat} {idx N : Nat} {nn : Int32} (hd : decode M.2.1 pc = .ok (.anewarray idx, 3) ∧ pc2 = pc + 3) (hw : Cond.classLink M.1.cls idx "MorningCoin$Text" ∈ lw_good)
    (hn : ¬ nn < 0) (hN : nn.toNatClampNeg = N) (hbytes : N * 4 ≤ 536870912) (h1 : κ.1 = κ'.1 + 1) (h2 : κ.2 = κ'.2 + N) (kk : E M κ' Q pc2 (pu h (aT N (fun _ => none))) ls (.ref h.2.1 :: st)) : E M κ Q pc h ls (.int nn :: st) := by
  obtain ⟨hd, rfl⟩ := hd
  subst hN
  intro p l e R s m args below meth c g Z mc ms hC hmc hms hret H locs cells slots lsA hk hs hW hS hl
  obtain ⟨hsz, cA, hP, hAr⟩ := id hW
  have hK := hC.2.2.2.2.2.2.2.2.2.2.1
  refine W.anew hC.1 hC.2.1 hC.2.2.2.2.1 (hC.2.2.2.2.2.1 _ hw) (va_AO.use hK.2.1) rfl hd rfl hn hbytes (by omega) (by omega) fun cA1 kA comp f1 f2 f3 f4 => ?_
  generalize hH1 : H.push ({ cls := cA1, slots := Array.replicate nn.toNatClampNeg .null, vm := .none } : Cell) = H1
  have z1 : H1.size = H.size + 1 := by rw [← hH1, Array.size_push]
  have e1 : H1[H.size]? = some (arrV cA1 nn.toNatClampNeg (fun _ => .null)) := by rw [← hH1, Array.getElem?_push_size, ← arrV_new]
  have o1 : ∀ q : Nat, q < H.size → H1[q]? = H[q]? := fun q hq => by rw [← hH1, Array.getElem?_push, if_neg (Nat.ne_of_lt hq)]
  have hz : F0 m (pc + 3) lsA (.ref H.size :: st.map (gv g)) = F0 m (pc + 3) lsA ((.ref h.2.1 :: st).map (gv g)) := by rw [hsz]; rfl
  refine W.eq hz ?_
  refine kk p l e R s m args below meth c g Z mc ms hC hmc hms (fun pc' v2 h2 H2 l2 c2 s2 L2 a1 a2 => hret pc' v2 h2 H2 l2 c2 s2 L2 a1 ⟨a2.1, Sh.psh.trans a2.2⟩) H1 locs (cells + 1) (slots + nn.toNatClampNeg) lsA (by omega) (by omega) (Wd_push (c := cA1) hsz hP hAr _ ?_ (fun ty y h9 => by cases h9; exact ⟨fun N z => ⟨(fun k h => by cases h), kA, f2, comp, f3⟩, kA, comp, f2, f3, f4, f1⟩) z1 o1) ⟨Nat.le_trans hS.1 (by omega), fun q q1 q2 => (o1 q (Nat.lt_of_lt_of_le q1 hS.1)).trans (hS.2.1 q q1 q2), hS.2.2⟩ hl
  rw [hsz] at e1
  exact e1
/-- a new object -/
theorem e_new {κ' : Nat × Nat} {idx ci N : Nat} {C : String} {fs : List Value} (hd : decode M.2.1 pc = .ok (.new idx, 3) ∧ pc2 = pc + 3) (hq : (vwCl[ci]?).map (fun q => (q.1, q.2.2)) = some (C, N)) (hw : Cond.classLink M.1.cls idx C ∈ lw_good ∧ Cond.instantiable C N ∈ lw_good ∧ Cond.initialized C ∈ lw_good)
    (hfs : ∀ q : vw_C, vwCl[ci]? = some q → ∀ j, j < N → (parseFieldDescriptor (q.2.1 j).2.2.1).map defaultValue = some (vp_V fs j)) (hfg : ∀ g : GC, fs.map (gv g) = fs)
    (h1 : κ.1 = κ'.1 + 1) (h2 : κ.2 = κ'.2 + N) (kk : E M κ' Q pc2 (pu h (.inr (ci, fs))) ls (.ref h.2.1 :: st)) : E M κ Q pc h ls st := by
  obtain ⟨hd, rfl⟩ := hd
  intro p l e R s m args below meth c g Z mc ms hC hmc hms hret H locs cells slots lsA hk hs hW hS hl
  obtain ⟨hx, hb, hml, hr, hown, hts, hnm, hlk, hf, hlo, hK, hT, hX, hg⟩ := id hC
  obtain ⟨hsz, cA, hP, hAr⟩ := id hW
  obtain ⟨⟨C', T, N'⟩, hq', hq2⟩ := Option.map_eq_some_iff.mp hq
  cases hq2
  dsimp only at h2 hfs hw
  obtain ⟨hin, ⟨ty0, hty0⟩, hnm0⟩ := Cg_all hq'
  have hKn := hK.1 ci _ hq'
  refine W.newcK hx hb hown (hts _ hw.1) (hts _ hw.2.1) (hts _ hw.2.2) rfl hd (by omega) (by omega) hKn.2.1 hsz fun H1 kC hkC e1 z1 o1 => ?_
  refine kk p l e R s m args below meth c g Z mc ms hC hmc hms (fun pc' v2 h2 H2 l2 c2 s2 L2 a1 a2 => hret pc' v2 h2 H2 l2 c2 s2 L2 a1 ⟨a2.1, Sh.psh.trans a2.2⟩) H1 locs (cells + 1) (slots + N') lsA (by omega) (by omega) (Wd_push (c := 0) hsz hP hAr _ ?_ (fun ty y h9 => by cases h9) (by omega) (fun q hq => o1 q (by omega))) ⟨Nat.le_trans hS.1 (by omega), fun q q1 q2 => (o1 q (Nat.lt_of_lt_of_le q1 (by have := hS.1; omega))).trans (hS.2.1 q q1 q2), hS.2.2⟩ hl
  refine ⟨_, hq', (u_born ty0 hts hin hKn hkC e1 hty0).to (fun j hj => ?_)⟩
  have h3 := hfs _ hq' j hj
  rw [hty0 j hj] at h3
  rw [hfg g]
  exact Option.some.inj h3
theorem e_objInit {idx : Nat} (hd : decode M.2.1 pc = .ok (.invokespecial idx, 3) ∧ pc2 = pc + 3) (hw : Cond.methodLink M.1.cls idx Lib.objectInit ∈ lw_good ∧ Cond.instanceMethod Lib.objectInit ∈ lw_good ∧ Cond.code Lib.objectInit ⟨#[0xb1]⟩ 1 none ∈ lw_good) (hf : 1 ≤ M.2.2.2.2.1) (hlo : (st.map fun v => v.category).sum + 12 ≤ M.2.2.2.2.2) (kk : E M κ Q pc2 h ls st) : E M κ Q pc h ls (.ref a :: st) := by
  obtain ⟨hd, rfl⟩ := hd
  intro p l e R s m args below meth c g Z mc ms hC hmc hms hret H locs cells slots lsA hk hs hW hS hl
  obtain ⟨hx, hb, hml, hr, hown, hts, hnm, hlk, hf', hlo', hK, hT, hX, hg⟩ := id hC
  have hcat : ((st.map (gv g)).map fun v => v.category).sum = (st.map fun v => v.category).sum := by simp [Function.comp_def, gv_cat hK.2.2]
  refine W.objInit hx hb hown (hts _ hw.1) (hts _ hw.2.1) (hts _ hw.2.2) rfl (by rw [hml]; exact hl.1) rfl hd (by omega) (by show 2 * 0 + _ + 12 ≤ _; omega) ?_
  exact kk p l e R s m args below meth c g Z mc ms hC hmc hms hret H locs cells slots lsA hk hs hW hS hl
end ARRS
