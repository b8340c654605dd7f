/-! CALLS: a method's contract out of its run, and the run's step over a call. -/
/-- the locals with which a method begins -/
def lsJ : List Value → List (Option Value)
  | [] => []
  | v :: r => if v.category = 2 then some v :: none :: lsJ r else some v :: lsJ r
def lsI (n : Nat) (av : List Value) : List (Option Value) := lsJ av ++ List.replicate (n - (lsJ av).length) none
/-- the method M, begun with these arguments, runs to its end with Q -/
def Sp (M : MD) (κ : Nat × Nat) (h : AH) (av : List Value) (Q : Option Value → AH → Prop) : Prop := (lsJ av).length ≤ M.2.2.1 ∧ E M κ Q 0 h (lsI M.2.2.1 av) []
theorem lsJ_lp {g : GC} (hk : ∀ k, (g.2.2 k).category = 1) : ∀ (av : List Value) (i : Nat), lpF g i (lsJ av) = lv_args i (av.map (gv g))
  | [], i => rfl
  | v :: r, i => by
    by_cases hc : v.category = 2
    · simp only [lsJ, hc, if_true, lpF, List.map_cons, lv_args, gv_cat hk, lsJ_lp hk r]
    · simp only [lsJ, hc, if_false, lpF, List.map_cons, lv_args, gv_cat hk, lsJ_lp hk r]
theorem lpF_app {g : GC} {k : Nat} : ∀ (ls : List (Option Value)) (i : Nat), lpF g i (ls ++ List.replicate k none) = lpF g i ls
  | [], i => by
    induction k generalizing i with
    | zero => rfl
    | succ k ih =>
      rw [List.replicate_succ]
      exact ih (i + 1)
  | none :: r, i => by simp only [List.cons_append, lpF]; exact lpF_app r (i + 1)
  | some v :: r, i => by simp only [List.cons_append, lpF]; rw [lpF_app r (i + 1)]
theorem lsJ_len {g : GC} (hk : ∀ k, (g.2.2 k).category = 1) : ∀ av : List Value, (lg_sl (av.map (gv g))).length = (lsJ av).length
  | [] => rfl
  | v :: r => by
    have ih := lsJ_len hk r
    simp only [lg_sl] at ih ⊢
    by_cases hc : v.category = 2
    · simp only [List.map_cons, List.flatMap_cons, gv_cat hk, hc, if_true, List.length_append, lsJ, List.length_cons, List.length_nil, ih]; omega
    · simp only [List.map_cons, List.flatMap_cons, gv_cat hk, hc, if_false, List.length_append, lsJ, List.length_cons, List.length_nil, ih]; omega
theorem lsI_has {g : GC} (hk : ∀ k, (g.2.2 k).category = 1) {av : List Value} {n : Nat} (h : (lsJ av).length ≤ n) :
    lv_has ((lg_sl (av.map (gv g)) ++ List.replicate (n - (lg_sl (av.map (gv g))).length) Slot.unset).toArray) n (lp g (lsI n av)) := by
  rw [lp, lsI, lpF_app, lsJ_lp hk]
  exact lv_entry _ (by rw [lsJ_len hk]; exact h)
def wsM (N : MD) : List Cond := Cond.code N.1 N.2.1 N.2.2.1 N.2.2.2.1 :: lw_good
def rmM (N : MD) (κ : Nat × Nat) : Room := { frames := N.2.2.2.2.1, cells := κ.1, slots := κ.2, locals := N.2.2.2.2.2 }
def Pcx (g : GC) (h : AH) (av : List Value) : Array Value → State → Prop := fun a U => a = (av.map (gv g)).toArray ∧ Wd g U h U.heap ∧ Kn g U ∧ Tx g U ∧ Sx g h.1 U U.heap ∧ g.1 ≤ U.heap.size
def Qcx (g : GC) (h : AH) (Q : Option Value → AH → Prop) : Array Value → State → Outcome → State → Prop := fun _ st o t => ∃ (v : Option Value) (h' : AH), Q v h' ∧ (h'.1 = h.1 ∧ Sh h h') ∧ o = .returned (v.map (gv g)) ∧ Wd g t h' t.heap ∧ va_F (Ag g) st t
theorem met_ofWF {l : Launch} {y : MethodName} {ws ws' : List Cond} {rm : Room} {Pc : Array Value → State → Prop} {Qc : Array Value → State → Outcome → State → Prop} {mc ms : Nat} {free : Addr → Prop} {cc : ByteArray} {maxL : Nat} {ret : Option FieldType}
    (hy : plainFor y = true) (hw : ws = Cond.code y cc maxL ret :: ws')
    (body : ∀ p e s m args below meth c s₁, BodyLoose p l y (headSpec ws rm) cc maxL ret e s m args below meth c s₁ → c.maxLocals = maxL → Pc args s →
      W p l e (headSpec ws rm).room s m args below meth c s.heap [] 0 0 (MQ below Qc args s mc ms free) (entryFrame m args maxL)) : Met l y ws rm Pc Qc mc ms free := by
  refine MetFree.of_bodyRF (code := cc) (maxLocals := maxL) (ret := ret) hy ?_ ?_
  · intro args s m h hn
    obtain ⟨meth, c, h1, h2, h3, h4, h5, h6, -, -⟩ := Cond.code_spec hn (atoms_spec (ws := ws) h _ (by rw [hw]; exact List.mem_cons_self))
    exact ⟨meth, c, h1, h2, h3, h4, h5, h6⟩
  · intro p e s m args below meth c s₁ B hml hP _ hstep
    have hh0 : s₁.heap = s.heap := by rw [B.state]; rfl
    obtain ⟨t, a1, o, b1, b2, b3⟩ := body p e s m args below meth c s₁ B hml hP s₁ hh0 (Stand.of_body B)
    exact ⟨t, o, hstep.trans a1, b1, b2, ⟨b3.1, b3.2⟩⟩
set_option maxHeartbeats 4000000 in
theorem metOf {N : MD} {κ : Nat × Nat} {h : AH} {av : List Value} {Q : Option Value → AH → Prop} (hy : plainFor N.1 = true) (hE : Sp N κ h av Q) (l : Launch) (g : GC) :
    Met l N.1 (wsM N) (rmM N κ) (Pcx g h av) (Qcx g h Q) κ.1 κ.2 (Ag g) := by
  refine met_ofWF (cc := N.2.1) (maxL := N.2.2.1) (ret := N.2.2.2.1) hy rfl ?_
  intro p e s m args below meth c s₁ B hml hv
  obtain ⟨rfl, hW, hK, hT, hX, hg⟩ := hv
  have hts := atoms_spec (ws := wsM N) B.pre
  have hC : Cx N p (headSpec (wsM N) (rmM N κ)).room s m (av.map (gv g)).toArray meth c g h.1 :=
    ⟨B.exec, B.bytes, hml, B.returns, findClass_of_methodNamed B.named, fun w hw => hts w (List.mem_cons_of_mem _ hw), (name_of_methodNamed B.named B.method).1, B.notSynchronized, Nat.le_refl _, Nat.le_refl _, hK, hT, hX, hg⟩
  have hx := B.exec
  have hb := B.bytes
  have hr := B.returns
  have hlocks := B.notSynchronized
  rw [lg_entry_eq]
  refine hE.2 p l e _ s m _ below meth c g _ κ.1 κ.2 hC (Nat.le_refl _) (Nat.le_refl _) ?_ s.heap [] 0 0 _ (Nat.zero_add _) (Nat.zero_add _) hW va_S.rf (lsI_has hK.2.2 hE.1)
  intro pc' v h' H' locs' cells' slots' ls' hQ hsc hRt hc1 hs1 hW' hS'
  refine W.widen (k := κ.1) (n := κ.2) hc1 hs1 ?_
  match v, hQ, hRt with
  | none, hQ, hRt =>
    exact W.vret hx hb (hr.trans hRt.2) (fun t ht hWt => ⟨none, h', hQ, hsc, rfl, by rw [ht]; exact hW'.moved hWt.alike, hS'.F ht⟩) hS'.2.2 hRt.1
  | some (.int x), hQ, hRt =>
    obtain ⟨hd, ty, h1, h2⟩ := hRt
    exact W.zret hx hb (hr.trans h1) h2 (fun t ht hWt => ⟨some (.int x), h', hQ, hsc, rfl, by rw [ht]; exact hW'.moved hWt.alike, hS'.F ht⟩) hS'.2.2 hd
  | some (.long x), hQ, hRt =>
    exact W.lret hx hb (hr.trans hRt.2) (fun t ht hWt => ⟨some (.long x), h', hQ, hsc, rfl, by rw [ht]; exact hW'.moved hWt.alike, hS'.F ht⟩) hS'.2.2 hRt.1
  | some .null, _, hRt => exact hRt.elim
  | some (.ref _), _, hRt => exact hRt.elim
  | some (.float _), _, hRt => exact hRt.elim
  | some (.double _), _, hRt => exact hRt.elim
  | some (.retAddr _), _, hRt => exact hRt.elim
theorem Pcx.blind {g : GC} {h : AH} {av : List Value} : FrameBlind (Pcx g h av) := by
  intro a U g' mk q
  obtain ⟨q0, q1, q2, ⟨⟨b, q3, q4⟩, q7⟩, q5, q6⟩ := q
  exact ⟨q0, q1.moved (t := U.calling g' mk a) (Vm.Alike.refl U.vm), q2.moved (t := U.calling g' mk a) (Vm.Alike.refl U.vm), ⟨⟨b, q3, vk_R.same (U := U.calling g' mk a) rfl q4⟩, fun w hw => va_Nw.same rfl (U := U.calling g' mk a) rfl (q7 w hw)⟩, q5.moved (t := U.calling g' mk a) (Vm.Alike.refl U.vm), q6⟩
theorem Pcx.start {g : GC} {h : AH} {av : List Value} {s U : State} {H : Heap} {locs : List Loc} (hK : Kn g s) (hT : Tx g s) (hX : Sx g h.1 s s.heap) (hg : g.1 ≤ s.heap.size) (hW : Wd g s h H) (hS : va_S (Ag g) s.heap H locs) (hU : U.heap = H) (hWm : s.WarmedH U.vm) : Pcx g h av (av.map (gv g)).toArray U := by
  subst hU
  exact ⟨rfl, hW.moved hWm.alike, hK.moved hWm.alike, hT.warm hWm, (hX.kept hg hS).moved hWm.alike, Nat.le_trans hg hS.1⟩
/-- how one method calls another: the words, the room -/
def Lc (M : MD) (idx : Nat) (N : MD) (n : Nat) : Prop :=
  Cond.code N.1 N.2.1 N.2.2.1 N.2.2.2.1 ∈ lw_good ∧ Cond.initialized N.1.cls ∈ lw_good ∧ (N.1.cls ≠ "java/lang/invoke/MethodHandle" ∧ N.1.cls ≠ "java/lang/invoke/VarHandle" ∧ (parseMethodDescriptor N.1.desc).map (fun d => d.parameters.length) = some n) ∧ plainFor N.1 = true ∧
  (N.2.2.2.2.1 + 1 ≤ M.2.2.2.2.1 ∧ 8 + (N.2.2.1 + 11) + N.2.2.2.2.2 ≤ M.2.2.2.2.2)
def LcS (M : MD) (idx : Nat) (N : MD) (n : Nat) : Prop := Lc M idx N n ∧ Cond.methodLink M.1.cls idx N.1 ∈ lw_good ∧ Cond.static N.1 ∈ lw_good
def LcV (M : MD) (idx : Nat) (N : MD) (n : Nat) : Prop := Lc M idx N n ∧ Cond.methodLink M.1.cls idx N.1 ∈ lw_good ∧ Cond.instanceMethod N.1 ∈ lw_good ∧ Cond.selects N.1.cls N.1 N.1 ∈ lw_good
def LcI (M : MD) (idx : Nat) (N : MD) (n : Nat) : Prop := Lc M idx N n ∧ Cond.methodLink M.1.cls idx N.1 ∈ lw_good ∧ Cond.instanceMethod N.1 ∈ lw_good ∧ N.1.name = "<init>" ∧ N.2.2.2.1 = none
def LcIN (M : MD) (idx : Nat) (N : MD) (n : Nat) : Prop := Lc M idx N n ∧ (∃ host, (M.1.cls, idx, N.1, host) ∈ lw_nest) ∧ Cond.instanceMethod N.1 ∈ lw_good ∧ N.1.name = "<init>" ∧ N.2.2.2.1 = none
theorem lw_goodIn {ws : List Cond} (h : ∀ w ∈ ws, w ∈ lw_good) : GoodIn lw_good ws := fun w hw => ⟨h w hw, good_of_word (List.mem_filter.mp (h w hw)).2⟩
theorem wsM_in {N : MD} (h : Cond.code N.1 N.2.1 N.2.2.1 N.2.2.2.1 ∈ lw_good) : ∀ w ∈ wsM N, w ∈ lw_good := fun w hw => by
  rcases List.mem_cons.mp hw with h1 | h1
  · rw [h1]; exact h
  · exact h1
theorem lw_callB {M N : MD} {idx n : Nat} {κ1 : Nat × Nat} {R : Room} {s : State} {args : Array Value} (hL : Lc M idx N n) (hl : Cond.methodLink M.1.cls idx N.1 ∈ lw_good) (hts : ∀ w ∈ lw_good, w.before args s = true) (hf : M.2.2.2.2.1 ≤ R.frames) (hlo : M.2.2.2.2.2 ≤ R.locals) :
    CallB R s args M.1.cls idx N.1 N.2.1 N.2.2.1 N.2.2.2.1 (wsM N) (rmM N κ1) κ1.1 κ1.2 n := by
  obtain ⟨h1, h2, h3, h4, h5, h6⟩ := hL
  exact callB_of (ws' := lw_good) n hts (lw_goodIn (wsM_in h1)) rfl rfl rfl (hts _ h2) (hts _ hl) h3 ⟨Nat.le_trans h5 hf, Nat.le_trans h6 hlo⟩
/-- a reference's cell, as a receiver -/
theorem Wd.recv {g : GC} {s : State} {h : AH} {H : Heap} {b ci : Nat} {fs : List Value} {q : vw_C} (hK : Kn g s) (hW : Wd g s h H) (hb : b < h.2.1) (hc : h.2.2 b = .inr (ci, fs)) (hq : vwCl[ci]? = some q) : ∃ cell : Cell, H[g.1 + b]? = some cell ∧ cell.vm.isStatics = false ∧ s.vm.findClass q.1 = some cell.cls := by
  obtain ⟨-, cA, hP, -⟩ := hW
  have he := wsl_get (g := g) (cA := cA) (f := h.2.2) hb
  rw [hc] at he
  exact va_recv hK.K hP hq he
/-- a cell's content -/
def Hs (h : AH) (a : Nat) (c : AC) : Prop := a < h.2.1 ∧ h.2.2 a = c
/-- one step over a call, however it is made -/
theorem e_run {M N : MD} {κ κ1 : Nat × Nat} {Q Q1 : Option Value → AH → Prop} {pc pc2 : Nat} {h : AH} {ls : List (Option Value)} {st rest : List Value}
    (hpc : pc2 = pc + 3) (hκ : κ1.1 ≤ κ.1 ∧ κ1.2 ≤ κ.2)
    (hrun : ∀ (p : Program) (l : Launch) (e : Env) (R : Room) (s : State) (m : MethodId) (args : Array Value) (below : List Frame) (meth : Method) (c : Code) (g : GC) (H : Heap) (locs : List Loc) (cells slots : Nat) (lsA : Array Slot), Cx M p R s m args meth c g h.1 → cells + κ1.1 ≤ R.cells → slots + κ1.2 ≤ R.slots → Wd g s h H → va_S (Ag g) s.heap H locs → lsA.size = M.2.2.1 →
      ∃ a, va_Run p l e R s m args below meth c H locs cells slots κ1.1 κ1.2 (F0 m pc lsA (st.map (gv g))) (rest.map (gv g)) (Qcx g h Q1 a) (Ag g))
    (k : ∀ (v : Option Value) (h' : AH), Q1 v h' → h'.1 = h.1 → E M (κ.1 - κ1.1, κ.2 - κ1.2) Q pc2 h' ls (v.toList ++ rest)) : E M κ Q pc h ls st := by
  subst hpc
  intro p l e R s m args below meth c g Z mc ms hC hmc hms hret H locs cells slots lsA hk hs hW hS hl
  intro T hT X
  obtain ⟨a, hr⟩ := hrun p l e R s m args below meth c g H locs cells slots lsA hC (by omega) (by omega) hW hS hl.1
  obtain ⟨v, st₀, t, T', L, h0, X', hL, e1, e2, ⟨w, h', hQ1, ⟨hsc, hsh⟩, hv, hW', hz, hkp⟩, stp⟩ := hr T hT X
  have hv' : v = w.map (gv g) := by cases hv; rfl
  subst hv'
  rw [h0] at hz hkp
  have hvm : s.vm.Alike t.vm := by rw [← e2]; exact X'.warmed.alike
  have hS' : va_S (Ag g) s.heap T'.heap (locs ++ L) := ⟨Nat.le_trans hS.1 (by rw [e1]; exact hz), fun q h1 h2 => by rw [e1, hkp q (Nat.lt_of_lt_of_le h1 hS.1) h2]; exact hS.2.1 q h1 h2, fun q hq => by
    rcases List.mem_append.mp hq with h | h
    · exact hS.2.2 q h
    · exact hL q h⟩
  have hW'' : Wd g s h' T'.heap := by rw [e1]; exact hW'.moved hvm.symm
  have := k w h' hQ1 hsc p l e R s m args below meth c g Z mc ms (by rw [hsc]; exact hC) hmc hms (fun pc' v2 h2 H2 locs2 cells2 slots2 ls2 a1 a2 => hret pc' v2 h2 H2 locs2 cells2 slots2 ls2 a1 ⟨a2.1.trans hsc, hsh.trans a2.2⟩) T'.heap (locs ++ L) (cells + κ1.1) (slots + κ1.2) lsA (by dsimp only; omega) (by dsimp only; omega) hW'' hS' hl
  obtain ⟨t2, a1, b1⟩ := this T' rfl X'
  have hst : ((w.map (gv g)).toList ++ rest.map (gv g)) = (w.toList ++ rest).map (gv g) := by cases w <;> simp
  refine ⟨t2, stp t2 ?_, b1⟩
  rw [hst]
  exact a1
theorem e_static {M N : MD} {κ κ1 : Nat × Nat} {Q Q1 : Option Value → AH → Prop} {pc pc2 idx n : Nat} {h : AH} {ls : List (Option Value)} {st av rest : List Value}
    (hd : decode M.2.1 pc = .ok (.invokestatic idx, 3) ∧ pc2 = pc + 3) (hL : LcS M idx N n) (hsp : Sp N κ1 h av Q1) (hn : av.length = n) (hst : st = av.reverse ++ rest) (hw : (rest.map fun v => v.category).sum ≤ 8) (hκ : κ1.1 ≤ κ.1 ∧ κ1.2 ≤ κ.2)
    (k : ∀ (v : Option Value) (h' : AH), Q1 v h' → h'.1 = h.1 → E M (κ.1 - κ1.1, κ.2 - κ1.2) Q pc2 h' ls (v.toList ++ rest)) : E M κ Q pc h ls st := by
  refine e_run (N := N) hd.2 hκ ?_ k
  intro p l e R s m args below meth c g H locs cells slots lsA hC hc1 hs1 hW hS hls
  obtain ⟨hx, hb, hml, hr, hown, hts, hnm, hlk, hf, hlo, hK, hT, hX, hg⟩ := hC
  refine ⟨_, va_runS (As := av.map (gv g)) ⟨hx, hb, hml, hown, hts⟩ (metOf hL.1.2.2.2.1 hsp l g) ⟨lw_callB hL.1 hL.2.1 hts hf hlo, hts _ hL.2.2⟩ ⟨Pcx.blind, fun U hU hWm => Pcx.start hK hT hX hg hW hS hU hWm⟩ rfl (by rw [List.length_map]; exact hn) hls (by rw [hst]; simp) (lv_room (by simpa [Function.comp_def, gv_cat hK.2.2] using hw)) hd.1 ⟨hc1, hs1⟩⟩
theorem e_virtual {M N : MD} {κ κ1 : Nat × Nat} {Q Q1 : Option Value → AH → Prop} {pc pc2 idx n b ci : Nat} {fs : List Value} {q : vw_C} {h : AH} {ls : List (Option Value)} {st av rest : List Value}
    (hd : decode M.2.1 pc = .ok (.invokevirtual idx, 3) ∧ pc2 = pc + 3) (hL : LcV M idx N n) (hb : Hs h b (.inr (ci, fs))) (hq : vwCl[ci]? = some q) (hqn : q.1 = N.1.cls) (hsp : Sp N κ1 h (.ref b :: av) Q1) (hn : av.length = n) (hst : st = av.reverse ++ .ref b :: rest) (hw : (rest.map fun v => v.category).sum ≤ 8) (hκ : κ1.1 ≤ κ.1 ∧ κ1.2 ≤ κ.2)
    (k : ∀ (v : Option Value) (h' : AH), Q1 v h' → h'.1 = h.1 → E M (κ.1 - κ1.1, κ.2 - κ1.2) Q pc2 h' ls (v.toList ++ rest)) : E M κ Q pc h ls st := by
  refine e_run (N := N) hd.2 hκ ?_ k
  intro p l e R s m args below meth c g H locs cells slots lsA hC hc1 hs1 hW hS hls
  obtain ⟨hx, hb', hml, hr, hown, hts, hnm, hlk, hf, hlo, hK, hT, hX, hg⟩ := hC
  refine ⟨_, va_runV (As := av.map (gv g)) (b := g.1 + b) (C := N.1.cls) ⟨hx, hb', hml, hown, hts⟩ (metOf hL.1.2.2.2.1 hsp l g) ⟨lw_callB hL.1 hL.2.1 hts hf hlo, hts _ hL.2.2.1, hts _ hL.2.2.2⟩ ⟨Pcx.blind, ?_, fun U hU hWm => Pcx.start (av := .ref b :: av) hK hT hX hg hW hS hU hWm⟩ rfl (by rw [List.length_map]; exact hn) hls (by rw [hst]; simp [gv]) (lv_room (by simpa [Function.comp_def, gv_cat hK.2.2] using hw)) hd.1 ⟨hc1, hs1⟩⟩
  rw [← hqn]
  exact Wd.recv hK hW hb.1 hb.2 hq
theorem e_special {M N : MD} {κ κ1 : Nat × Nat} {Q Q1 : Option Value → AH → Prop} {pc pc2 idx n b ci : Nat} {fs : List Value} {q : vw_C} {h : AH} {ls : List (Option Value)} {st av rest : List Value}
    (hd : decode M.2.1 pc = .ok (.invokespecial idx, 3) ∧ pc2 = pc + 3) (hL : LcI M idx N n) (hsp : Sp N κ1 h (.ref b :: av) Q1) (hn : av.length = n) (hst : st = av.reverse ++ .ref b :: rest) (hw : (rest.map fun v => v.category).sum ≤ 8) (hκ : κ1.1 ≤ κ.1 ∧ κ1.2 ≤ κ.2)
    (k : ∀ (v : Option Value) (h' : AH), Q1 v h' → h'.1 = h.1 → E M (κ.1 - κ1.1, κ.2 - κ1.2) Q pc2 h' ls (v.toList ++ rest)) : E M κ Q pc h ls st := by
  refine e_run (N := N) hd.2 hκ ?_ k
  intro p l e R s m args below meth c g H locs cells slots lsA hC hc1 hs1 hW hS hls
  obtain ⟨hx, hb', hml, hr, hown, hts, hnm, hlk, hf, hlo, hK, hT, hX, hg⟩ := hC
  obtain ⟨hL1, hL2, hL3, hL4, hL5⟩ := hL
  have hcb := lw_callB (κ1 := κ1) hL1 hL2 hts hf hlo
  rw [hL5] at hcb
  exact ⟨_, va_runI (As := av.map (gv g)) (b := g.1 + b) ⟨hx, hb', hml, hown, hts⟩ (metOf hL1.2.2.2.1 hsp l g) ⟨hcb, hL4, hts _ hL3⟩ ⟨Pcx.blind, fun U hU hWm => Pcx.start (av := .ref b :: av) hK hT hX hg hW hS hU hWm⟩ rfl (by rw [List.length_map]; exact hn) hls (by rw [hst]; simp [gv]) (lv_room (by simpa [Function.comp_def, gv_cat hK.2.2] using hw)) hd.1 ⟨hc1, hs1⟩⟩
theorem e_specialN {M N : MD} {κ κ1 : Nat × Nat} {Q Q1 : Option Value → AH → Prop} {pc pc2 idx n b ci : Nat} {fs : List Value} {q : vw_C} {h : AH} {ls : List (Option Value)} {st av rest : List Value}
    (hd : decode M.2.1 pc = .ok (.invokespecial idx, 3) ∧ pc2 = pc + 3) (hL : LcIN M idx N n) (hsp : Sp N κ1 h (.ref b :: av) Q1) (hn : av.length = n) (hst : st = av.reverse ++ .ref b :: rest) (hw : (rest.map fun v => v.category).sum ≤ 8) (hκ : κ1.1 ≤ κ.1 ∧ κ1.2 ≤ κ.2)
    (k : ∀ (v : Option Value) (h' : AH), Q1 v h' → h'.1 = h.1 → E M (κ.1 - κ1.1, κ.2 - κ1.2) Q pc2 h' ls (v.toList ++ rest)) : E M κ Q pc h ls st := by
  refine e_run (N := N) hd.2 hκ ?_ k
  intro p l e R s m args below meth c g H locs cells slots lsA hC hc1 hs1 hW hS hls
  obtain ⟨hx, hb', hml, hr, hown, hts, hnm, hlk, hf, hlo, hK, hT, hX, hg⟩ := hC
  obtain ⟨hL1, ⟨host, hL2⟩, hL3, hL4, hL5⟩ := hL
  have hcb := va_cnB (ws := wsM N) (ws' := lw_good) (mc := κ1.1) (ms := κ1.2) (rm := rmM N κ1) (R := R) n hts (lw_goodIn (wsM_in hL1.1)) rfl rfl rfl (hT.2 _ hL2) (hts _ hL1.2.1) hL1.2.2.1 ⟨Nat.le_trans hL1.2.2.2.2.1 hf, Nat.le_trans hL1.2.2.2.2.2 hlo⟩
  rw [hL5] at hcb
  exact ⟨_, va_runIN (As := av.map (gv g)) (b := g.1 + b) ⟨hx, hb', hml, hown, hts⟩ (metOf hL1.2.2.2.1 hsp l g) ⟨hcb, hL4, hts _ hL3⟩ ⟨Pcx.blind, fun U hU hWm => Pcx.start (av := .ref b :: av) hK hT hX hg hW hS hU hWm⟩ rfl (by rw [List.length_map]; exact hn) hls (by rw [hst]; simp [gv]) (lv_room (by simpa [Function.comp_def, gv_cat hK.2.2] using hw)) hd.1 ⟨hc1, hs1⟩⟩
