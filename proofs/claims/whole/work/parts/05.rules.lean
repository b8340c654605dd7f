/-! THE INSTRUCTIONS: a row each, over the abstract machine (by program) -/
theorem e_iconst {M : MD} {κ : Nat × Nat} {Q : Option Value → AH → Prop} {pc pc2 : Nat} {h : AH} {ls : List (Option Value)} {st : List Value} {n : Int} {v : Int32} (hd : decode M.2.1 pc = .ok (.iconst n, 1) ∧ pc2 = pc + 1) (hv : Int32.ofInt n = v)
    (k : E M κ Q pc2 h ls (.int v :: st)) : E M κ Q pc h ls (st) := by
  obtain ⟨hd, rfl⟩ := hd
  intro p l e R s m args below meth c g Z mc ms hC hmc hms hret H locs cells slots lsA hk hs hW hS hl
  exact lv_iconst hC.1 hC.2.1 hd hv (k p l e R s m args below meth c g Z mc ms hC hmc hms hret H locs cells slots lsA hk hs hW hS hl)
theorem e_bipush {M : MD} {κ : Nat × Nat} {Q : Option Value → AH → Prop} {pc pc2 : Nat} {h : AH} {ls : List (Option Value)} {st : List Value} {n : Int} {v : Int32} (hd : decode M.2.1 pc = .ok (.bipush n, 2) ∧ pc2 = pc + 2) (hv : (Int8.ofInt n).toInt32 = v)
    (k : E M κ Q pc2 h ls (.int v :: st)) : E M κ Q pc h ls (st) := by
  obtain ⟨hd, rfl⟩ := hd
  intro p l e R s m args below meth c g Z mc ms hC hmc hms hret H locs cells slots lsA hk hs hW hS hl
  exact lv_bipush hC.1 hC.2.1 hd hv (k p l e R s m args below meth c g Z mc ms hC hmc hms hret H locs cells slots lsA hk hs hW hS hl)
theorem e_sipush {M : MD} {κ : Nat × Nat} {Q : Option Value → AH → Prop} {pc pc2 : Nat} {h : AH} {ls : List (Option Value)} {st : List Value} {n : Int} {v : Int32} (hd : decode M.2.1 pc = .ok (.sipush n, 3) ∧ pc2 = pc + 3) (hv : (Int16.ofInt n).toInt32 = v)
    (k : E M κ Q pc2 h ls (.int v :: st)) : E M κ Q pc h ls (st) := by
  obtain ⟨hd, rfl⟩ := hd
  intro p l e R s m args below meth c g Z mc ms hC hmc hms hret H locs cells slots lsA hk hs hW hS hl
  exact lv_sipush hC.1 hC.2.1 hd hv (k p l e R s m args below meth c g Z mc ms hC hmc hms hret H locs cells slots lsA hk hs hW hS hl)
theorem e_lconst {M : MD} {κ : Nat × Nat} {Q : Option Value → AH → Prop} {pc pc2 : Nat} {h : AH} {ls : List (Option Value)} {st : List Value} {n : Fin 2} {v : Int64} (hd : decode M.2.1 pc = .ok (.lconst n, 1) ∧ pc2 = pc + 1) (hv : Int64.ofNat (n : Nat) = v)
    (k : E M κ Q pc2 h ls (.long v :: st)) : E M κ Q pc h ls (st) := by
  obtain ⟨hd, rfl⟩ := hd
  intro p l e R s m args below meth c g Z mc ms hC hmc hms hret H locs cells slots lsA hk hs hW hS hl
  exact lv_lconst hC.1 hC.2.1 hd hv (k p l e R s m args below meth c g Z mc ms hC hmc hms hret H locs cells slots lsA hk hs hW hS hl)
theorem e_ldc {M : MD} {κ : Nat × Nat} {Q : Option Value → AH → Prop} {pc pc2 : Nat} {h : AH} {ls : List (Option Value)} {st : List Value} {i : Nat} {v : Int32} (hd : decode M.2.1 pc = .ok (.ldc i, 2) ∧ pc2 = pc + 2) (hw : Cond.constant M.1.cls i v ∈ lw_good)
    (k : E M κ Q pc2 h ls (.int v :: st)) : E M κ Q pc h ls (st) := by
  obtain ⟨hd, rfl⟩ := hd
  intro p l e R s m args below meth c g Z mc ms hC hmc hms hret H locs cells slots lsA hk hs hW hS hl
  exact lv_ldc hC.1 hC.2.1 hC.2.2.2.2.1 (hC.2.2.2.2.2.1 _ hw) hd (k p l e R s m args below meth c g Z mc ms hC hmc hms hret H locs cells slots lsA hk hs hW hS hl)
theorem e_ldcw {M : MD} {κ : Nat × Nat} {Q : Option Value → AH → Prop} {pc pc2 : Nat} {h : AH} {ls : List (Option Value)} {st : List Value} {i : Nat} {v : Int32} (hd : decode M.2.1 pc = .ok (.ldc_w i, 3) ∧ pc2 = pc + 3) (hw : Cond.constant M.1.cls i v ∈ lw_good)
    (k : E M κ Q pc2 h ls (.int v :: st)) : E M κ Q pc h ls (st) := by
  obtain ⟨hd, rfl⟩ := hd
  intro p l e R s m args below meth c g Z mc ms hC hmc hms hret H locs cells slots lsA hk hs hW hS hl
  exact lv_ldcw hC.1 hC.2.1 hC.2.2.2.2.1 (hC.2.2.2.2.2.1 _ hw) hd (k p l e R s m args below meth c g Z mc ms hC hmc hms hret H locs cells slots lsA hk hs hW hS hl)
theorem e_ldc2 {M : MD} {κ : Nat × Nat} {Q : Option Value → AH → Prop} {pc pc2 : Nat} {h : AH} {ls : List (Option Value)} {st : List Value} {i : Nat} {v : Int64} (hd : decode M.2.1 pc = .ok (.ldc2_w i, 3) ∧ pc2 = pc + 3) (hw : Cond.constantLong M.1.cls i v ∈ lw_good)
    (k : E M κ Q pc2 h ls (.long v :: st)) : E M κ Q pc h ls (st) := by
  obtain ⟨hd, rfl⟩ := hd
  intro p l e R s m args below meth c g Z mc ms hC hmc hms hret H locs cells slots lsA hk hs hW hS hl
  exact lv_ldc2 hC.1 hC.2.1 hC.2.2.2.2.1 (hC.2.2.2.2.2.1 _ hw) hd (k p l e R s m args below meth c g Z mc ms hC hmc hms hret H locs cells slots lsA hk hs hW hS hl)
theorem e_iloadn {M : MD} {κ : Nat × Nat} {Q : Option Value → AH → Prop} {pc pc2 : Nat} {h : AH} {ls : List (Option Value)} {st : List Value} {n : Fin 4} {x : Int32} (hd : decode M.2.1 pc = .ok (.iload_n n, 1) ∧ pc2 = pc + 1) (hx : ls[(n : Nat)]? = some (some (.int x)))
    (k : E M κ Q pc2 h ls (.int x :: st)) : E M κ Q pc h ls (st) := by
  obtain ⟨hd, rfl⟩ := hd
  intro p l e R s m args below meth c g Z mc ms hC hmc hms hret H locs cells slots lsA hk hs hW hS hl
  exact lv_iload_n hC.1 hC.2.1 hd rfl (lp_at hl hx) (k p l e R s m args below meth c g Z mc ms hC hmc hms hret H locs cells slots lsA hk hs hW hS hl)
theorem e_iload {M : MD} {κ : Nat × Nat} {Q : Option Value → AH → Prop} {pc pc2 : Nat} {h : AH} {ls : List (Option Value)} {st : List Value} {i : Nat} {x : Int32} (hd : decode M.2.1 pc = .ok (.iload i, 2) ∧ pc2 = pc + 2) (hx : ls[i]? = some (some (.int x)))
    (k : E M κ Q pc2 h ls (.int x :: st)) : E M κ Q pc h ls (st) := by
  obtain ⟨hd, rfl⟩ := hd
  intro p l e R s m args below meth c g Z mc ms hC hmc hms hret H locs cells slots lsA hk hs hW hS hl
  exact lv_iload hC.1 hC.2.1 hd (lp_at hl hx) (k p l e R s m args below meth c g Z mc ms hC hmc hms hret H locs cells slots lsA hk hs hW hS hl)
theorem e_lloadn {M : MD} {κ : Nat × Nat} {Q : Option Value → AH → Prop} {pc pc2 : Nat} {h : AH} {ls : List (Option Value)} {st : List Value} {n : Fin 4} {x : Int64} (hd : decode M.2.1 pc = .ok (.lload_n n, 1) ∧ pc2 = pc + 1) (hx : ls[(n : Nat)]? = some (some (.long x)))
    (k : E M κ Q pc2 h ls (.long x :: st)) : E M κ Q pc h ls (st) := by
  obtain ⟨hd, rfl⟩ := hd
  intro p l e R s m args below meth c g Z mc ms hC hmc hms hret H locs cells slots lsA hk hs hW hS hl
  exact lv_lload_n hC.1 hC.2.1 hd rfl (lp_at hl hx) (k p l e R s m args below meth c g Z mc ms hC hmc hms hret H locs cells slots lsA hk hs hW hS hl)
theorem e_lload {M : MD} {κ : Nat × Nat} {Q : Option Value → AH → Prop} {pc pc2 : Nat} {h : AH} {ls : List (Option Value)} {st : List Value} {i : Nat} {x : Int64} (hd : decode M.2.1 pc = .ok (.lload i, 2) ∧ pc2 = pc + 2) (hx : ls[i]? = some (some (.long x)))
    (k : E M κ Q pc2 h ls (.long x :: st)) : E M κ Q pc h ls (st) := by
  obtain ⟨hd, rfl⟩ := hd
  intro p l e R s m args below meth c g Z mc ms hC hmc hms hret H locs cells slots lsA hk hs hW hS hl
  exact lv_lload hC.1 hC.2.1 hd (lp_at hl hx) (k p l e R s m args below meth c g Z mc ms hC hmc hms hret H locs cells slots lsA hk hs hW hS hl)
theorem e_aloadn {M : MD} {κ : Nat × Nat} {Q : Option Value → AH → Prop} {pc pc2 : Nat} {h : AH} {ls : List (Option Value)} {st : List Value} {n : Fin 4} {x : Nat} (hd : decode M.2.1 pc = .ok (.aload_n n, 1) ∧ pc2 = pc + 1) (hx : ls[(n : Nat)]? = some (some (.ref x)))
    (k : E M κ Q pc2 h ls (.ref x :: st)) : E M κ Q pc h ls (st) := by
  obtain ⟨hd, rfl⟩ := hd
  intro p l e R s m args below meth c g Z mc ms hC hmc hms hret H locs cells slots lsA hk hs hW hS hl
  exact lv_aload_n hC.1 hC.2.1 hd rfl (lp_at hl hx) (k p l e R s m args below meth c g Z mc ms hC hmc hms hret H locs cells slots lsA hk hs hW hS hl)
theorem e_aload {M : MD} {κ : Nat × Nat} {Q : Option Value → AH → Prop} {pc pc2 : Nat} {h : AH} {ls : List (Option Value)} {st : List Value} {i : Nat} {x : Nat} (hd : decode M.2.1 pc = .ok (.aload i, 2) ∧ pc2 = pc + 2) (hx : ls[i]? = some (some (.ref x)))
    (k : E M κ Q pc2 h ls (.ref x :: st)) : E M κ Q pc h ls (st) := by
  obtain ⟨hd, rfl⟩ := hd
  intro p l e R s m args below meth c g Z mc ms hC hmc hms hret H locs cells slots lsA hk hs hW hS hl
  exact lv_aload hC.1 hC.2.1 hd (lp_at hl hx) (k p l e R s m args below meth c g Z mc ms hC hmc hms hret H locs cells slots lsA hk hs hW hS hl)
theorem e_istoren {M : MD} {κ : Nat × Nat} {Q : Option Value → AH → Prop} {pc pc2 : Nat} {h : AH} {ls : List (Option Value)} {st : List Value} {n : Fin 4} {x : Int32} (hd : decode M.2.1 pc = .ok (.istore_n n, 1) ∧ pc2 = pc + 1) (hn : (n : Nat) < M.2.2.1) (hok : ok1 ls (n : Nat) = true)
    (k : E M κ Q pc2 h (ls.set (n : Nat) (some (.int x))) (st)) : E M κ Q pc h ls (.int x :: st) := by
  obtain ⟨hd, rfl⟩ := hd
  intro p l e R s m args below meth c g Z mc ms hC hmc hms hret H locs cells slots lsA hk hs hW hS hl
  exact lv_istore_n hC.1 hC.2.1 hd rfl hl hn rfl (fun ls' h' => (k p l e R s m args below meth c g Z mc ms hC hmc hms hret H locs cells slots ls' hk hs hW hS (lp_store1 hC.2.2.2.2.2.2.2.2.2.2.1.2.2 hok h')))
theorem e_istore {M : MD} {κ : Nat × Nat} {Q : Option Value → AH → Prop} {pc pc2 : Nat} {h : AH} {ls : List (Option Value)} {st : List Value} {i : Nat} {x : Int32} (hd : decode M.2.1 pc = .ok (.istore i, 2) ∧ pc2 = pc + 2) (hn : i < M.2.2.1) (hok : ok1 ls i = true)
    (k : E M κ Q pc2 h (ls.set i (some (.int x))) (st)) : E M κ Q pc h ls (.int x :: st) := by
  obtain ⟨hd, rfl⟩ := hd
  intro p l e R s m args below meth c g Z mc ms hC hmc hms hret H locs cells slots lsA hk hs hW hS hl
  exact lv_istore hC.1 hC.2.1 hd hl hn rfl (fun ls' h' => (k p l e R s m args below meth c g Z mc ms hC hmc hms hret H locs cells slots ls' hk hs hW hS (lp_store1 hC.2.2.2.2.2.2.2.2.2.2.1.2.2 hok h')))
theorem e_astoren {M : MD} {κ : Nat × Nat} {Q : Option Value → AH → Prop} {pc pc2 : Nat} {h : AH} {ls : List (Option Value)} {st : List Value} {n : Fin 4} {x : Nat} (hd : decode M.2.1 pc = .ok (.astore_n n, 1) ∧ pc2 = pc + 1) (hn : (n : Nat) < M.2.2.1) (hok : ok1 ls (n : Nat) = true)
    (k : E M κ Q pc2 h (ls.set (n : Nat) (some (.ref x))) (st)) : E M κ Q pc h ls (.ref x :: st) := by
  obtain ⟨hd, rfl⟩ := hd
  intro p l e R s m args below meth c g Z mc ms hC hmc hms hret H locs cells slots lsA hk hs hW hS hl
  exact lv_astore_n hC.1 hC.2.1 hd rfl hl hn rfl (fun ls' h' => (k p l e R s m args below meth c g Z mc ms hC hmc hms hret H locs cells slots ls' hk hs hW hS (lp_store1 hC.2.2.2.2.2.2.2.2.2.2.1.2.2 hok h')))
theorem e_astore {M : MD} {κ : Nat × Nat} {Q : Option Value → AH → Prop} {pc pc2 : Nat} {h : AH} {ls : List (Option Value)} {st : List Value} {i : Nat} {x : Nat} (hd : decode M.2.1 pc = .ok (.astore i, 2) ∧ pc2 = pc + 2) (hn : i < M.2.2.1) (hok : ok1 ls i = true)
    (k : E M κ Q pc2 h (ls.set i (some (.ref x))) (st)) : E M κ Q pc h ls (.ref x :: st) := by
  obtain ⟨hd, rfl⟩ := hd
  intro p l e R s m args below meth c g Z mc ms hC hmc hms hret H locs cells slots lsA hk hs hW hS hl
  exact lv_astore hC.1 hC.2.1 hd hl hn rfl (fun ls' h' => (k p l e R s m args below meth c g Z mc ms hC hmc hms hret H locs cells slots ls' hk hs hW hS (lp_store1 hC.2.2.2.2.2.2.2.2.2.2.1.2.2 hok h')))
theorem e_lstoren {M : MD} {κ : Nat × Nat} {Q : Option Value → AH → Prop} {pc pc2 : Nat} {h : AH} {ls : List (Option Value)} {st : List Value} {n : Fin 4} {x : Int64} (hd : decode M.2.1 pc = .ok (.lstore_n n, 1) ∧ pc2 = pc + 1) (hn : (n : Nat) + 1 < M.2.2.1) (hok : ok1 ls (n : Nat) = true)
    (k : E M κ Q pc2 h ((ls.set (n : Nat) (some (.long x))).set ((n : Nat) + 1) none) (st)) : E M κ Q pc h ls (.long x :: st) := by
  obtain ⟨hd, rfl⟩ := hd
  intro p l e R s m args below meth c g Z mc ms hC hmc hms hret H locs cells slots lsA hk hs hW hS hl
  exact lv_lstore_n hC.1 hC.2.1 hd rfl hl hn rfl (fun ls' h' => (k p l e R s m args below meth c g Z mc ms hC hmc hms hret H locs cells slots ls' hk hs hW hS (lp_store2 hC.2.2.2.2.2.2.2.2.2.2.1.2.2 hok h')))
theorem e_lstore {M : MD} {κ : Nat × Nat} {Q : Option Value → AH → Prop} {pc pc2 : Nat} {h : AH} {ls : List (Option Value)} {st : List Value} {i : Nat} {x : Int64} (hd : decode M.2.1 pc = .ok (.lstore i, 2) ∧ pc2 = pc + 2) (hn : i + 1 < M.2.2.1) (hok : ok1 ls i = true)
    (k : E M κ Q pc2 h ((ls.set i (some (.long x))).set (i + 1) none) (st)) : E M κ Q pc h ls (.long x :: st) := by
  obtain ⟨hd, rfl⟩ := hd
  intro p l e R s m args below meth c g Z mc ms hC hmc hms hret H locs cells slots lsA hk hs hW hS hl
  exact lv_lstore hC.1 hC.2.1 hd hl hn rfl (fun ls' h' => (k p l e R s m args below meth c g Z mc ms hC hmc hms hret H locs cells slots ls' hk hs hW hS (lp_store2 hC.2.2.2.2.2.2.2.2.2.2.1.2.2 hok h')))
theorem e_iinc {M : MD} {κ : Nat × Nat} {Q : Option Value → AH → Prop} {pc pc2 : Nat} {h : AH} {ls : List (Option Value)} {st : List Value} {i : Nat} {n : Int} {x v : Int32} (hd : decode M.2.1 pc = .ok (.iinc i n, 3) ∧ pc2 = pc + 3) (hx : ls[i]? = some (some (.int x))) (hv : x + Int32.ofInt n = v) (hn : i < M.2.2.1) (hok : ok1 ls i = true)
    (k : E M κ Q pc2 h (ls.set i (some (.int v))) st) : E M κ Q pc h ls st := by
  obtain ⟨hd, rfl⟩ := hd
  intro p l e R s m args below meth c g Z mc ms hC hmc hms hret H locs cells slots lsA hk hs hW hS hl
  obtain ⟨j, hj⟩ := lp_idx (g := g) hx
  exact lv_iinc hC.1 hC.2.1 hd hl hj hv hn rfl (fun ls' h' => (k p l e R s m args below meth c g Z mc ms hC hmc hms hret H locs cells slots ls' hk hs hW hS (lp_store1 hC.2.2.2.2.2.2.2.2.2.2.1.2.2 hok h')))
theorem e_drop {M : MD} {κ : Nat × Nat} {Q : Option Value → AH → Prop} {pc pc2 : Nat} {h : AH} {ls : List (Option Value)} {st : List Value} (ls' : List (Option Value)) (hd : ∀ (j : Nat) (v : Value), ls'[j]? = some (some v) → ls[j]? = some (some v)) (k : E M κ Q pc h ls' st) : E M κ Q pc h ls st := by
  intro p l e R s m args below meth c g Z mc ms hC hmc hms hret H locs cells slots lsA hk hs hW hS hl
  exact (k p l e R s m args below meth c g Z mc ms hC hmc hms hret H locs cells slots lsA hk hs hW hS (lp_drop hl hd))
theorem e_iadd {M : MD} {κ : Nat × Nat} {Q : Option Value → AH → Prop} {pc pc2 : Nat} {h : AH} {ls : List (Option Value)} {st : List Value} {x y : Int32} (hd : decode M.2.1 pc = .ok (.iadd, 1) ∧ pc2 = pc + 1) 
    (k : E M κ Q pc2 h ls (.int (x + y) :: st)) : E M κ Q pc h ls (.int y :: .int x :: st) := by
  obtain ⟨hd, rfl⟩ := hd
  intro p l e R s m args below meth c g Z mc ms hC hmc hms hret H locs cells slots lsA hk hs hW hS hl
  exact lv_iadd hC.1 hC.2.1 hd (k p l e R s m args below meth c g Z mc ms hC hmc hms hret H locs cells slots lsA hk hs hW hS hl)
theorem e_isub {M : MD} {κ : Nat × Nat} {Q : Option Value → AH → Prop} {pc pc2 : Nat} {h : AH} {ls : List (Option Value)} {st : List Value} {x y : Int32} (hd : decode M.2.1 pc = .ok (.isub, 1) ∧ pc2 = pc + 1) 
    (k : E M κ Q pc2 h ls (.int (x - y) :: st)) : E M κ Q pc h ls (.int y :: .int x :: st) := by
  obtain ⟨hd, rfl⟩ := hd
  intro p l e R s m args below meth c g Z mc ms hC hmc hms hret H locs cells slots lsA hk hs hW hS hl
  exact lv_isub hC.1 hC.2.1 hd (k p l e R s m args below meth c g Z mc ms hC hmc hms hret H locs cells slots lsA hk hs hW hS hl)
theorem e_imul {M : MD} {κ : Nat × Nat} {Q : Option Value → AH → Prop} {pc pc2 : Nat} {h : AH} {ls : List (Option Value)} {st : List Value} {x y : Int32} (hd : decode M.2.1 pc = .ok (.imul, 1) ∧ pc2 = pc + 1) 
    (k : E M κ Q pc2 h ls (.int (x * y) :: st)) : E M κ Q pc h ls (.int y :: .int x :: st) := by
  obtain ⟨hd, rfl⟩ := hd
  intro p l e R s m args below meth c g Z mc ms hC hmc hms hret H locs cells slots lsA hk hs hW hS hl
  exact lv_imul hC.1 hC.2.1 hd (k p l e R s m args below meth c g Z mc ms hC hmc hms hret H locs cells slots lsA hk hs hW hS hl)
theorem e_iand {M : MD} {κ : Nat × Nat} {Q : Option Value → AH → Prop} {pc pc2 : Nat} {h : AH} {ls : List (Option Value)} {st : List Value} {x y : Int32} (hd : decode M.2.1 pc = .ok (.iand, 1) ∧ pc2 = pc + 1) 
    (k : E M κ Q pc2 h ls (.int (x &&& y) :: st)) : E M κ Q pc h ls (.int y :: .int x :: st) := by
  obtain ⟨hd, rfl⟩ := hd
  intro p l e R s m args below meth c g Z mc ms hC hmc hms hret H locs cells slots lsA hk hs hW hS hl
  exact lv_iand hC.1 hC.2.1 hd (k p l e R s m args below meth c g Z mc ms hC hmc hms hret H locs cells slots lsA hk hs hW hS hl)
theorem e_ior {M : MD} {κ : Nat × Nat} {Q : Option Value → AH → Prop} {pc pc2 : Nat} {h : AH} {ls : List (Option Value)} {st : List Value} {x y : Int32} (hd : decode M.2.1 pc = .ok (.ior, 1) ∧ pc2 = pc + 1) 
    (k : E M κ Q pc2 h ls (.int (x ||| y) :: st)) : E M κ Q pc h ls (.int y :: .int x :: st) := by
  obtain ⟨hd, rfl⟩ := hd
  intro p l e R s m args below meth c g Z mc ms hC hmc hms hret H locs cells slots lsA hk hs hW hS hl
  exact lv_ior hC.1 hC.2.1 hd (k p l e R s m args below meth c g Z mc ms hC hmc hms hret H locs cells slots lsA hk hs hW hS hl)
theorem e_ixor {M : MD} {κ : Nat × Nat} {Q : Option Value → AH → Prop} {pc pc2 : Nat} {h : AH} {ls : List (Option Value)} {st : List Value} {x y : Int32} (hd : decode M.2.1 pc = .ok (.ixor, 1) ∧ pc2 = pc + 1) 
    (k : E M κ Q pc2 h ls (.int (x ^^^ y) :: st)) : E M κ Q pc h ls (.int y :: .int x :: st) := by
  obtain ⟨hd, rfl⟩ := hd
  intro p l e R s m args below meth c g Z mc ms hC hmc hms hret H locs cells slots lsA hk hs hW hS hl
  exact lv_ixor hC.1 hC.2.1 hd (k p l e R s m args below meth c g Z mc ms hC hmc hms hret H locs cells slots lsA hk hs hW hS hl)
theorem e_ishl {M : MD} {κ : Nat × Nat} {Q : Option Value → AH → Prop} {pc pc2 : Nat} {h : AH} {ls : List (Option Value)} {st : List Value} {x y : Int32} (hd : decode M.2.1 pc = .ok (.ishl, 1) ∧ pc2 = pc + 1) 
    (k : E M κ Q pc2 h ls (.int (x <<< (y &&& 31)) :: st)) : E M κ Q pc h ls (.int y :: .int x :: st) := by
  obtain ⟨hd, rfl⟩ := hd
  intro p l e R s m args below meth c g Z mc ms hC hmc hms hret H locs cells slots lsA hk hs hW hS hl
  exact lv_ishl hC.1 hC.2.1 hd (k p l e R s m args below meth c g Z mc ms hC hmc hms hret H locs cells slots lsA hk hs hW hS hl)
theorem e_ishr {M : MD} {κ : Nat × Nat} {Q : Option Value → AH → Prop} {pc pc2 : Nat} {h : AH} {ls : List (Option Value)} {st : List Value} {x y : Int32} (hd : decode M.2.1 pc = .ok (.ishr, 1) ∧ pc2 = pc + 1) 
    (k : E M κ Q pc2 h ls (.int (x >>> (y &&& 31)) :: st)) : E M κ Q pc h ls (.int y :: .int x :: st) := by
  obtain ⟨hd, rfl⟩ := hd
  intro p l e R s m args below meth c g Z mc ms hC hmc hms hret H locs cells slots lsA hk hs hW hS hl
  exact lv_ishr hC.1 hC.2.1 hd (k p l e R s m args below meth c g Z mc ms hC hmc hms hret H locs cells slots lsA hk hs hW hS hl)
theorem e_iushr {M : MD} {κ : Nat × Nat} {Q : Option Value → AH → Prop} {pc pc2 : Nat} {h : AH} {ls : List (Option Value)} {st : List Value} {x y : Int32} (hd : decode M.2.1 pc = .ok (.iushr, 1) ∧ pc2 = pc + 1) 
    (k : E M κ Q pc2 h ls (.int (x.toUInt32 >>> (y.toUInt32 &&& Int32.toUInt32 31)).toInt32 :: st)) : E M κ Q pc h ls (.int y :: .int x :: st) := by
  obtain ⟨hd, rfl⟩ := hd
  intro p l e R s m args below meth c g Z mc ms hC hmc hms hret H locs cells slots lsA hk hs hW hS hl
  exact lv_iushr hC.1 hC.2.1 hd rfl (k p l e R s m args below meth c g Z mc ms hC hmc hms hret H locs cells slots lsA hk hs hW hS hl)
theorem e_idiv {M : MD} {κ : Nat × Nat} {Q : Option Value → AH → Prop} {pc pc2 : Nat} {h : AH} {ls : List (Option Value)} {st : List Value} {x y : Int32} (hd : decode M.2.1 pc = .ok (.idiv, 1) ∧ pc2 = pc + 1) (hne : ¬ y = 0)
    (k : E M κ Q pc2 h ls (.int (x / y) :: st)) : E M κ Q pc h ls (.int y :: .int x :: st) := by
  obtain ⟨hd, rfl⟩ := hd
  intro p l e R s m args below meth c g Z mc ms hC hmc hms hret H locs cells slots lsA hk hs hW hS hl
  exact lv_idiv hC.1 hC.2.1 hd hne (k p l e R s m args below meth c g Z mc ms hC hmc hms hret H locs cells slots lsA hk hs hW hS hl)
theorem e_irem {M : MD} {κ : Nat × Nat} {Q : Option Value → AH → Prop} {pc pc2 : Nat} {h : AH} {ls : List (Option Value)} {st : List Value} {x y : Int32} (hd : decode M.2.1 pc = .ok (.irem, 1) ∧ pc2 = pc + 1) (hne : ¬ y = 0)
    (k : E M κ Q pc2 h ls (.int (x - x / y * y) :: st)) : E M κ Q pc h ls (.int y :: .int x :: st) := by
  obtain ⟨hd, rfl⟩ := hd
  intro p l e R s m args below meth c g Z mc ms hC hmc hms hret H locs cells slots lsA hk hs hW hS hl
  exact lv_irem hC.1 hC.2.1 hd hne (k p l e R s m args below meth c g Z mc ms hC hmc hms hret H locs cells slots lsA hk hs hW hS hl)
theorem e_ineg {M : MD} {κ : Nat × Nat} {Q : Option Value → AH → Prop} {pc pc2 : Nat} {h : AH} {ls : List (Option Value)} {st : List Value} {x : Int32} (hd : decode M.2.1 pc = .ok (.ineg, 1) ∧ pc2 = pc + 1) 
    (k : E M κ Q pc2 h ls (.int (-x) :: st)) : E M κ Q pc h ls (.int x :: st) := by
  obtain ⟨hd, rfl⟩ := hd
  intro p l e R s m args below meth c g Z mc ms hC hmc hms hret H locs cells slots lsA hk hs hW hS hl
  exact lv_ineg hC.1 hC.2.1 hd (k p l e R s m args below meth c g Z mc ms hC hmc hms hret H locs cells slots lsA hk hs hW hS hl)
theorem e_ladd {M : MD} {κ : Nat × Nat} {Q : Option Value → AH → Prop} {pc pc2 : Nat} {h : AH} {ls : List (Option Value)} {st : List Value} {x y : Int64} (hd : decode M.2.1 pc = .ok (.ladd, 1) ∧ pc2 = pc + 1) 
    (k : E M κ Q pc2 h ls (.long (x + y) :: st)) : E M κ Q pc h ls (.long y :: .long x :: st) := by
  obtain ⟨hd, rfl⟩ := hd
  intro p l e R s m args below meth c g Z mc ms hC hmc hms hret H locs cells slots lsA hk hs hW hS hl
  exact lv_ladd hC.1 hC.2.1 hd (k p l e R s m args below meth c g Z mc ms hC hmc hms hret H locs cells slots lsA hk hs hW hS hl)
theorem e_lsub {M : MD} {κ : Nat × Nat} {Q : Option Value → AH → Prop} {pc pc2 : Nat} {h : AH} {ls : List (Option Value)} {st : List Value} {x y : Int64} (hd : decode M.2.1 pc = .ok (.lsub, 1) ∧ pc2 = pc + 1) 
    (k : E M κ Q pc2 h ls (.long (x - y) :: st)) : E M κ Q pc h ls (.long y :: .long x :: st) := by
  obtain ⟨hd, rfl⟩ := hd
  intro p l e R s m args below meth c g Z mc ms hC hmc hms hret H locs cells slots lsA hk hs hW hS hl
  exact lv_lsub hC.1 hC.2.1 hd (k p l e R s m args below meth c g Z mc ms hC hmc hms hret H locs cells slots lsA hk hs hW hS hl)
theorem e_lmul {M : MD} {κ : Nat × Nat} {Q : Option Value → AH → Prop} {pc pc2 : Nat} {h : AH} {ls : List (Option Value)} {st : List Value} {x y : Int64} (hd : decode M.2.1 pc = .ok (.lmul, 1) ∧ pc2 = pc + 1) 
    (k : E M κ Q pc2 h ls (.long (x * y) :: st)) : E M κ Q pc h ls (.long y :: .long x :: st) := by
  obtain ⟨hd, rfl⟩ := hd
  intro p l e R s m args below meth c g Z mc ms hC hmc hms hret H locs cells slots lsA hk hs hW hS hl
  exact lv_lmul hC.1 hC.2.1 hd (k p l e R s m args below meth c g Z mc ms hC hmc hms hret H locs cells slots lsA hk hs hW hS hl)
theorem e_land {M : MD} {κ : Nat × Nat} {Q : Option Value → AH → Prop} {pc pc2 : Nat} {h : AH} {ls : List (Option Value)} {st : List Value} {x y : Int64} (hd : decode M.2.1 pc = .ok (.land, 1) ∧ pc2 = pc + 1) 
    (k : E M κ Q pc2 h ls (.long (x &&& y) :: st)) : E M κ Q pc h ls (.long y :: .long x :: st) := by
  obtain ⟨hd, rfl⟩ := hd
  intro p l e R s m args below meth c g Z mc ms hC hmc hms hret H locs cells slots lsA hk hs hW hS hl
  exact lv_land hC.1 hC.2.1 hd (k p l e R s m args below meth c g Z mc ms hC hmc hms hret H locs cells slots lsA hk hs hW hS hl)
theorem e_lor {M : MD} {κ : Nat × Nat} {Q : Option Value → AH → Prop} {pc pc2 : Nat} {h : AH} {ls : List (Option Value)} {st : List Value} {x y : Int64} (hd : decode M.2.1 pc = .ok (.lor, 1) ∧ pc2 = pc + 1) 
    (k : E M κ Q pc2 h ls (.long (x ||| y) :: st)) : E M κ Q pc h ls (.long y :: .long x :: st) := by
  obtain ⟨hd, rfl⟩ := hd
  intro p l e R s m args below meth c g Z mc ms hC hmc hms hret H locs cells slots lsA hk hs hW hS hl
  exact lv_lor hC.1 hC.2.1 hd (k p l e R s m args below meth c g Z mc ms hC hmc hms hret H locs cells slots lsA hk hs hW hS hl)
theorem e_ldiv {M : MD} {κ : Nat × Nat} {Q : Option Value → AH → Prop} {pc pc2 : Nat} {h : AH} {ls : List (Option Value)} {st : List Value} {x y : Int64} (hd : decode M.2.1 pc = .ok (.ldiv, 1) ∧ pc2 = pc + 1) (hne : ¬ y = 0)
    (k : E M κ Q pc2 h ls (.long (x / y) :: st)) : E M κ Q pc h ls (.long y :: .long x :: st) := by
  obtain ⟨hd, rfl⟩ := hd
  intro p l e R s m args below meth c g Z mc ms hC hmc hms hret H locs cells slots lsA hk hs hW hS hl
  exact lv_ldiv hC.1 hC.2.1 hd hne (k p l e R s m args below meth c g Z mc ms hC hmc hms hret H locs cells slots lsA hk hs hW hS hl)
theorem e_lneg {M : MD} {κ : Nat × Nat} {Q : Option Value → AH → Prop} {pc pc2 : Nat} {h : AH} {ls : List (Option Value)} {st : List Value} {x : Int64} (hd : decode M.2.1 pc = .ok (.lneg, 1) ∧ pc2 = pc + 1) 
    (k : E M κ Q pc2 h ls (.long (-x) :: st)) : E M κ Q pc h ls (.long x :: st) := by
  obtain ⟨hd, rfl⟩ := hd
  intro p l e R s m args below meth c g Z mc ms hC hmc hms hret H locs cells slots lsA hk hs hW hS hl
  exact lv_lneg hC.1 hC.2.1 hd (k p l e R s m args below meth c g Z mc ms hC hmc hms hret H locs cells slots lsA hk hs hW hS hl)
theorem e_lcmp {M : MD} {κ : Nat × Nat} {Q : Option Value → AH → Prop} {pc pc2 : Nat} {h : AH} {ls : List (Option Value)} {st : List Value} {x y : Int64} (hd : decode M.2.1 pc = .ok (.lcmp, 1) ∧ pc2 = pc + 1) 
    (k : E M κ Q pc2 h ls (.int (lg_cmp x y) :: st)) : E M κ Q pc h ls (.long y :: .long x :: st) := by
  obtain ⟨hd, rfl⟩ := hd
  intro p l e R s m args below meth c g Z mc ms hC hmc hms hret H locs cells slots lsA hk hs hW hS hl
  exact W.lcmp hC.1 hC.2.1 hd (k p l e R s m args below meth c g Z mc ms hC hmc hms hret H locs cells slots lsA hk hs hW hS hl)
theorem e_i2l {M : MD} {κ : Nat × Nat} {Q : Option Value → AH → Prop} {pc pc2 : Nat} {h : AH} {ls : List (Option Value)} {st : List Value} {x : Int32} (hd : decode M.2.1 pc = .ok (.i2l, 1) ∧ pc2 = pc + 1) 
    (k : E M κ Q pc2 h ls (.long x.toInt64 :: st)) : E M κ Q pc h ls (.int x :: st) := by
  obtain ⟨hd, rfl⟩ := hd
  intro p l e R s m args below meth c g Z mc ms hC hmc hms hret H locs cells slots lsA hk hs hW hS hl
  exact lv_i2l hC.1 hC.2.1 hd rfl (k p l e R s m args below meth c g Z mc ms hC hmc hms hret H locs cells slots lsA hk hs hW hS hl)
theorem e_l2i {M : MD} {κ : Nat × Nat} {Q : Option Value → AH → Prop} {pc pc2 : Nat} {h : AH} {ls : List (Option Value)} {st : List Value} {x : Int64} (hd : decode M.2.1 pc = .ok (.l2i, 1) ∧ pc2 = pc + 1) 
    (k : E M κ Q pc2 h ls (.int x.toInt32 :: st)) : E M κ Q pc h ls (.long x :: st) := by
  obtain ⟨hd, rfl⟩ := hd
  intro p l e R s m args below meth c g Z mc ms hC hmc hms hret H locs cells slots lsA hk hs hW hS hl
  exact lv_l2i hC.1 hC.2.1 hd rfl (k p l e R s m args below meth c g Z mc ms hC hmc hms hret H locs cells slots lsA hk hs hW hS hl)
theorem e_i2b {M : MD} {κ : Nat × Nat} {Q : Option Value → AH → Prop} {pc pc2 : Nat} {h : AH} {ls : List (Option Value)} {st : List Value} {x : Int32} (hd : decode M.2.1 pc = .ok (.i2b, 1) ∧ pc2 = pc + 1) 
    (k : E M κ Q pc2 h ls (.int x.toInt8.toInt32 :: st)) : E M κ Q pc h ls (.int x :: st) := by
  obtain ⟨hd, rfl⟩ := hd
  intro p l e R s m args below meth c g Z mc ms hC hmc hms hret H locs cells slots lsA hk hs hW hS hl
  exact lv_i2b hC.1 hC.2.1 hd rfl (k p l e R s m args below meth c g Z mc ms hC hmc hms hret H locs cells slots lsA hk hs hW hS hl)
theorem e_i2c {M : MD} {κ : Nat × Nat} {Q : Option Value → AH → Prop} {pc pc2 : Nat} {h : AH} {ls : List (Option Value)} {st : List Value} {x : Int32} (hd : decode M.2.1 pc = .ok (.i2c, 1) ∧ pc2 = pc + 1) 
    (k : E M κ Q pc2 h ls (.int (x.toUInt32 % 65536).toInt32 :: st)) : E M κ Q pc h ls (.int x :: st) := by
  obtain ⟨hd, rfl⟩ := hd
  intro p l e R s m args below meth c g Z mc ms hC hmc hms hret H locs cells slots lsA hk hs hW hS hl
  exact lv_i2c hC.1 hC.2.1 hd rfl (k p l e R s m args below meth c g Z mc ms hC hmc hms hret H locs cells slots lsA hk hs hW hS hl)
theorem e_dup {M : MD} {κ : Nat × Nat} {Q : Option Value → AH → Prop} {pc pc2 : Nat} {h : AH} {ls : List (Option Value)} {st : List Value} {a : Value} (hd : decode M.2.1 pc = .ok (.dup, 1) ∧ pc2 = pc + 1) (ha : a.category = 1)
    (k : E M κ Q pc2 h ls (a :: a :: st)) : E M κ Q pc h ls (a :: st) := by
  obtain ⟨hd, rfl⟩ := hd
  intro p l e R s m args below meth c g Z mc ms hC hmc hms hret H locs cells slots lsA hk hs hW hS hl
  exact lv_dup hC.1 hC.2.1 hd ((gv_cat hC.2.2.2.2.2.2.2.2.2.2.1.2.2 a).trans ha) (k p l e R s m args below meth c g Z mc ms hC hmc hms hret H locs cells slots lsA hk hs hW hS hl)
theorem e_dup2 {M : MD} {κ : Nat × Nat} {Q : Option Value → AH → Prop} {pc pc2 : Nat} {h : AH} {ls : List (Option Value)} {st : List Value} {a b : Value} (hd : decode M.2.1 pc = .ok (.dup2, 1) ∧ pc2 = pc + 1) (ha : a.category = 1) (hb : b.category = 1)
    (k : E M κ Q pc2 h ls (a :: b :: a :: b :: st)) : E M κ Q pc h ls (a :: b :: st) := by
  obtain ⟨hd, rfl⟩ := hd
  intro p l e R s m args below meth c g Z mc ms hC hmc hms hret H locs cells slots lsA hk hs hW hS hl
  exact lv_dup2_11 hC.1 hC.2.1 hd ((gv_cat hC.2.2.2.2.2.2.2.2.2.2.1.2.2 a).trans ha) ((gv_cat hC.2.2.2.2.2.2.2.2.2.2.1.2.2 b).trans hb) (k p l e R s m args below meth c g Z mc ms hC hmc hms hret H locs cells slots lsA hk hs hW hS hl)
theorem e_dup2l {M : MD} {κ : Nat × Nat} {Q : Option Value → AH → Prop} {pc pc2 : Nat} {h : AH} {ls : List (Option Value)} {st : List Value} {a : Value} (hd : decode M.2.1 pc = .ok (.dup2, 1) ∧ pc2 = pc + 1) (ha : a.category = 2)
    (k : E M κ Q pc2 h ls (a :: a :: st)) : E M κ Q pc h ls (a :: st) := by
  obtain ⟨hd, rfl⟩ := hd
  intro p l e R s m args below meth c g Z mc ms hC hmc hms hret H locs cells slots lsA hk hs hW hS hl
  exact lv_dup2_2 hC.1 hC.2.1 hd ((gv_cat hC.2.2.2.2.2.2.2.2.2.2.1.2.2 a).trans ha) (k p l e R s m args below meth c g Z mc ms hC hmc hms hret H locs cells slots lsA hk hs hW hS hl)
theorem e_pop {M : MD} {κ : Nat × Nat} {Q : Option Value → AH → Prop} {pc pc2 : Nat} {h : AH} {ls : List (Option Value)} {st : List Value} {a : Value} (hd : decode M.2.1 pc = .ok (.pop, 1) ∧ pc2 = pc + 1) (ha : a.category = 1)
    (k : E M κ Q pc2 h ls (st)) : E M κ Q pc h ls (a :: st) := by
  obtain ⟨hd, rfl⟩ := hd
  intro p l e R s m args below meth c g Z mc ms hC hmc hms hret H locs cells slots lsA hk hs hW hS hl
  exact lv_pop hC.1 hC.2.1 hd ((gv_cat hC.2.2.2.2.2.2.2.2.2.2.1.2.2 a).trans ha) (k p l e R s m args below meth c g Z mc ms hC hmc hms hret H locs cells slots lsA hk hs hW hS hl)
theorem e_if_eq {M : MD} {κ : Nat × Nat} {Q : Option Value → AH → Prop} {pc pc2 : Nat} {h : AH} {ls : List (Option Value)} {st : List Value} {x : Int32} {off : Int} {tgt : Nat} (hd : decode M.2.1 pc = .ok (.ifCond .eq off, 3) ∧ pc2 = pc + 3 ∧ (pc : Int) + off = (tgt : Int))
    (kt : x = 0 → E M κ Q tgt h ls st) (kf : ¬ x = 0 → E M κ Q pc2 h ls st) : E M κ Q pc h ls (.int x :: st) := by
  obtain ⟨hd, rfl, ht⟩ := hd
  intro p l e R s m args below meth c g Z mc ms hC hmc hms hret H locs cells slots lsA hk hs hW hS hl
  exact lv_if_eq hC.1 hC.2.1 hd ht (fun z => (kt z p l e R s m args below meth c g Z mc ms hC hmc hms hret H locs cells slots lsA hk hs hW hS hl)) (fun z => (kf z p l e R s m args below meth c g Z mc ms hC hmc hms hret H locs cells slots lsA hk hs hW hS hl))
theorem e_icmp_eq {M : MD} {κ : Nat × Nat} {Q : Option Value → AH → Prop} {pc pc2 : Nat} {h : AH} {ls : List (Option Value)} {st : List Value} {x y : Int32} {off : Int} {tgt : Nat} (hd : decode M.2.1 pc = .ok (.if_icmp .eq off, 3) ∧ pc2 = pc + 3 ∧ (pc : Int) + off = (tgt : Int))
    (kt : x = y → E M κ Q tgt h ls st) (kf : ¬ x = y → E M κ Q pc2 h ls st) : E M κ Q pc h ls (.int y :: .int x :: st) := by
  obtain ⟨hd, rfl, ht⟩ := hd
  intro p l e R s m args below meth c g Z mc ms hC hmc hms hret H locs cells slots lsA hk hs hW hS hl
  exact lv_icmp_eq hC.1 hC.2.1 hd ht (fun z => (kt z p l e R s m args below meth c g Z mc ms hC hmc hms hret H locs cells slots lsA hk hs hW hS hl)) (fun z => (kf z p l e R s m args below meth c g Z mc ms hC hmc hms hret H locs cells slots lsA hk hs hW hS hl))
theorem e_if_ne {M : MD} {κ : Nat × Nat} {Q : Option Value → AH → Prop} {pc pc2 : Nat} {h : AH} {ls : List (Option Value)} {st : List Value} {x : Int32} {off : Int} {tgt : Nat} (hd : decode M.2.1 pc = .ok (.ifCond .ne off, 3) ∧ pc2 = pc + 3 ∧ (pc : Int) + off = (tgt : Int))
    (kt : ¬ x = 0 → E M κ Q tgt h ls st) (kf : x = 0 → E M κ Q pc2 h ls st) : E M κ Q pc h ls (.int x :: st) := by
  obtain ⟨hd, rfl, ht⟩ := hd
  intro p l e R s m args below meth c g Z mc ms hC hmc hms hret H locs cells slots lsA hk hs hW hS hl
  exact lv_if_ne hC.1 hC.2.1 hd ht (fun z => (kt z p l e R s m args below meth c g Z mc ms hC hmc hms hret H locs cells slots lsA hk hs hW hS hl)) (fun z => (kf z p l e R s m args below meth c g Z mc ms hC hmc hms hret H locs cells slots lsA hk hs hW hS hl))
theorem e_icmp_ne {M : MD} {κ : Nat × Nat} {Q : Option Value → AH → Prop} {pc pc2 : Nat} {h : AH} {ls : List (Option Value)} {st : List Value} {x y : Int32} {off : Int} {tgt : Nat} (hd : decode M.2.1 pc = .ok (.if_icmp .ne off, 3) ∧ pc2 = pc + 3 ∧ (pc : Int) + off = (tgt : Int))
    (kt : ¬ x = y → E M κ Q tgt h ls st) (kf : x = y → E M κ Q pc2 h ls st) : E M κ Q pc h ls (.int y :: .int x :: st) := by
  obtain ⟨hd, rfl, ht⟩ := hd
  intro p l e R s m args below meth c g Z mc ms hC hmc hms hret H locs cells slots lsA hk hs hW hS hl
  exact lv_icmp_ne hC.1 hC.2.1 hd ht (fun z => (kt z p l e R s m args below meth c g Z mc ms hC hmc hms hret H locs cells slots lsA hk hs hW hS hl)) (fun z => (kf z p l e R s m args below meth c g Z mc ms hC hmc hms hret H locs cells slots lsA hk hs hW hS hl))
theorem e_if_lt {M : MD} {κ : Nat × Nat} {Q : Option Value → AH → Prop} {pc pc2 : Nat} {h : AH} {ls : List (Option Value)} {st : List Value} {x : Int32} {off : Int} {tgt : Nat} (hd : decode M.2.1 pc = .ok (.ifCond .lt off, 3) ∧ pc2 = pc + 3 ∧ (pc : Int) + off = (tgt : Int))
    (kt : x < 0 → E M κ Q tgt h ls st) (kf : ¬ x < 0 → E M κ Q pc2 h ls st) : E M κ Q pc h ls (.int x :: st) := by
  obtain ⟨hd, rfl, ht⟩ := hd
  intro p l e R s m args below meth c g Z mc ms hC hmc hms hret H locs cells slots lsA hk hs hW hS hl
  exact lv_if_lt hC.1 hC.2.1 hd ht (fun z => (kt z p l e R s m args below meth c g Z mc ms hC hmc hms hret H locs cells slots lsA hk hs hW hS hl)) (fun z => (kf z p l e R s m args below meth c g Z mc ms hC hmc hms hret H locs cells slots lsA hk hs hW hS hl))
theorem e_icmp_lt {M : MD} {κ : Nat × Nat} {Q : Option Value → AH → Prop} {pc pc2 : Nat} {h : AH} {ls : List (Option Value)} {st : List Value} {x y : Int32} {off : Int} {tgt : Nat} (hd : decode M.2.1 pc = .ok (.if_icmp .lt off, 3) ∧ pc2 = pc + 3 ∧ (pc : Int) + off = (tgt : Int))
    (kt : x < y → E M κ Q tgt h ls st) (kf : ¬ x < y → E M κ Q pc2 h ls st) : E M κ Q pc h ls (.int y :: .int x :: st) := by
  obtain ⟨hd, rfl, ht⟩ := hd
  intro p l e R s m args below meth c g Z mc ms hC hmc hms hret H locs cells slots lsA hk hs hW hS hl
  exact lv_icmp_lt hC.1 hC.2.1 hd ht (fun z => (kt z p l e R s m args below meth c g Z mc ms hC hmc hms hret H locs cells slots lsA hk hs hW hS hl)) (fun z => (kf z p l e R s m args below meth c g Z mc ms hC hmc hms hret H locs cells slots lsA hk hs hW hS hl))
theorem e_if_ge {M : MD} {κ : Nat × Nat} {Q : Option Value → AH → Prop} {pc pc2 : Nat} {h : AH} {ls : List (Option Value)} {st : List Value} {x : Int32} {off : Int} {tgt : Nat} (hd : decode M.2.1 pc = .ok (.ifCond .ge off, 3) ∧ pc2 = pc + 3 ∧ (pc : Int) + off = (tgt : Int))
    (kt : 0 ≤ x → E M κ Q tgt h ls st) (kf : ¬ 0 ≤ x → E M κ Q pc2 h ls st) : E M κ Q pc h ls (.int x :: st) := by
  obtain ⟨hd, rfl, ht⟩ := hd
  intro p l e R s m args below meth c g Z mc ms hC hmc hms hret H locs cells slots lsA hk hs hW hS hl
  exact lv_if_ge hC.1 hC.2.1 hd ht (fun z => (kt z p l e R s m args below meth c g Z mc ms hC hmc hms hret H locs cells slots lsA hk hs hW hS hl)) (fun z => (kf z p l e R s m args below meth c g Z mc ms hC hmc hms hret H locs cells slots lsA hk hs hW hS hl))
theorem e_icmp_ge {M : MD} {κ : Nat × Nat} {Q : Option Value → AH → Prop} {pc pc2 : Nat} {h : AH} {ls : List (Option Value)} {st : List Value} {x y : Int32} {off : Int} {tgt : Nat} (hd : decode M.2.1 pc = .ok (.if_icmp .ge off, 3) ∧ pc2 = pc + 3 ∧ (pc : Int) + off = (tgt : Int))
    (kt : y ≤ x → E M κ Q tgt h ls st) (kf : ¬ y ≤ x → E M κ Q pc2 h ls st) : E M κ Q pc h ls (.int y :: .int x :: st) := by
  obtain ⟨hd, rfl, ht⟩ := hd
  intro p l e R s m args below meth c g Z mc ms hC hmc hms hret H locs cells slots lsA hk hs hW hS hl
  exact lv_icmp_ge hC.1 hC.2.1 hd ht (fun z => (kt z p l e R s m args below meth c g Z mc ms hC hmc hms hret H locs cells slots lsA hk hs hW hS hl)) (fun z => (kf z p l e R s m args below meth c g Z mc ms hC hmc hms hret H locs cells slots lsA hk hs hW hS hl))
theorem e_if_gt {M : MD} {κ : Nat × Nat} {Q : Option Value → AH → Prop} {pc pc2 : Nat} {h : AH} {ls : List (Option Value)} {st : List Value} {x : Int32} {off : Int} {tgt : Nat} (hd : decode M.2.1 pc = .ok (.ifCond .gt off, 3) ∧ pc2 = pc + 3 ∧ (pc : Int) + off = (tgt : Int))
    (kt : 0 < x → E M κ Q tgt h ls st) (kf : ¬ 0 < x → E M κ Q pc2 h ls st) : E M κ Q pc h ls (.int x :: st) := by
  obtain ⟨hd, rfl, ht⟩ := hd
  intro p l e R s m args below meth c g Z mc ms hC hmc hms hret H locs cells slots lsA hk hs hW hS hl
  exact lv_if_gt hC.1 hC.2.1 hd ht (fun z => (kt z p l e R s m args below meth c g Z mc ms hC hmc hms hret H locs cells slots lsA hk hs hW hS hl)) (fun z => (kf z p l e R s m args below meth c g Z mc ms hC hmc hms hret H locs cells slots lsA hk hs hW hS hl))
theorem e_icmp_gt {M : MD} {κ : Nat × Nat} {Q : Option Value → AH → Prop} {pc pc2 : Nat} {h : AH} {ls : List (Option Value)} {st : List Value} {x y : Int32} {off : Int} {tgt : Nat} (hd : decode M.2.1 pc = .ok (.if_icmp .gt off, 3) ∧ pc2 = pc + 3 ∧ (pc : Int) + off = (tgt : Int))
    (kt : y < x → E M κ Q tgt h ls st) (kf : ¬ y < x → E M κ Q pc2 h ls st) : E M κ Q pc h ls (.int y :: .int x :: st) := by
  obtain ⟨hd, rfl, ht⟩ := hd
  intro p l e R s m args below meth c g Z mc ms hC hmc hms hret H locs cells slots lsA hk hs hW hS hl
  exact lv_icmp_gt hC.1 hC.2.1 hd ht (fun z => (kt z p l e R s m args below meth c g Z mc ms hC hmc hms hret H locs cells slots lsA hk hs hW hS hl)) (fun z => (kf z p l e R s m args below meth c g Z mc ms hC hmc hms hret H locs cells slots lsA hk hs hW hS hl))
theorem e_if_le {M : MD} {κ : Nat × Nat} {Q : Option Value → AH → Prop} {pc pc2 : Nat} {h : AH} {ls : List (Option Value)} {st : List Value} {x : Int32} {off : Int} {tgt : Nat} (hd : decode M.2.1 pc = .ok (.ifCond .le off, 3) ∧ pc2 = pc + 3 ∧ (pc : Int) + off = (tgt : Int))
    (kt : x ≤ 0 → E M κ Q tgt h ls st) (kf : ¬ x ≤ 0 → E M κ Q pc2 h ls st) : E M κ Q pc h ls (.int x :: st) := by
  obtain ⟨hd, rfl, ht⟩ := hd
  intro p l e R s m args below meth c g Z mc ms hC hmc hms hret H locs cells slots lsA hk hs hW hS hl
  exact lv_if_le hC.1 hC.2.1 hd ht (fun z => (kt z p l e R s m args below meth c g Z mc ms hC hmc hms hret H locs cells slots lsA hk hs hW hS hl)) (fun z => (kf z p l e R s m args below meth c g Z mc ms hC hmc hms hret H locs cells slots lsA hk hs hW hS hl))
theorem e_icmp_le {M : MD} {κ : Nat × Nat} {Q : Option Value → AH → Prop} {pc pc2 : Nat} {h : AH} {ls : List (Option Value)} {st : List Value} {x y : Int32} {off : Int} {tgt : Nat} (hd : decode M.2.1 pc = .ok (.if_icmp .le off, 3) ∧ pc2 = pc + 3 ∧ (pc : Int) + off = (tgt : Int))
    (kt : x ≤ y → E M κ Q tgt h ls st) (kf : ¬ x ≤ y → E M κ Q pc2 h ls st) : E M κ Q pc h ls (.int y :: .int x :: st) := by
  obtain ⟨hd, rfl, ht⟩ := hd
  intro p l e R s m args below meth c g Z mc ms hC hmc hms hret H locs cells slots lsA hk hs hW hS hl
  exact lv_icmp_le hC.1 hC.2.1 hd ht (fun z => (kt z p l e R s m args below meth c g Z mc ms hC hmc hms hret H locs cells slots lsA hk hs hW hS hl)) (fun z => (kf z p l e R s m args below meth c g Z mc ms hC hmc hms hret H locs cells slots lsA hk hs hW hS hl))
theorem e_goto {M : MD} {κ : Nat × Nat} {Q : Option Value → AH → Prop} {pc pc2 : Nat} {h : AH} {ls : List (Option Value)} {st : List Value} {off : Int} {tgt : Nat} (hd : decode M.2.1 pc = .ok (.goto off, 3) ∧ (pc : Int) + off = (tgt : Int)) (k : E M κ Q tgt h ls st) : E M κ Q pc h ls st := by
  intro p l e R s m args below meth c g Z mc ms hC hmc hms hret H locs cells slots lsA hk hs hW hS hl
  exact lv_goto hC.1 hC.2.1 hd.1 hd.2 (k p l e R s m args below meth c g Z mc ms hC hmc hms hret H locs cells slots lsA hk hs hW hS hl)
theorem e_table {M : MD} {κ : Nat × Nat} {Q : Option Value → AH → Prop} {pc pc2 : Nat} {h : AH} {ls : List (Option Value)} {st : List Value} {dflt lo hi : Int} {offs : Array Int} {len : Nat} {x : Int32} {off : Int} {tgt : Nat} (hd : decode M.2.1 pc = .ok (.tableswitch dflt lo hi offs, len)) (h1 : ¬ x.toInt < lo) (h2 : ¬ hi < x.toInt) (ho : offs[(x.toInt - lo).toNat]? = some off) (ht : (pc : Int) + off = (tgt : Int)) (k : E M κ Q tgt h ls st) : E M κ Q pc h ls (.int x :: st) := by
  intro p l e R s m args below meth c g Z mc ms hC hmc hms hret H locs cells slots lsA hk hs hW hS hl
  exact lv_tableIn hC.1 hC.2.1 hd h1 h2 ho ht (k p l e R s m args below meth c g Z mc ms hC hmc hms hret H locs cells slots lsA hk hs hW hS hl)
theorem e_tableD {M : MD} {κ : Nat × Nat} {Q : Option Value → AH → Prop} {pc pc2 : Nat} {h : AH} {ls : List (Option Value)} {st : List Value} {dflt lo hi : Int} {offs : Array Int} {len : Nat} {x : Int32} {tgt : Nat} (hd : decode M.2.1 pc = .ok (.tableswitch dflt lo hi offs, len)) (h1 : x.toInt < lo ∨ hi < x.toInt) (ht : (pc : Int) + dflt = (tgt : Int)) (k : E M κ Q tgt h ls st) : E M κ Q pc h ls (.int x :: st) := by
  intro p l e R s m args below meth c g Z mc ms hC hmc hms hret H locs cells slots lsA hk hs hW hS hl
  exact lv_tableOut hC.1 hC.2.1 hd h1 ht (k p l e R s m args below meth c g Z mc ms hC hmc hms hret H locs cells slots lsA hk hs hW hS hl)
theorem e_lookup {M : MD} {κ : Nat × Nat} {Q : Option Value → AH → Prop} {pc pc2 : Nat} {h : AH} {ls : List (Option Value)} {st : List Value} {dflt : Int} {ps : Array (Int × Int)} {len : Nat} {x : Int32} {off : Int} {tgt : Nat} (hd : decode M.2.1 pc = .ok (.lookupswitch dflt ps, len)) (hp : (ps.toList.zip (ps.toList.drop 1)).all (fun (a, next) => a.1 < next.1) = true) (ho : Op.lookupswitch.offset ps.toList dflt x.toInt = off) (ht : (pc : Int) + off = (tgt : Int)) (k : E M κ Q tgt h ls st) : E M κ Q pc h ls (.int x :: st) := by
  intro p l e R s m args below meth c g Z mc ms hC hmc hms hret H locs cells slots lsA hk hs hW hS hl
  exact lv_lookup hC.1 hC.2.1 hd hp ho ht (k p l e R s m args below meth c g Z mc ms hC hmc hms hret H locs cells slots lsA hk hs hW hS hl)
theorem e_ireturn {M : MD} {κ : Nat × Nat} {Q : Option Value → AH → Prop} {pc pc2 : Nat} {h : AH} {ls : List (Option Value)} {st : List Value} {x : Int32} {ty : FieldType} (hd : decode M.2.1 pc = .ok (.ireturn, 1)) (ht : M.2.2.2.1 = some ty) (hn : narrow ty (.int x) = .int x) (k : Q (some (.int x)) h) : E M κ Q pc h ls [.int x] := by
  intro p l e R s m args below meth c g Z mc ms hC hmc hms hret H locs cells slots lsA hk hs hW hS hl
  exact hret pc (some (.int x)) h H locs cells slots lsA k ⟨rfl, Sh.refl h⟩ ⟨hd, ty, ht, hn⟩ (by omega) (by omega) hW hS
theorem e_lreturn {M : MD} {κ : Nat × Nat} {Q : Option Value → AH → Prop} {pc pc2 : Nat} {h : AH} {ls : List (Option Value)} {st : List Value} {x : Int64} (hd : decode M.2.1 pc = .ok (.lreturn, 1)) (ht : M.2.2.2.1 = some .long) (k : Q (some (.long x)) h) : E M κ Q pc h ls [.long x] := by
  intro p l e R s m args below meth c g Z mc ms hC hmc hms hret H locs cells slots lsA hk hs hW hS hl
  exact hret pc (some (.long x)) h H locs cells slots lsA k ⟨rfl, Sh.refl h⟩ ⟨hd, ht⟩ (by omega) (by omega) hW hS
theorem e_return {M : MD} {κ : Nat × Nat} {Q : Option Value → AH → Prop} {pc pc2 : Nat} {h : AH} {ls : List (Option Value)} {st : List Value} (hd : decode M.2.1 pc = .ok (.return_, 1)) (ht : M.2.2.2.1 = none) (k : Q none h) : E M κ Q pc h ls [] := by
  intro p l e R s m args below meth c g Z mc ms hC hmc hms hret H locs cells slots lsA hk hs hW hS hl
  exact hret pc none h H locs cells slots lsA k ⟨rfl, Sh.refl h⟩ ⟨hd, ht⟩ (by omega) (by omega) hW hS
theorem e_post {M : MD} {κ : Nat × Nat} {Q : Option Value → AH → Prop} {pc pc2 : Nat} {h : AH} {ls : List (Option Value)} {st : List Value} {Q' : Option Value → AH → Prop} (hq : ∀ v h', Q' v h' → Q v h') (k : E M κ Q' pc h ls st) : E M κ Q pc h ls st := by
  intro p l e R s m args below meth c g Z mc ms hC hmc hms hret H locs cells slots lsA hk hs hW hS hl
  exact k p l e R s m args below meth c g Z mc ms hC hmc hms (fun pc' v h' H' locs' cells' slots' ls' a => hret pc' v h' H' locs' cells' slots' ls' (hq v h' a)) H locs cells slots lsA hk hs hW hS hl
