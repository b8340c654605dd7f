/-! THE REST: arraycopy, the script, the words' text, a formatter -/
section SPEC
variable {M : MD} {κ : Nat × Nat} {Q : Option Value → AH → Prop} {pc pc2 : Nat} {h : AH} {ls : List (Option Value)} {st : List Value}
theorem nn_toInt {z : Int32} (hz : ¬ z < 0) : z.toInt = (z.toNatClampNeg : Int) := by
  have hz0 : (0 : Int) ≤ z.toInt := by
    have := Int32.not_lt.mp hz
    simpa using Int32.le_iff_toInt_le.mp this
  show z.toInt = ((z.toInt.toNat : Nat) : Int)
  omega
/-- System.arraycopy between rows of ints -/
theorem e_copy {idx a0 a1 n0 n1 : Nat} {f f1 : Nat → Int32} {sp dp n : Int32} (hd : decode M.2.1 pc = .ok (.invokestatic idx, 3) ∧ pc2 = pc + 3)
    (hw : Cond.methodLink M.1.cls idx arraycopyName ∈ lw_good ∧ Cond.native arraycopyName ∈ lw_good ∧ Cond.static arraycopyName ∈ lw_good ∧ Cond.initialized "java/lang/System" ∈ lw_good)
    (hf : 1 ≤ M.2.2.2.2.1) (hlo : (st.map fun v => v.category).sum + (nativeFrameWords "java/lang/System" "arraycopy" 5 + 11) ≤ M.2.2.2.2.2)
    (hc0 : Hs h a0 (aI n0 f)) (hc1 : Hs h a1 (aI n1 f1)) (h1 : ¬ sp < 0) (h2 : ¬ dp < 0) (h3 : ¬ n < 0) (h4 : sp.toNatClampNeg + n.toNatClampNeg ≤ n0) (h5 : dp.toNatClampNeg + n.toNatClampNeg ≤ n1)
    (kk : E M κ Q pc2 (up h a1 (aI n1 (va_cpy f f1 sp.toNatClampNeg dp.toNatClampNeg n.toNatClampNeg))) ls st) : E M κ Q pc h ls (.int n :: .int dp :: .ref a1 :: .int sp :: .ref a0 :: st) := by
  obtain ⟨hd, rfl⟩ := hd
  intro p l e R s m args below meth c g Z mc ms hC hmc hms hret H locs cells slots lsA hk hs hW hS hl
  obtain ⟨hx, hb, hml, hr, hown, hts, hnm, hlk, hf', hlo', hK, hT', hX, hg⟩ := id hC
  obtain ⟨hsz, cA, hP, hAr⟩ := id hW
  have hcat : ((st.map (gv g)).map fun v => v.category).sum = (st.map fun v => v.category).sum := by simp [Function.comp_def, gv_cat hK.2.2]
  intro T hT X
  have e0 : H[g.1 + a0]? = some (vp_cell (cA a0) (n0, .inl f)) := hP a0 _ (wsl_at hc0)
  have e1 : H[g.1 + a1]? = some (vp_cell (cA a1) (n1, .inl f1)) := hP a1 _ (wsl_at hc1)
  obtain ⟨-, k0, hk0, cm0, hkk0⟩ := (hAr a0 _ _ hc0.1 hc0.2).1 n0 (fun j => .int (f j))
  obtain ⟨-, k1, hk1, cm1, hkk1⟩ := (hAr a1 _ _ hc1.1 hc1.2).1 n1 (fun j => .int (f1 j))
  obtain ⟨vm', X', stp⟩ := X.arraycopy hx hown (hts _ hw.1) (hts _ hw.2.1) (hts _ hw.2.2.1) (hts _ hw.2.2.2) (src := g.1 + a0) (dst := g.1 + a1) (cs := vp_cell (cA a0) (n0, .inl f)) (cd := vp_cell (cA a1) (n1, .inl f1)) (srcPos := sp) (destPos := dp) (n := n) (by rw [hT]; exact e0) (by rw [hT]; exact e1)
    (fun _ h => by cases h) (fun _ h => by cases h) (fun h => by cases h) (fun h => by cases h) hk0 hk1 hkk0 hkk1 (by simp [refKind]) h1 h2 h3
    (by rw [nn_toInt h1, nn_toInt h3]; show ¬ _ > ((arrV (cA a0) n0 (fun j => .int (f j))).slots.size : Int); rw [arrV_size]; omega)
    (by rw [nn_toInt h2, nn_toInt h3]; show ¬ _ > ((arrV (cA a1) n1 (fun j => .int (f1 j))).slots.size : Int); rw [arrV_size]; omega)
    (fun vm₁ _ i hi => by
      have e : (vp_cell (cA a0) (n0, .inl f)).slots.getD (sp.toNatClampNeg + i) .null = .int (f (sp.toNatClampNeg + i)) := by
        show (arrV (cA a0) n0 (fun j => .int (f j))).slots.getD _ _ = _
        rw [Array.getD_eq_getD_getElem?, arrV_read _ _ (by omega)]
        rfl
      rw [e]
      exact ⟨rfl, trivial⟩)
    (g := F0 m pc lsA (.int n :: .int dp :: .ref (g.1 + a1) :: .int sp :: .ref (g.1 + a0) :: st.map (gv g))) rfl (by rw [hml]; exact hl.1) (rest := st.map (gv g)) rfl (by rw [hb]; exact hd) (by omega) (by show 2 * 0 + _ + _ ≤ _; omega)
  have e2 : copied (vp_cell (cA a0) (n0, .inl f)) (vp_cell (cA a1) (n1, .inl f1)) sp dp n = vp_cell (cA a1) (n1, .inl (va_cpy f f1 sp.toNatClampNeg dp.toNatClampNeg n.toNatClampNeg)) := va_copied (fun z => .int z) (cA a0) (cA a1) f f1 h4
  rw [e2] at X' stp
  have hlt : g.1 + a1 < H.size := (Array.getElem?_eq_some_iff.mp e1).1
  generalize hcn : vp_cell (cA a1) (n1, .inl (va_cpy f f1 sp.toNatClampNeg dp.toNatClampNeg n.toNatClampNeg)) = cn at X' stp
  have hheap : ((T.setVm vm').setCell (g.1 + a1) cn).heap = H.setIfInBounds (g.1 + a1) cn := by rw [← hT]; rfl
  have oq : ∀ q : Nat, q ≠ g.1 + a1 → (H.setIfInBounds (g.1 + a1) cn)[q]? = H[q]? := fun q hq => by simp [Array.getElem?_setIfInBounds, Ne.symm hq]
  have hz : (H.setIfInBounds (g.1 + a1) cn).size = H.size := by simp
  have hself : (H.setIfInBounds (g.1 + a1) cn)[g.1 + a1]? = some cn := by simp [Array.getElem?_setIfInBounds, hlt]
  obtain ⟨t, b1, b2⟩ := kk p l e R s m args below meth c g Z mc ms hC hmc hms (fun pc' v2 h2 H2 l2 c2 s2 L2 a1 a2 => hret pc' v2 h2 H2 l2 c2 s2 L2 a1 ⟨a2.1, Sh.put a2.2 hc1 rfl⟩) _ _ cells slots lsA hk hs (Wd_store hsz hP hAr hc1.1 (aI n1 (va_cpy f f1 sp.toNatClampNeg dp.toNatClampNeg n.toNatClampNeg)) (by rw [← hcn] at hself ⊢; exact hself) (fun ty y h9 => by cases h9; exact ⟨_, hc1.2⟩) hz oq)
    ⟨by rw [hz]; exact hS.1, fun q g1 g2 => by
      rw [oq q (fun e => g2 (by rw [e]; exact Nat.le_add_right _ _))]
      exact hS.2.1 q g1 g2, fun q hq => by
      rcases List.mem_append.mp hq with h | h
      · exact hS.2.2 q h
      · obtain ⟨z, -, hz⟩ := List.mem_map.mp h
        rw [← hz]
        exact Nat.le_add_right _ _⟩ hl _ hheap X'
  exact ⟨t, stp t b1, b2⟩
/-! the script: .float 0 -/
theorem Sx_ref {g : GC} {sc : Nat × (Nat → Int32)} {s : State} {H : Heap} (hX : Sx g sc s H) {k : UInt32} (hk : k = 0 ∨ k = 1 ∨ k = 2) : ∃ b, gv g (.float k) = .ref b := by
  obtain ⟨⟨b, h1, -⟩, ⟨adK, adV, h2, h3, -⟩, -⟩ := hX
  rcases hk with rfl | rfl | rfl
  · exact ⟨_, h1⟩
  · exact ⟨_, h2⟩
  · exact ⟨_, h3⟩
theorem e_aloadSn {n : Fin 4} {k : UInt32} (hd : decode M.2.1 pc = .ok (.aload_n n, 1) ∧ pc2 = pc + 1) (hx : ls[(n : Nat)]? = some (some (.float k))) (hk0 : k = 0 ∨ k = 1 ∨ k = 2) (kk : E M κ Q pc2 h ls (.float k :: st)) : E M κ Q pc h ls st := by
  obtain ⟨hd, rfl⟩ := hd
  intro p l e R s m args below meth c g Z mc ms hC hmc hms hret H locs cells slots lsA hk hs hW hS hl
  obtain ⟨b, hb⟩ := Sx_ref hC.2.2.2.2.2.2.2.2.2.2.2.2.1 hk0
  have hk' := kk p l e R s m args below meth c g Z mc ms hC hmc hms hret H locs cells slots lsA hk hs hW hS hl
  have hl' := lp_at hl hx
  rw [List.map_cons, hb] at hk'
  rw [hb] at hl'
  exact lv_aload_n hC.1 hC.2.1 hd rfl hl' hk'
theorem e_slen (hd : decode M.2.1 pc = .ok (.arraylength, 1) ∧ pc2 = pc + 1) (kk : E M κ Q pc2 h ls (.int (nI h.1.1) :: st)) : E M κ Q pc h ls (.float 0 :: st) := by
  obtain ⟨hd, rfl⟩ := hd
  intro p l e R s m args below meth c g Z mc ms hC hmc hms hret H locs cells slots lsA hk hs hW hS hl
  obtain ⟨⟨b, h1, h2, h3⟩, -⟩ := hC.2.2.2.2.2.2.2.2.2.2.2.2.1
  have hk' := kk p l e R s m args below meth c g Z mc ms hC hmc hms hret H locs cells slots lsA hk hs hW hS hl
  rw [List.map_cons, show gv g (.float 0) = .ref b from h1]
  exact va_slen hC.1 hC.2.1 h3 (Nat.lt_of_lt_of_le h2 hC.2.2.2.2.2.2.2.2.2.2.2.2.2) (Nat.not_le.mpr h2) hS hd hk'
theorem e_sld {i : Int32} (hd : decode M.2.1 pc = .ok (.iaload, 1) ∧ pc2 = pc + 1) (hi : vp_in i h.1.1) (kk : E M κ Q pc2 h ls (.int (h.1.2 i.toNatClampNeg) :: st)) : E M κ Q pc h ls (.int i :: .float 0 :: st) := by
  obtain ⟨hd, rfl⟩ := hd
  intro p l e R s m args below meth c g Z mc ms hC hmc hms hret H locs cells slots lsA hk hs hW hS hl
  obtain ⟨⟨b, h1, h2, h3⟩, -⟩ := hC.2.2.2.2.2.2.2.2.2.2.2.2.1
  have hk' := kk p l e R s m args below meth c g Z mc ms hC hmc hms hret H locs cells slots lsA hk hs hW hS hl
  rw [List.map_cons, List.map_cons, show gv g (.float 0) = .ref b from h1]
  exact va_sld hC.1 hC.2.1 h3 (Nat.lt_of_lt_of_le h2 hC.2.2.2.2.2.2.2.2.2.2.2.2.2) (Nat.not_le.mpr h2) hS hi hd hk'
/-! the words' text: .float 1, its bytes: .float 2, a formatter: .float 3 -/
theorem e_ldcS (hM : M.1.cls = "MorningCoin$Reader") (hd : decode M.2.1 pc = .ok (.ldc 156, 2) ∧ pc2 = pc + 2) (kk : E M κ Q pc2 h ls (.float 1 :: st)) : E M κ Q pc h ls st := by
  obtain ⟨hd, rfl⟩ := hd
  intro p l e R s m args below meth c g Z mc ms hC hmc hms hret H locs cells slots lsA hk hs hW hS hl
  obtain ⟨⟨q, h1, h2⟩, -⟩ := hC.2.2.2.2.2.2.2.2.2.2.2.1
  have hk' := kk p l e R s m args below meth c g Z mc ms hC hmc hms hret H locs cells slots lsA hk hs hW hS hl
  rw [List.map_cons, show gv g (.float 1) = .ref q from h1] at hk'
  have hown := hC.2.2.2.2.1
  rw [hM] at hown
  exact va_ldcS hC.1 hC.2.1 hown h2 hd hk'
theorem e_getCoder {idx : Nat} (hd : decode M.2.1 pc = .ok (.getfield idx, 3) ∧ pc2 = pc + 3) (hw : Cond.fieldLink M.1.cls idx "java/lang/String" "coder" "B" ∈ lw_good) (kk : E M κ Q pc2 h ls (.int 0 :: st)) : E M κ Q pc h ls (.float 1 :: st) := by
  obtain ⟨hd, rfl⟩ := hd
  intro p l e R s m args below meth c g Z mc ms hC hmc hms hret H locs cells slots lsA hk hs hW hS hl
  obtain ⟨-, ⟨adK, adV, h4, h5, h6⟩, -⟩ := hC.2.2.2.2.2.2.2.2.2.2.2.2.1
  have hk' := kk p l e R s m args below meth c g Z mc ms hC hmc hms hret H locs cells slots lsA hk hs hW hS hl
  rw [List.map_cons, show gv g (.float 1) = .ref (adK 0) from h4]
  exact vk_getf hC.1 hC.2.1 (h6.1 0 (by decide)).2.1 hS hC.2.2.2.2.1 (hC.2.2.2.2.2.1 _ hw) (fun _ h9 => h9) hd hk'
theorem e_getBytes {idx : Nat} (hd : decode M.2.1 pc = .ok (.getfield idx, 3) ∧ pc2 = pc + 3) (hw : Cond.fieldLink M.1.cls idx "java/lang/String" "value" "[B" ∈ lw_good) (kk : E M κ Q pc2 h ls (.float 2 :: st)) : E M κ Q pc h ls (.float 1 :: st) := by
  obtain ⟨hd, rfl⟩ := hd
  intro p l e R s m args below meth c g Z mc ms hC hmc hms hret H locs cells slots lsA hk hs hW hS hl
  obtain ⟨-, ⟨adK, adV, h4, h5, h6⟩, -⟩ := hC.2.2.2.2.2.2.2.2.2.2.2.2.1
  have hk' := kk p l e R s m args below meth c g Z mc ms hC hmc hms hret H locs cells slots lsA hk hs hW hS hl
  rw [List.map_cons, show gv g (.float 1) = .ref (adK 0) from h4]
  rw [List.map_cons, show gv g (.float 2) = .ref (adV 0) from h5] at hk'
  exact vk_getf hC.1 hC.2.1 (h6.1 0 (by decide)).2.2.1 hS hC.2.2.2.2.1 (hC.2.2.2.2.2.1 _ hw) (fun _ h9 => h9) hd hk'
theorem e_blen (hd : decode M.2.1 pc = .ok (.arraylength, 1) ∧ pc2 = pc + 1) (kk : E M κ Q pc2 h ls (.int 108 :: st)) : E M κ Q pc h ls (.float 2 :: st) := by
  obtain ⟨hd, rfl⟩ := hd
  intro p l e R s m args below meth c g Z mc ms hC hmc hms hret H locs cells slots lsA hk hs hW hS hl
  obtain ⟨-, ⟨adK, adV, h4, h5, h6⟩, -⟩ := hC.2.2.2.2.2.2.2.2.2.2.2.2.1
  have hk' := kk p l e R s m args below meth c g Z mc ms hC hmc hms hret H locs cells slots lsA hk hs hW hS hl
  rw [List.map_cons, show gv g (.float 2) = .ref (adV 0) from h5]
  exact va_tlen hC.1 hC.2.1 (h6.1 0 (by decide)).2.2.2 hS (by rfl) hd hk'
theorem e_bld {i : Int32} (hd : decode M.2.1 pc = .ok (.baload, 1) ∧ pc2 = pc + 1) (hi : vp_in i 108) (kk : E M κ Q pc2 h ls (.int (wBytes.getD i.toNatClampNeg 0) :: st)) : E M κ Q pc h ls (.int i :: .float 2 :: st) := by
  obtain ⟨hd, rfl⟩ := hd
  intro p l e R s m args below meth c g Z mc ms hC hmc hms hret H locs cells slots lsA hk hs hW hS hl
  obtain ⟨-, ⟨adK, adV, h4, h5, h6⟩, -⟩ := hC.2.2.2.2.2.2.2.2.2.2.2.2.1
  have hk' := kk p l e R s m args below meth c g Z mc ms hC hmc hms hret H locs cells slots lsA hk hs hW hS hl
  rw [List.map_cons, List.map_cons, show gv g (.float 2) = .ref (adV 0) from h5]
  exact va_tb hC.1 hC.2.1 (h6.1 0 (by decide)).2.2.2 hS hi rfl hd hk'
theorem e_gsCompact {idx : Nat} (hd : decode M.2.1 pc = .ok (.getstatic idx, 3) ∧ pc2 = pc + 3) (hw : Cond.fieldLink M.1.cls idx "java/lang/String" "COMPACT_STRINGS" "Z" ∈ lw_good) (kk : E M κ Q pc2 h ls (.int 1 :: st)) : E M κ Q pc h ls st := by
  obtain ⟨hd, rfl⟩ := hd
  intro p l e R s m args below meth c g Z mc ms hC hmc hms hret H locs cells slots lsA hk hs hW hS hl
  obtain ⟨-, -, h7, h8⟩ := hC.2.2.2.2.2.2.2.2.2.2.2.2.1
  exact va_gets hC.1 hC.2.1 h7 hS hC.2.2.2.2.1 (hC.2.2.2.2.2.1 _ hw) (fun _ h9 => h9) hd (kk p l e R s m args below meth c g Z mc ms hC hmc hms hret H locs cells slots lsA hk hs hW hS hl)
theorem e_gsFormat {idx : Nat} (hd : decode M.2.1 pc = .ok (.getstatic idx, 3) ∧ pc2 = pc + 3) (hw : Cond.fieldLink M.1.cls idx "jdk/internal/util/Preconditions" "SIOOBE_FORMATTER" "Ljava/util/function/BiFunction;" ∈ lw_good) (kk : E M κ Q pc2 h ls (.float 3 :: st)) : E M κ Q pc h ls st := by
  obtain ⟨hd, rfl⟩ := hd
  intro p l e R s m args below meth c g Z mc ms hC hmc hms hret H locs cells slots lsA hk hs hW hS hl
  obtain ⟨-, -, h7, h8⟩ := hC.2.2.2.2.2.2.2.2.2.2.2.2.1
  exact va_gets hC.1 hC.2.1 h8 hS hC.2.2.2.2.1 (hC.2.2.2.2.2.1 _ hw) (fun _ h9 => h9) hd (kk p l e R s m args below meth c g Z mc ms hC hmc hms hret H locs cells slots lsA hk hs hW hS hl)
/-- a call on the words' text -/
theorem e_virtualS {N : MD} {κ1 : Nat × Nat} {Q1 : Option Value → AH → Prop} {idx n : Nat} {av rest : List Value}
    (hd : decode M.2.1 pc = .ok (.invokevirtual idx, 3) ∧ pc2 = pc + 3) (hL : LcV M idx N n) (hqn : N.1.cls = "java/lang/String") (hsp : Sp N κ1 h (.float 1 :: av) Q1) (hn : av.length = n) (hst : st = av.reverse ++ .float 1 :: rest) (hw : (rest.map fun v => v.category).sum ≤ 8) (hκ : κ1.1 ≤ κ.1 ∧ κ1.2 ≤ κ.2)
    (k : ∀ (v : Option Value) (h' : AH), Q1 v h' → h'.1 = h.1 → E M (κ.1 - κ1.1, κ.2 - κ1.2) Q pc2 h' ls (v.toList ++ rest)) : E M κ Q pc h ls st := by
  refine e_run (N := N) hd.2 hκ ?_ k
  intro p l e R s m args below meth c g H locs cells slots lsA hC hc1 hs1 hW hS hls
  obtain ⟨hx, hb', hml, hr, hown, hts, hnm, hlk, hf, hlo, hK, hT, hX, hg⟩ := hC
  obtain ⟨-, ⟨adK, adV, h4, h5, h6⟩, -⟩ := id hX
  have hrv := vk_recv h6 (by decide : 0 < 1) hS
  refine ⟨_, va_runV (As := av.map (gv g)) (b := adK 0) (C := N.1.cls) ⟨hx, hb', hml, hown, hts⟩ (metOf hL.1.2.2.2.1 hsp l g) ⟨lw_callB hL.1 hL.2.1 hts hf hlo, hts _ hL.2.2.1, hts _ hL.2.2.2⟩ ⟨Pcx.blind, by rw [hqn]; exact hrv, fun U hU hWm => ?_⟩ rfl (by rw [List.length_map]; exact hn) hls (by rw [hst]; simp [gv]; exact h4) (lv_room (by simpa [Function.comp_def, gv_cat hK.2.2] using hw)) hd.1 ⟨hc1, hs1⟩⟩
  have := Pcx.start (av := .float 1 :: av) hK hT hX hg hW hS hU hWm
  rw [List.map_cons, show gv g (.float 1) = .ref (adK 0) from h4] at this
  exact this
end SPEC
