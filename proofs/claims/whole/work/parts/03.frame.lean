/-! THE ABSTRACT MACHINE: cells of the system by their places (a reference is a place, counted from the law's entry on), locals and stack as lists; what a run of a method means. -/
def lw_good : List Cond := lw_tbl.filter goodWord
theorem lw_in {w : Cond} (i : Nat) (h : lw_tbl[i]? = some w) (hg : goodWord w = true) : w ∈ lw_good := List.mem_filter.mpr ⟨List.mem_of_getElem? h, hg⟩
/-- a method: name, bytes, locals, return type; the room that its calls want: frames, words -/
abbrev MD : Type := MethodName × ByteArray × Nat × Option FieldType × Nat × Nat
/-- the law's entry: how many cells there were, the classes' numbers and slots, cells from ahead of the entry (0 the script, 1 the words' text, 2 its bytes, 3 a formatter) -/
abbrev GC : Type := Nat × va_G × (Nat → Value)
/-- a cell: an array, or an object of a class with its fields -/
abbrev AC : Type := (FieldType × vp_A) ⊕ (Nat × List Value)
/-- the script; how many cells; what they hold -/
abbrev AH : Type := (Nat × (Nat → Int32)) × Nat × (Nat → AC)
def gv (g : GC) : Value → Value
  | .ref k => .ref (g.1 + k)
  | .float k => g.2.2 k.toNat
  | v => v
def gA (g : GC) (x : vp_A) : vp_A := (x.1, match x.2 with
  | .inr (.inr (.inr (.inr f))) => .inr (.inr (.inr (.inr (fun j => (f j).map (fun k => g.1 + k)))))
  | y => y)
def gE (g : GC) (cA : ClassId) (e : AC) : va_E := match e with
  | .inl (_, x) => .inl (cA, gA g x)
  | .inr (ci, fs) => .inr (ci, fs.map (gv g))
def wsl (g : GC) (cA : Nat → ClassId) (N : Nat) (f : Nat → AC) : va_W := (List.range N).map (fun k => (g.1 + k, gE g (cA k) (f k)))
def Ag (g : GC) : Nat → Prop := fun q => g.1 ≤ q
/-- every array is of its type's class -/
def Ar (s : State) (cA : Nat → ClassId) (N : Nat) (f : Nat → AC) : Prop := ∀ (k : Nat) (ty : FieldType) (x : vp_A), k < N → f k = .inl (ty, x) → ArrOfT s (cA k) ty ∧ va_RA s (cA k) ty
def Wd (g : GC) (s : State) (h : AH) (H : Heap) : Prop := H.size = g.1 + h.2.1 ∧ ∃ cA : Nat → ClassId, va_P g.2.1 vwCl (wsl g cA h.2.1 h.2.2) H ∧ Ar s cA h.2.1 h.2.2
def Kn (g : GC) (s : State) : Prop := (∀ (c : Nat) (q : vw_C), vwCl[c]? = some q → u_Kn s q.1 q.2.1 q.2.2 (g.2.1.1 c) (g.2.1.2 c)) ∧ va_AO "MorningCoin$Text" s ∧ ∀ k, (g.2.2 k).category = 1
def wText : String := "sex wit home works sexb witb homeb worksb had age draw not and or many near value together apart over found "
def wBytes : List Int32 := [115, 101, 120, 32, 119, 105, 116, 32, 104, 111, 109, 101, 32, 119, 111, 114, 107, 115, 32, 115, 101, 120, 98, 32, 119, 105, 116, 98, 32, 104, 111, 109, 101, 98, 32, 119, 111, 114, 107, 115, 98, 32, 104, 97, 100, 32, 97, 103, 101, 32, 100, 114, 97, 119, 32, 110, 111, 116, 32, 97, 110, 100, 32, 111, 114, 32, 109, 97, 110, 121, 32, 110, 101, 97, 114, 32, 118, 97, 108, 117, 101, 32, 116, 111, 103, 101, 116, 104, 101, 114, 32, 97, 112, 97, 114, 116, 32, 111, 118, 101, 114, 32, 102, 111, 117, 110, 100, 32]
/-- what is known of cells from ahead of the law's entry -/
def Sx (g : GC) (sc : Nat × (Nat → Int32)) (s : State) (H : Heap) : Prop :=
  (∃ b : Nat, g.2.2 0 = .ref b ∧ b < g.1 ∧ va_X b sc.1 sc.2 s H) ∧
  (∃ adK adV : Nat → Nat, g.2.2 1 = .ref (adK 0) ∧ g.2.2 2 = .ref (adV 0) ∧ vk_S 1 [108] [wBytes] adK adV (Ag g) s H) ∧
  va_Z "java/lang/String" "COMPACT_STRINGS" "Z" (.int 1) (Ag g) s H ∧ va_Z "jdk/internal/util/Preconditions" "SIOOBE_FORMATTER" "Ljava/util/function/BiFunction;" (g.2.2 3) (Ag g) s H
/-- the links to private constructors -/
def lw_nest : List (String × Nat × MethodName × String) := [("MorningCoin", 9, ⟨"MorningCoin$Children", "<init>", "()V"⟩, "MorningCoin"), ("MorningCoin", 25, ⟨"MorningCoin$Links", "<init>", "()V"⟩, "MorningCoin"), ("MorningCoin", 32, ⟨"MorningCoin$Land", "<init>", "()V"⟩, "MorningCoin"), ("MorningCoin", 49, ⟨"MorningCoin$Reader", "<init>", "()V"⟩, "MorningCoin"), ("MorningCoin", 66, ⟨"MorningCoin$Judge", "<init>", "()V"⟩, "MorningCoin"), ("MorningCoin", 73, ⟨"MorningCoin$Dealings", "<init>", "()V"⟩, "MorningCoin"), ("MorningCoin", 80, ⟨"MorningCoin$Tally", "<init>", "()V"⟩, "MorningCoin"), ("MorningCoin", 98, ⟨"MorningCoin$Text", "<init>", "()V"⟩, "MorningCoin")]
def Tx (g : GC) (s : State) : Prop := (∃ q : Nat, g.2.2 1 = .ref q ∧ vk_R "MorningCoin$Reader" 156 wText q s) ∧ ∀ w ∈ lw_nest, va_Nw (.methodLinkNest w.1 w.2.1 w.2.2.1 w.2.2.2) s
/-- what holds through a whole run of a method -/
def Cx (M : MD) (p : Program) (R : Room) (s : State) (m : MethodId) (args : Array Value) (meth : Method) (c : Code) (g : GC) (sc : Nat × (Nat → Int32)) : Prop :=
  p.tables.exec = Jvm.exec ∧ c.code = M.2.1 ∧ c.maxLocals = M.2.2.1 ∧ meth.sig.returnType = M.2.2.2.1 ∧ s.vm.findClass M.1.cls = some m.cls ∧ (∀ w ∈ lw_good, w.before args s = true) ∧ meth.name = M.1.name ∧ meth.locks = false ∧
  M.2.2.2.2.1 ≤ R.frames ∧ M.2.2.2.2.2 ≤ R.locals ∧ Kn g s ∧ Tx g s ∧ Sx g sc s s.heap ∧ g.1 ≤ s.heap.size
/-- the locals that are known -/
def lpF (g : GC) : Nat → List (Option Value) → List (Nat × Value)
  | _, [] => []
  | i, none :: r => lpF g (i + 1) r
  | i, some v :: r => (i, gv g v) :: lpF g (i + 1) r
def lp (g : GC) (ls : List (Option Value)) : List (Nat × Value) := lpF g 0 ls
/-- the instruction that leaves a method with v; v is of the method's type -/
def Rt (M : MD) (pc : Nat) : Option Value → Prop
  | none => decode M.2.1 pc = .ok (.return_, 1) ∧ M.2.2.2.1 = none
  | some (.int x) => decode M.2.1 pc = .ok (.ireturn, 1) ∧ ∃ ty, M.2.2.2.1 = some ty ∧ narrow ty (.int x) = .int x
  | some (.long _) => decode M.2.1 pc = .ok (.lreturn, 1) ∧ M.2.2.2.1 = some .long
  | _ => False
/-- what sort of cell: of an array its type and length, of an object its class -/
def shp : AC → (FieldType × Nat × Nat) ⊕ (Nat × Nat)
  | .inl (ty, n, .inl _) => .inl (ty, n, 0)
  | .inl (ty, n, .inr (.inl _)) => .inl (ty, n, 1)
  | .inl (ty, n, .inr (.inr (.inl _))) => .inl (ty, n, 2)
  | .inl (ty, n, .inr (.inr (.inr (.inl _)))) => .inl (ty, n, 3)
  | .inl (ty, n, .inr (.inr (.inr (.inr _)))) => .inl (ty, n, 4)
  | .inr (ci, fs) => .inr (ci, fs.length)
/-- no cell goes, none changes its sort -/
def Sh (h h' : AH) : Prop := h.2.1 ≤ h'.2.1 ∧ ∀ k, k < h.2.1 → shp (h'.2.2 k) = shp (h.2.2 k)
theorem Sh.refl (h : AH) : Sh h h := ⟨Nat.le_refl _, fun _ _ => rfl⟩
theorem Sh.trans {h h1 h2 : AH} (A : Sh h h1) (B : Sh h1 h2) : Sh h h2 := ⟨Nat.le_trans A.1 B.1, fun k hk => (B.2 k (Nat.lt_of_lt_of_le hk A.1)).trans (A.2 k hk)⟩
/-- from here on the method M runs to its end, with Q of its answer and of the cells then; κ: how many cells and slots it may still make -/
def E (M : MD) (κ : Nat × Nat) (Q : Option Value → AH → Prop) (pc : Nat) (h : AH) (ls : List (Option Value)) (st : List Value) : Prop :=
  ∀ (p : Program) (l : Launch) (e : Env) (R : Room) (s : State) (m : MethodId) (args : Array Value) (below : List Frame) (meth : Method) (c : Code) (g : GC) (Z : State → Prop) (mc ms : Nat),
    Cx M p R s m args meth c g h.1 → mc ≤ R.cells → ms ≤ R.slots →
    (∀ (pc' : Nat) (v : Option Value) (h' : AH) (H' : Heap) (locs' : List Loc) (cells' slots' : Nat) (ls' : Array Slot), Q v h' → (h'.1 = h.1 ∧ Sh h h') → Rt M pc' v → cells' ≤ mc → slots' ≤ ms → Wd g s h' H' → va_S (Ag g) s.heap H' locs' →
      W p l e R s m args below meth c H' locs' cells' slots' Z (F0 m pc' ls' (v.toList.map (gv g)))) →
    ∀ (H : Heap) (locs : List Loc) (cells slots : Nat) (lsA : Array Slot), cells + κ.1 = mc → slots + κ.2 = ms → Wd g s h H → va_S (Ag g) s.heap H locs → lv_has lsA M.2.2.1 (lp g ls) →
      W p l e R s m args below meth c H locs cells slots Z (F0 m pc lsA (st.map (gv g)))
theorem lpF_mem {g : GC} : ∀ (ls : List (Option Value)) (i : Nat) (q : Nat × Value), q ∈ lpF g i ls ↔ ∃ (j : Nat) (v : Value), ls[j]? = some (some v) ∧ q = (i + j, gv g v)
  | [], i, q => by simp [lpF]
  | none :: r, i, q => by
    rw [lpF, lpF_mem r (i + 1) q]
    constructor
    · rintro ⟨j, v, h1, h2⟩
      exact ⟨j + 1, v, by simpa using h1, by rw [h2]; congr 1; omega⟩
    · rintro ⟨j, v, h1, h2⟩
      cases j with
      | zero => simp at h1
      | succ j => exact ⟨j, v, by simpa using h1, by rw [h2]; congr 1; omega⟩
  | some w :: r, i, q => by
    rw [lpF, List.mem_cons, lpF_mem r (i + 1) q]
    constructor
    · rintro (h | ⟨j, v, h1, h2⟩)
      · exact ⟨0, w, by simp, by rw [h]; rfl⟩
      · exact ⟨j + 1, v, by simpa using h1, by rw [h2]; congr 1; omega⟩
    · rintro ⟨j, v, h1, h2⟩
      cases j with
      | zero =>
        left
        simp at h1
        rw [h2, h1]; rfl
      | succ j => exact Or.inr ⟨j, v, by simpa using h1, by rw [h2]; congr 1; omega⟩
theorem lp_mem {g : GC} {ls : List (Option Value)} {q : Nat × Value} : q ∈ lp g ls ↔ ∃ (j : Nat) (v : Value), ls[j]? = some (some v) ∧ q = (j, gv g v) := by
  rw [lp, lpF_mem]
  simp only [Nat.zero_add]
theorem lp_at {g : GC} {ls : List (Option Value)} {lsA : Array Slot} {n i : Nat} {v : Value} (hl : lv_has lsA n (lp g ls)) (h : ls[i]? = some (some v)) : lsA[i]? = some (.val (gv g v)) := hl.2.2 (i, gv g v) (lp_mem.mpr ⟨i, v, h, rfl⟩)
theorem lp_idx {g : GC} {ls : List (Option Value)} {i : Nat} {v : Value} (h : ls[i]? = some (some v)) : ∃ k : Nat, (lp g ls)[k]? = some (i, gv g v) := List.getElem?_of_mem (lp_mem.mpr ⟨i, v, h, rfl⟩)
theorem lp_drop {g : GC} {ls ls' : List (Option Value)} {lsA : Array Slot} {n : Nat} (hl : lv_has lsA n (lp g ls)) (h : ∀ (j : Nat) (v : Value), ls'[j]? = some (some v) → ls[j]? = some (some v)) : lv_has lsA n (lp g ls') :=
  ⟨hl.1, hl.2.1, fun q hq => by
    obtain ⟨j, v, h1, rfl⟩ := lp_mem.mp hq
    exact lp_at hl (h j v h1)⟩
/-- no long stands just ahead of place i -/
def ok1 (ls : List (Option Value)) (i : Nat) : Bool := match i with
  | 0 => true
  | j + 1 => match ls[j]? with
    | some (some (.long _)) => false
    | some (some (.double _)) => false
    | _ => true
theorem gv_cat {g : GC} (hk : ∀ k, (g.2.2 k).category = 1) (v : Value) : (gv g v).category = v.category := by
  cases v <;> simp [gv, Value.category]
  exact hk _
theorem ok1_cat {g : GC} (hk : ∀ k, (g.2.2 k).category = 1) {ls : List (Option Value)} {i j : Nat} {v : Value} (h : ok1 ls i = true) (hj : ls[j]? = some (some v)) (he : j + 1 = i) : (gv g v).category = 1 := by
  subst he
  rw [gv_cat hk]
  simp only [ok1, hj] at h
  cases v <;> simp_all [Value.category]
theorem lp_store1 {g : GC} (hk : ∀ k, (g.2.2 k).category = 1) {ls : List (Option Value)} {lsA : Array Slot} {n i : Nat} {v : Value} (hok : ok1 ls i = true)
    (hl : lv_has lsA n ((i, gv g v) :: (lp g ls).filter (fun q => !(q.1 == i) && !(q.1 + 1 == i && q.2.category == 2)))) : lv_has lsA n (lp g (ls.set i (some v))) := by
  refine ⟨hl.1, hl.2.1, fun q hq => hl.2.2 q ?_⟩
  obtain ⟨j, w, h1, rfl⟩ := lp_mem.mp hq
  rw [List.getElem?_set] at h1
  by_cases hij : i = j
  · subst hij
    simp at h1
    obtain ⟨-, h1⟩ := h1
    rw [h1]
    exact List.mem_cons_self
  · rw [if_neg hij] at h1
    refine List.mem_cons_of_mem _ (List.mem_filter.mpr ⟨lp_mem.mpr ⟨j, w, h1, rfl⟩, ?_⟩)
    by_cases h2 : j + 1 = i
    · have hc := ok1_cat hk hok h1 h2
      simp [hc, Ne.symm hij]
    · simp [h2, Ne.symm hij]
theorem lp_store2 {g : GC} (hk : ∀ k, (g.2.2 k).category = 1) {ls : List (Option Value)} {lsA : Array Slot} {n i : Nat} {v : Value} (hok : ok1 ls i = true)
    (hl : lv_has lsA n ((i, gv g v) :: (lp g ls).filter (fun q => !(q.1 == i) && (!(q.1 == i + 1) && !(q.1 + 1 == i && q.2.category == 2))))) : lv_has lsA n (lp g ((ls.set i (some v)).set (i + 1) none)) := by
  refine ⟨hl.1, hl.2.1, fun q hq => hl.2.2 q ?_⟩
  obtain ⟨j, w, h1, rfl⟩ := lp_mem.mp hq
  rw [List.getElem?_set] at h1
  by_cases h3 : i + 1 = j
  · subst h3
    simp at h1
  · rw [if_neg h3, List.getElem?_set] at h1
    by_cases hij : i = j
    · subst hij
      simp at h1
      obtain ⟨-, h1⟩ := h1
      rw [h1]
      exact List.mem_cons_self
    · rw [if_neg hij] at h1
      refine List.mem_cons_of_mem _ (List.mem_filter.mpr ⟨lp_mem.mpr ⟨j, w, h1, rfl⟩, ?_⟩)
      by_cases h2 : j + 1 = i
      · have hc := ok1_cat hk hok h1 h2
        simp [hc, Ne.symm hij, Ne.symm h3]
      · simp [h2, Ne.symm hij, Ne.symm h3]
/-! the world: a list of cells at places one behind the other -/
theorem wsl_get {g : GC} {cA : Nat → ClassId} {N k : Nat} {f : Nat → AC} (h : k < N) : (wsl g cA N f)[k]? = some (g.1 + k, gE g (cA k) (f k)) := by
  rw [wsl, List.getElem?_map, List.getElem?_range h]; rfl
theorem wsl_out {g : GC} {cA : Nat → ClassId} {N k : Nat} {f : Nat → AC} {q : Nat × va_E} (h : (wsl g cA N f)[k]? = some q) : k < N ∧ q = (g.1 + k, gE g (cA k) (f k)) := by
  have hk : k < N := by
    have h1 := (List.getElem?_eq_some_iff.mp h).1
    simpa [wsl] using h1
  rw [wsl_get hk] at h
  exact ⟨hk, (Option.some.inj h).symm⟩
theorem wsl_D {g : GC} {cA : Nat → ClassId} {N : Nat} {f : Nat → AC} : va_D (Ag g) (wsl g cA N f) := by
  refine ⟨fun i j p q hi hj hpq => ?_, fun k q hk => ?_⟩
  · obtain ⟨-, rfl⟩ := wsl_out hi
    obtain ⟨-, rfl⟩ := wsl_out hj
    simp at hpq
    exact hpq
  · obtain ⟨-, rfl⟩ := wsl_out hk
    exact Nat.le_add_right _ _
theorem wsl_set {g : GC} {cA : Nat → ClassId} {N k : Nat} {f : Nat → AC} {e : AC} (h : k < N) : (wsl g cA N f).set k (g.1 + k, gE g (cA k) e) = wsl g cA N (va_up f k e) := by
  apply List.ext_getElem?
  intro j
  rw [List.getElem?_set]
  by_cases hj : k = j
  · subst hj
    rw [if_pos rfl, if_pos (by simpa [wsl] using h), wsl_get h, va_up_self]
  · rw [if_neg hj]
    by_cases hjN : j < N
    · rw [wsl_get hjN, wsl_get hjN, va_up_ne _ _ (Ne.symm hj)]
    · rw [List.getElem?_eq_none (by simp [wsl]; omega), List.getElem?_eq_none (by simp [wsl]; omega)]
theorem wsl_push {g : GC} {cA : Nat → ClassId} {N : Nat} {f : Nat → AC} {c : ClassId} {e : AC} : wsl g cA N f ++ [(g.1 + N, gE g c e)] = wsl g (va_up cA N c) (N + 1) (va_up f N e) := by
  apply List.ext_getElem?
  intro j
  have hlen : (wsl g cA N f).length = N := by simp [wsl]
  by_cases hj : j < N
  · rw [List.getElem?_append_left (by omega), wsl_get hj, wsl_get (by omega), va_up_ne _ _ (by omega), va_up_ne _ _ (by omega)]
  · by_cases hj2 : j = N
    · subst hj2
      rw [List.getElem?_append_right (by omega), wsl_get (by omega), hlen, va_up_self, va_up_self]
      simp
    · rw [List.getElem?_eq_none (by simp [hlen]; omega), List.getElem?_eq_none (by simp [wsl]; omega)]
theorem Ar.up {s : State} {cA : Nat → ClassId} {N k : Nat} {f : Nat → AC} {e : AC} (h : Ar s cA N f) (he : ∀ (ty : FieldType) (x : vp_A), e = .inl (ty, x) → ∃ x', f k = .inl (ty, x')) : Ar s cA N (va_up f k e) := by
  intro j ty x hj hf
  by_cases hjk : j = k
  · subst hjk
    rw [va_up_self] at hf
    obtain ⟨x', hx⟩ := he ty x hf
    exact h j ty x' hj hx
  · rw [va_up_ne _ _ hjk] at hf
    exact h j ty x hj hf
theorem Ar.push {s : State} {cA : Nat → ClassId} {N : Nat} {f : Nat → AC} {e : AC} {c : ClassId} (h : Ar s cA N f) (he : ∀ (ty : FieldType) (x : vp_A), e = .inl (ty, x) → ArrOfT s c ty ∧ va_RA s c ty) : Ar s (va_up cA N c) (N + 1) (va_up f N e) := by
  intro j ty x hj hf
  by_cases hjk : j = N
  · subst hjk
    rw [va_up_self] at hf ⊢
    exact he ty x hf
  · rw [va_up_ne _ _ hjk] at hf ⊢
    exact h j ty x (by omega) hf
theorem Ar.moved {s t : State} {cA : Nat → ClassId} {N : Nat} {f : Nat → AC} (hvm : s.vm.Alike t.vm) (h : Ar s cA N f) : Ar t cA N f := fun k ty x hk hf => ⟨arrOfT_moved hvm (h k ty x hk hf).1, (h k ty x hk hf).2.moved hvm⟩
theorem Wd.moved {g : GC} {s t : State} {h : AH} {H : Heap} (hvm : s.vm.Alike t.vm) (hW : Wd g s h H) : Wd g t h H := by
  obtain ⟨h1, cA, h2, h3⟩ := hW
  exact ⟨h1, cA, h2, h3.moved hvm⟩
theorem Kn.K {g : GC} {s : State} (h : Kn g s) : va_K g.2.1 vwCl [] s := ⟨h.1, fun k q hq => by simp at hq⟩
theorem Kn.KA {g : GC} {s : State} {cA : ClassId} {ty : FieldType} (h : Kn g s) (hA : ArrOfT s cA ty ∧ va_RA s cA ty) : va_K g.2.1 vwCl [(cA, ty)] s := ⟨h.1, fun k q hq => by
  have hk : k < 1 := (List.getElem?_eq_some_iff.mp hq).1
  rw [show k = 0 by omega] at hq
  cases hq
  exact hA⟩
theorem Kn.moved {g : GC} {s t : State} (hvm : s.vm.Alike t.vm) (h : Kn g s) : Kn g t := ⟨fun c q hq => u_Kn_moved hvm (h.1 c q hq), h.2.1.moved hvm, h.2.2⟩
theorem Tx.warm {g : GC} {s t : State} (hW : s.WarmedH t.vm) (h : Tx g s) : Tx g t := by
  obtain ⟨⟨q, h1, h2⟩, h3⟩ := h
  exact ⟨⟨q, h1, h2.warm hW⟩, fun w hw => (h3 w hw).warmM hW⟩
theorem Sx.moved {g : GC} {sc : Nat × (Nat → Int32)} {s t : State} {H : Heap} (hvm : s.vm.Alike t.vm) (h : Sx g sc s H) : Sx g sc t H := by
  obtain ⟨⟨b, h1, h2, h3⟩, ⟨adK, adV, h4, h5, h6⟩, h7, h8⟩ := h
  exact ⟨⟨b, h1, h2, h3.moved hvm⟩, ⟨adK, adV, h4, h5, h6.moved hvm⟩, h7.moved hvm, h8.moved hvm⟩
theorem Sx.kept {g : GC} {sc : Nat × (Nat → Int32)} {s : State} {H H1 : Heap} {locs : List Loc} (h : Sx g sc s H) (hg : g.1 ≤ H.size) (hS : va_S (Ag g) H H1 locs) : Sx g sc s H1 := by
  obtain ⟨⟨b, h1, h2, h3⟩, ⟨adK, adV, h4, h5, h6⟩, h7, h8⟩ := h
  exact ⟨⟨b, h1, h2, h3.kept (hS.2.1 b (by omega) (by simp [Ag]; omega))⟩, ⟨adK, adV, h4, h5, h6.kept hS.2.1⟩, h7.kept hS.2.1, h8.kept hS.2.1⟩
