/-! THE MODEL'S READER: tokens told apart, what is open, what is written -/
theorem msg_tbl : ∀ c, c < 35 → 21 ≤ c → c ≠ 31 → msg c < 1000 ∧ msg c ≠ 44 := by decide +kernel
theorem msg_i2 : ∀ c, c < 35 → ∀ d, d < 35 → (21 ≤ c ∧ c ≠ 31 ∧ 21 ≤ d ∧ d ≠ 31 ∧ msg c = msg d) → c = d := by decide +kernel
theorem msg_inj (c : Nat) (h1 : c < 35) (h2 : 21 ≤ c) (h3 : c ≠ 31) (d : Nat) (g1 : d < 35) (g2 : 21 ≤ d) (g3 : d ≠ 31) (e : msg c = msg d) : c = d := msg_i2 c h1 d g1 ⟨h2, h3, g2, g3, e⟩
theorem mcc_inj : ∀ v, v < 21 → ∀ w, w < 21 → mcc v = mcc w → v = w := by decide +kernel
theorem mcc_lt {w : Nat} (h : w < 21) : mcc w < 21 := (mk_ok w h).2.2
theorem tk_sg {t c : Nat} {so to : Int32} (h : TkM t so to) (h1 : 21 ≤ c) (h2 : c ≤ 34) (h3 : c ≠ 31) : (so = 3 ∧ to = nI (msg c)) ↔ t = c := by
  constructor
  · intro ⟨e1, e2⟩
    rcases h with ⟨-, q⟩ | ⟨-, q, -⟩ | ⟨w, -, -, q, -⟩ | ⟨g1, g2, g3, -, q⟩ | ⟨-, q | ⟨-, q⟩⟩
    · exact absurd (q.symm.trans e1) (by decide)
    · exact absurd (q.symm.trans e1) (by decide)
    · exact absurd (q.symm.trans e1) (by decide)
    · have m1 := (msg_tbl t (by omega) g1 g3).1
      have m2 := (msg_tbl c (by omega) h1 h3).1
      exact msg_inj t (by omega) g1 g3 c (by omega) h1 h3 ((nI_eq (by omega) (by omega)).mp (q.symm.trans e2))
    · exact absurd (q.symm.trans e1) (by decide)
    · have m2 := msg_tbl c (by omega) h1 h3
      exact absurd ((nI_eq (a := 44) (by decide) (by omega)).mp (q.symm.trans e2)).symm m2.2
  · rintro rfl
    rcases h with ⟨q, -⟩ | ⟨q, -⟩ | ⟨w, hw, q, -⟩ | ⟨-, -, -, q1, q2⟩ | ⟨q, -⟩
    · omega
    · omega
    · have := mcc_lt hw; omega
    · exact ⟨q1, q2⟩
    · omega
theorem tk_wd {t w : Nat} {so to : Int32} (h : TkM t so to) (hw : w < 21) : (so = 1 ∧ to = nI w) ↔ t = mcc w := by
  have hm := mcc_lt hw
  constructor
  · intro ⟨e1, e2⟩
    rcases h with ⟨-, q⟩ | ⟨-, q, -⟩ | ⟨v, hv, e, q, q2⟩ | ⟨g1, g2, g3, q, -⟩ | ⟨-, q | ⟨q, -⟩⟩
    · exact absurd (q.symm.trans e1) (by decide)
    · exact absurd (q.symm.trans e1) (by decide)
    · rw [e, (nI_eq (by omega) (by omega)).mp (q2.symm.trans e2)]
    · exact absurd (q.symm.trans e1) (by decide)
    · exact absurd (q.symm.trans e1) (by decide)
    · exact absurd (q.symm.trans e1) (by decide)
  · intro e
    rcases h with ⟨q, -⟩ | ⟨q, -⟩ | ⟨v, hv, e9, q1, q2⟩ | ⟨q, -⟩ | ⟨q, -⟩
    · omega
    · omega
    · exact ⟨q1, by rw [q2, mcc_inj v hv w hw (e9.symm.trans e)]⟩
    · omega
    · omega
theorem tk_num {t : Nat} {so to : Int32} (h : TkM t so to) : so = 2 ↔ 100 ≤ t := by
  rcases h with ⟨e, q⟩ | ⟨e, q, -⟩ | ⟨v, hv, e, q, -⟩ | ⟨g1, g2, g3, q, -⟩ | ⟨e, q | ⟨q, -⟩⟩
  · rw [q]; exact ⟨fun z => absurd z (by decide), fun z => by omega⟩
  · rw [q]; exact ⟨fun _ => e, fun _ => rfl⟩
  · have := mcc_lt hv
    rw [q]; exact ⟨fun z => absurd z (by decide), fun z => by omega⟩
  · rw [q]; exact ⟨fun z => absurd z (by decide), fun z => by omega⟩
  · rw [q]; exact ⟨fun z => absurd z (by decide), fun z => by omega⟩
  · rw [q]; exact ⟨fun z => absurd z (by decide), fun z => by omega⟩
theorem tk_word {t : Nat} {so to : Int32} (h : TkM t so to) : so = 1 ↔ t < 21 := by
  rcases h with ⟨e, q⟩ | ⟨e, q, -⟩ | ⟨v, hv, e, q, -⟩ | ⟨g1, g2, g3, q, -⟩ | ⟨e, q | ⟨q, -⟩⟩
  · rw [q]; exact ⟨fun z => absurd z (by decide), fun z => by omega⟩
  · rw [q]; exact ⟨fun z => absurd z (by decide), fun z => by omega⟩
  · have := mcc_lt hv
    rw [q]; exact ⟨fun _ => by omega, fun _ => rfl⟩
  · rw [q]; exact ⟨fun z => absurd z (by decide), fun z => by omega⟩
  · rw [q]; exact ⟨fun z => absurd z (by decide), fun z => by omega⟩
  · rw [q]; exact ⟨fun z => absurd z (by decide), fun z => by omega⟩
theorem tk_sign {t : Nat} {so to : Int32} (h : TkM t so to) (hs : so = 3) : (21 ≤ t ∧ t ≤ 34 ∧ t ≠ 31 ∧ to = nI (msg t)) ∨ (t = 36 ∧ to = 44) := by
  rcases h with ⟨e, q⟩ | ⟨e, q, -⟩ | ⟨v, hv, e, q, -⟩ | ⟨g1, g2, g3, q, g4⟩ | ⟨e, q | ⟨q, g⟩⟩
  · exact absurd (q.symm.trans hs) (by decide)
  · exact absurd (q.symm.trans hs) (by decide)
  · exact absurd (q.symm.trans hs) (by decide)
  · exact Or.inl ⟨g1, g2, g3, g4⟩
  · exact absurd (q.symm.trans hs) (by decide)
  · exact Or.inr ⟨e, g⟩
theorem tk_end {t : Nat} {so to : Int32} (h : TkM t so to) : so = 0 ↔ t = 35 := by
  rcases h with ⟨e, q⟩ | ⟨e, q, -⟩ | ⟨v, hv, e, q, -⟩ | ⟨g1, g2, g3, q, -⟩ | ⟨e, q | ⟨q, -⟩⟩
  · rw [q]; exact ⟨fun _ => e, fun _ => rfl⟩
  · rw [q]; exact ⟨fun z => absurd z (by decide), fun z => by omega⟩
  · have := mcc_lt hv
    rw [q]; exact ⟨fun z => absurd z (by decide), fun z => by omega⟩
  · rw [q]; exact ⟨fun z => absurd z (by decide), fun z => by omega⟩
  · rw [q]; exact ⟨fun z => absurd z (by decide), fun z => by omega⟩
  · rw [q]; exact ⟨fun z => absurd z (by decide), fun z => by omega⟩
theorem encO_msg : ∀ c, c < 31 → 21 ≤ c → encO c = msg c := by decide +kernel
/-- how many wait in all -/
def nW : LV → Nat
  | [] => 0
  | (_, w) :: r => w.length + nW r
def mfr (f : Nat) : Nat := if 21 ≤ f then 5 else f
def MW (wa wf : Nat → Int32) (d : Nat) : List Nat → Nat → Prop
  | [], _ => True
  | x :: w, b => wa (b + w.length) = nI (encO x) ∧ wf (b + w.length) = nI d ∧ MW wa wf d w b
def MGp (fr cm wa wf : Nat → Int32) : LV → Prop
  | [] => True
  | (f, w) :: r => fr r.length = nI (mfr f) ∧ (21 ≤ f → cm (r.length + 1) = nI (encO f)) ∧ MW wa wf (r.length + 1) w (nW r) ∧ MGp fr cm wa wf r
theorem MW.up {wa wf : Nat → Int32} {d : Nat} {i j : Nat} {x y : Int32} : ∀ {w : List Nat} {b : Nat}, MW wa wf d w b → b + w.length ≤ i → b + w.length ≤ j → MW (va_up wa i x) (va_up wf j y) d w b
  | [], _, _, _, _ => trivial
  | v :: w, b, h, hi, hj => ⟨by rw [va_up_ne _ _ (by simp at hi; omega)]; exact h.1, by rw [va_up_ne _ _ (by simp at hj; omega)]; exact h.2.1, MW.up h.2.2 (by simp at hi; omega) (by simp at hj; omega)⟩
theorem MGp.upw {fr cm wa wf : Nat → Int32} {i j : Nat} {x y : Int32} : ∀ {G : LV}, MGp fr cm wa wf G → nW G ≤ i → nW G ≤ j → MGp fr cm (va_up wa i x) (va_up wf j y) G
  | [], _, _, _ => trivial
  | (f, w) :: r, h, hi, hj => ⟨h.1, h.2.1, h.2.2.1.up (by simp only [nW] at hi; omega) (by simp only [nW] at hj; omega), MGp.upw h.2.2.2 (by simp only [nW] at hi; omega) (by simp only [nW] at hj; omega)⟩
theorem MGp.upf {fr cm wa wf : Nat → Int32} {i j : Nat} {x y : Int32} : ∀ {G : LV}, MGp fr cm wa wf G → G.length ≤ i → G.length < j → MGp (va_up fr i x) (va_up cm j y) wa wf G
  | [], _, _, _ => trivial
  | (f, w) :: r, h, hi, hj => ⟨by rw [va_up_ne _ _ (by simp at hi; omega)]; exact h.1, fun hf => by rw [va_up_ne _ _ (by simp at hj; omega)]; exact h.2.1 hf, h.2.2.1, MGp.upf h.2.2.2 (by simp at hi; omega) (by simp at hj; omega)⟩
theorem MGp.upf1 {fr cm wa wf : Nat → Int32} {i : Nat} {x : Int32} : ∀ {G : LV}, MGp fr cm wa wf G → G.length ≤ i → MGp (va_up fr i x) cm wa wf G
  | [], _, _ => trivial
  | (f, w) :: r, h, hi => ⟨by rw [va_up_ne _ _ (by simp at hi; omega)]; exact h.1, h.2.1, h.2.2.1, MGp.upf1 h.2.2.2 (by simp at hi; omega)⟩
/-- where a clause's orders begin -/
def mtt (kd : Nat → Nat) (cd : Nat → List Nat) (n : Nat) : Nat := sm (fun j => if 16 ≤ kd j then (cd j).length + 1 else 0) n
theorem mtt_S {kd : Nat → Nat} {cd : Nat → List Nat} {n : Nat} : mtt kd cd (n + 1) = mtt kd cd n + (if 16 ≤ kd n then (cd n).length + 1 else 0) := rfl
theorem mtt_le {kd : Nat → Nat} {cd : Nat → List Nat} : ∀ {n m : Nat}, n ≤ m → mtt kd cd n ≤ mtt kd cd m
  | n, 0, h => by rw [Nat.le_zero.mp h]; exact Nat.le_refl _
  | n, m + 1, h => by
    by_cases e : n = m + 1
    · rw [e]; exact Nat.le_refl _
    · have := mtt_le (kd := kd) (cd := cd) (n := n) (m := m) (by omega)
      rw [mtt_S]; omega
theorem mtt_tot {kd : Nat → Nat} {cd : Nat → List Nat} : ∀ n, mtt kd cd n ≤ tot cd n + n
  | 0 => Nat.le_refl _
  | n + 1 => by
    have := mtt_tot (kd := kd) (cd := cd) n
    rw [mtt_S, tot_S]; split <;> omega
theorem mtt_cong {k k' : Nat → Nat} {c c' : Nat → List Nat} {n : Nat} (h : ∀ j, j < n → k j = k' j ∧ c j = c' j) : mtt k c n = mtt k' c' n := sm_cong (fun j hj => by rw [(h j hj).1, (h j hj).2])
/-- some of a clause's orders, from a place on -/
def CLp (no nv : Nat → Int32) (s : Nat) (c : List Nat) : Prop := ∀ (j v : Nat), c[j]? = some v → no (s + j) = nI (encO v) ∧ (100 ≤ v → nv (s + j) = nI (v - 100)) ∧ (v < 11 → nv (s + j) = nI v)
/-- what the model has read: nd clauses, and, cur, one more that goes on -/
def MN (h : AH) (nd : Nat) (cur : Bool) (kd : Nat → Nat) (cd : Nat → List Nat) (my ne : Int32) (r : Nat) : Prop := ∃ nw nn na no nv : Nat → Int32, Hs h 80 (aI 10 nw) ∧ Hs h 81 (aI 10 nn) ∧ Hs h 82 (aI 10 na) ∧ Hs h 83 (aI 400 no) ∧ Hs h 84 (aI 400 nv) ∧
  (∀ i, i < nd → nw i = nI (kd i - 14) ∧ (kd i = 14 → nn i = my) ∧ (kd i = 15 → nn i = ne) ∧ (16 ≤ kd i → na i = nI (mtt kd cd i) ∧ no (mtt kd cd i + (cd i).length) = 408 ∧ CLp no nv (mtt kd cd i) (cd i))) ∧
  r = mtt kd cd nd + (if cur then (cd nd).length else 0) ∧ (cur = true → nw nd = nI (kd nd - 14) ∧ na nd = nI (mtt kd cd nd) ∧ CLp no nv (mtt kd cd nd) (cd nd))
def MGs (h : AH) (G : LV) : Prop := ∃ fr cm wa wf : Nat → Int32, Hs h 76 (aI 40 fr) ∧ Hs h 77 (aI 41 cm) ∧ Hs h 78 (aI 80 wa) ∧ Hs h 79 (aI 80 wf) ∧ MGp fr cm wa wf G
/-- the model's own fields, while it reads -/
def MdP (h : AH) (tb : Nat → Nat) (L s : Nat) (wr wp : Int32) (op fs ws nd r : Nat) (st nk : Int32) : Prop := ∃ (so to mfl mfa mdn : Int32) (mup mlo mgu mgl : Int64), Hs h 66 (oMd 0 mfl mfa mup mlo (nI L) (nI (tok tb L s).2) (nI s) so to wr wp (nI op) (nI fs) (nI ws) st (nI nd) nk (nI r) mdn mgu mgl) ∧ TkM (tok tb L s).1 so to
theorem MN.fr {S : List Nat} {h h' : AH} {nd : Nat} {cur : Bool} {kd : Nat → Nat} {cd : Nat → List Nat} {my ne : Int32} {r : Nat} (T : MN h nd cur kd cd my ne r) (F : Fr S h h') (hS : ∀ x, x ∈ S → x < 80) : MN h' nd cur kd cd my ne r := by
  obtain ⟨a, b, c, d, e, h1, h2, h3, h4, h5, h6⟩ := T
  exact ⟨a, b, c, d, e, F.hs h1 (fun z => by have := hS _ z; omega), F.hs h2 (fun z => by have := hS _ z; omega), F.hs h3 (fun z => by have := hS _ z; omega), F.hs h4 (fun z => by have := hS _ z; omega), F.hs h5 (fun z => by have := hS _ z; omega), h6⟩
theorem MGs.fr {S : List Nat} {h h' : AH} {G : LV} (T : MGs h G) (F : Fr S h h') (hS : ∀ x, x ∈ S → x < 76 ∨ 79 < x) : MGs h' G := by
  obtain ⟨a, b, c, d, h1, h2, h3, h4, h6⟩ := T
  exact ⟨a, b, c, d, F.hs h1 (fun z => by have := hS _ z; omega), F.hs h2 (fun z => by have := hS _ z; omega), F.hs h3 (fun z => by have := hS _ z; omega), F.hs h4 (fun z => by have := hS _ z; omega), h6⟩
theorem CLp_app {no nv : Nat → Int32} {s : Nat} {c : List Nat} {t : Nat} {o v : Int32} (h : CLp no nv s c) (ho : o = nI (encO t)) (h1 : 100 ≤ t → v = nI (t - 100)) (h2 : t < 11 → v = nI t) : CLp (va_up no (s + c.length) o) (va_up nv (s + c.length) v) s (c ++ [t]) := by
  intro j x hj
  by_cases e : j < c.length
  · rw [List.getElem?_append_left e] at hj
    rw [va_up_ne _ _ (by omega), va_up_ne _ _ (by omega)]
    exact h j x hj
  · rw [List.getElem?_append_right (by omega)] at hj
    have hj0 : j - c.length = 0 := by
      have := (List.getElem?_eq_some_iff.mp hj).1
      simpa using this
    rw [hj0] at hj
    have hx : t = x := by simpa using hj
    subst hx
    rw [show s + j = s + c.length by omega, va_up_self, va_up_self]
    exact ⟨ho, h1, h2⟩
theorem CLp_far {no nv : Nat → Int32} {s i : Nat} {c : List Nat} {o v : Int32} (h : CLp no nv s c) (hi : s + c.length ≤ i) : CLp (va_up no i o) (va_up nv i v) s c := by
  intro j x hj
  have := (List.getElem?_eq_some_iff.mp hj).1
  rw [va_up_ne _ _ (by omega), va_up_ne _ _ (by omega)]
  exact h j x hj
/-- one order more -/
theorem MN_emit {nd r t : Nat} {kd : Nat → Nat} {cd : Nat → List Nat} {my ne o v : Int32} {nw nn na no nv : Nat → Int32} (h6 : ∀ i, i < nd → nw i = nI (kd i - 14) ∧ (kd i = 14 → nn i = my) ∧ (kd i = 15 → nn i = ne) ∧ (16 ≤ kd i → na i = nI (mtt kd cd i) ∧ no (mtt kd cd i + (cd i).length) = 408 ∧ CLp no nv (mtt kd cd i) (cd i))) (hr : r = mtt kd cd nd + (cd nd).length) (h7 : nw nd = nI (kd nd - 14) ∧ na nd = nI (mtt kd cd nd) ∧ CLp no nv (mtt kd cd nd) (cd nd)) (ho : o = nI (encO t)) (h1 : 100 ≤ t → v = nI (t - 100)) (h2 : t < 11 → v = nI t) :
    (∀ i, i < nd → nw i = nI (kd i - 14) ∧ (kd i = 14 → nn i = my) ∧ (kd i = 15 → nn i = ne) ∧ (16 ≤ kd i → na i = nI (mtt kd (cdA cd (nd + 1) [t]) i) ∧ va_up no r o (mtt kd (cdA cd (nd + 1) [t]) i + (cdA cd (nd + 1) [t] i).length) = 408 ∧ CLp (va_up no r o) (va_up nv r v) (mtt kd (cdA cd (nd + 1) [t]) i) (cdA cd (nd + 1) [t] i))) ∧
    r + 1 = mtt kd (cdA cd (nd + 1) [t]) nd + (cdA cd (nd + 1) [t] nd).length ∧ nw nd = nI (kd nd - 14) ∧ na nd = nI (mtt kd (cdA cd (nd + 1) [t]) nd) ∧ CLp (va_up no r o) (va_up nv r v) (mtt kd (cdA cd (nd + 1) [t]) nd) (cdA cd (nd + 1) [t] nd) := by
  have hc : ∀ i, i < nd → cdA cd (nd + 1) [t] i = cd i := fun i hi => cdA_ne (by omega)
  have hm : ∀ i, i ≤ nd → mtt kd (cdA cd (nd + 1) [t]) i = mtt kd cd i := fun i hi => mtt_cong (fun j hj => ⟨rfl, hc j (by omega)⟩)
  have hn : cdA cd (nd + 1) [t] nd = cd nd ++ [t] := by simp only [cdA]; rw [if_pos trivial]
  rw [hm nd (Nat.le_refl _), hn]
  refine ⟨fun i hi => ?_, by rw [hr]; simp; omega, h7.1, h7.2.1, ?_⟩
  · obtain ⟨q1, q2, q3, q4⟩ := h6 i hi
    refine ⟨q1, q2, q3, fun hk => ?_⟩
    obtain ⟨q5, q6, q7⟩ := q4 hk
    have hlt : mtt kd cd i + ((cd i).length + 1) ≤ mtt kd cd nd := by
      have := mtt_le (kd := kd) (cd := cd) (n := i + 1) (m := nd) (by omega)
      rw [mtt_S, if_pos hk] at this; exact this
    rw [hm i (by omega), hc i hi]
    exact ⟨q5, by rw [va_up_ne _ _ (by omega)]; exact q6, CLp_far q7 (by omega)⟩
  · rw [hr]; exact CLp_app h7.2.2 ho h1 h2
