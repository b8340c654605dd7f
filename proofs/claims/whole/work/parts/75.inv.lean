/-! THE LAW'S INVARIANT: what the two objects hold -/
abbrev Cn : Type := Nat × Nat × Nat × Nat × Nat × Nat × Nat × Nat × (Nat → Int32)
abbrev Cn.N (s : Cn) : Nat := s.1
abbrev Cn.n (s : Cn) : Nat := s.2.1
abbrev Cn.tcn (s : Cn) : Nat := s.2.2.1
abbrev Cn.nl (s : Cn) : Nat := s.2.2.2.1
abbrev Cn.ns (s : Cn) : Nat := s.2.2.2.2.1
abbrev Cn.cst (s : Cn) : Nat := s.2.2.2.2.2.1
abbrev Cn.S0 (s : Cn) : Nat := s.2.2.2.2.2.2.1
abbrev Cn.co (s : Cn) : Nat := s.2.2.2.2.2.2.2.1
abbrev Cn.an (s : Cn) : Nat → Int32 := s.2.2.2.2.2.2.2.2
abbrev Cn.mk (N : Nat) (n : Nat) (tcn : Nat) (nl : Nat) (ns : Nat) (cst : Nat) (S0 : Nat) (co : Nat) (an : Nat → Int32) : Cn := (N, n, tcn, nl, ns, cst, S0, co, an)
abbrev Da : Type := (Nat → Nat → Nat) × (Nat → Nat) × (Nat → Nat) × (Nat → Nat) × (Nat → Int32) × (Nat → Nat) × (Nat → Nat) × (Nat → Int) × (Nat → Int) × (Nat → Nat × (Nat → Nat) × (Nat → List Nat) × Int32 × Int32)
abbrev Da.ca (s : Da) : Nat → Nat → Nat := s.1
abbrev Da.ki (s : Da) : Nat → Nat := s.2.1
abbrev Da.ag (s : Da) : Nat → Nat := s.2.2.1
abbrev Da.pr (s : Da) : Nat → Nat := s.2.2.2.1
abbrev Da.le (s : Da) : Nat → Int32 := s.2.2.2.2.1
abbrev Da.lf (s : Da) : Nat → Nat := s.2.2.2.2.2.1
abbrev Da.lt (s : Da) : Nat → Nat := s.2.2.2.2.2.2.1
abbrev Da.lo (s : Da) : Nat → Int := s.2.2.2.2.2.2.2.1
abbrev Da.hi (s : Da) : Nat → Int := s.2.2.2.2.2.2.2.2.1
abbrev Da.tx (s : Da) : Nat → Nat × (Nat → Nat) × (Nat → List Nat) × Int32 × Int32 := s.2.2.2.2.2.2.2.2.2
abbrev Da.mk (ca : Nat → Nat → Nat) (ki : Nat → Nat) (ag : Nat → Nat) (pr : Nat → Nat) (le : Nat → Int32) (lf : Nat → Nat) (lt : Nat → Nat) (lo : Nat → Int) (hi : Nat → Int) (tx : Nat → Nat × (Nat → Nat) × (Nat → List Nat) × Int32 × Int32) : Da := (ca, ki, ag, pr, le, lf, lt, lo, hi, tx)
abbrev Gh : Type := Cn × Cn × Da × Nat × (Nat → Nat) × Int32 × Int32
abbrev Gh.c (s : Gh) : Cn := s.1
abbrev Gh.k (s : Gh) : Cn := s.2.1
abbrev Gh.d (s : Gh) : Da := s.2.2.1
abbrev Gh.L (s : Gh) : Nat := s.2.2.2.1
abbrev Gh.tb (s : Gh) : Nat → Nat := s.2.2.2.2.1
abbrev Gh.fa (s : Gh) : Int32 := s.2.2.2.2.2.1
abbrev Gh.fp (s : Gh) : Int32 := s.2.2.2.2.2.2
abbrev Gh.mk (c : Cn) (k : Cn) (d : Da) (L : Nat) (tb : Nat → Nat) (fa : Int32) (fp : Int32) : Gh := (c, k, d, L, tb, fa, fp)
def CnOK (c : Cn) (d : Da) : Prop := (c.N ≤ 14) ∧ (c.n ≤ 12) ∧ (c.tcn ≤ 6) ∧ (c.nl ≤ 20) ∧ (c.ns ≤ 8) ∧ (1 ≤ c.cst ∧ c.cst ≤ 9999) ∧ (c.S0 < 2 ^ c.N) ∧ (c.co < 2 ^ c.N) ∧ (∀ x k, x < c.N → k < 4 → d.ca x k ≤ 99) ∧ (∀ t, t < c.n → d.ki t ≤ 3 ∧ d.ag t ≤ 99 ∧ d.pr t ≤ 999 ∧ (d.le t = 0 ∨ d.le t = 1)) ∧ (∀ t, t < 12 → ∀ x, x < 14 → c.an (t * 14 + x) = -1 ∨ ∃ v, v ≤ 99 ∧ c.an (t * 14 + x) = nI v) ∧ (∀ t, t < 12 → ∀ x, x < 14 → (c.n ≤ t ∨ c.N ≤ x) → c.an (t * 14 + x) = -1) ∧ (∀ i, i < c.nl → d.lf i < c.n ∧ d.lt i < c.n ∧ d.ag (d.lf i) < d.ag (d.lt i)) ∧ (∀ j, j < c.ns → (-200 ≤ d.lo j ∧ d.lo j ≤ 200) ∧ -200 ≤ d.hi j ∧ d.hi j ≤ 200) ∧ (∀ t, t < c.tcn → okT (d.tx t).1 (d.tx t).2.1 (d.tx t).2.2.1 ∧ ∀ i, i < (d.tx t).1 → ∀ j, j < (d.tx t).1 → (d.tx t).2.1 i = 16 → (d.tx t).2.1 j = 16 → i = j)
theorem CnOK.hN {c : Cn} {d : Da} (X : CnOK c d) : c.N ≤ 14 := X.1
theorem CnOK.hn {c : Cn} {d : Da} (X : CnOK c d) : c.n ≤ 12 := X.2.1
theorem CnOK.htc {c : Cn} {d : Da} (X : CnOK c d) : c.tcn ≤ 6 := X.2.2.1
theorem CnOK.hnl {c : Cn} {d : Da} (X : CnOK c d) : c.nl ≤ 20 := X.2.2.2.1
theorem CnOK.hns {c : Cn} {d : Da} (X : CnOK c d) : c.ns ≤ 8 := X.2.2.2.2.1
theorem CnOK.hcst {c : Cn} {d : Da} (X : CnOK c d) : 1 ≤ c.cst ∧ c.cst ≤ 9999 := X.2.2.2.2.2.1
theorem CnOK.hS0 {c : Cn} {d : Da} (X : CnOK c d) : c.S0 < 2 ^ c.N := X.2.2.2.2.2.2.1
theorem CnOK.hco {c : Cn} {d : Da} (X : CnOK c d) : c.co < 2 ^ c.N := X.2.2.2.2.2.2.2.1
theorem CnOK.hca {c : Cn} {d : Da} (X : CnOK c d) : ∀ x k, x < c.N → k < 4 → d.ca x k ≤ 99 := X.2.2.2.2.2.2.2.2.1
theorem CnOK.hth {c : Cn} {d : Da} (X : CnOK c d) : ∀ t, t < c.n → d.ki t ≤ 3 ∧ d.ag t ≤ 99 ∧ d.pr t ≤ 999 ∧ (d.le t = 0 ∨ d.le t = 1) := X.2.2.2.2.2.2.2.2.2.1
theorem CnOK.hV {c : Cn} {d : Da} (X : CnOK c d) : ∀ t, t < 12 → ∀ x, x < 14 → c.an (t * 14 + x) = -1 ∨ ∃ v, v ≤ 99 ∧ c.an (t * 14 + x) = nI v := X.2.2.2.2.2.2.2.2.2.2.1
theorem CnOK.hZ {c : Cn} {d : Da} (X : CnOK c d) : ∀ t, t < 12 → ∀ x, x < 14 → (c.n ≤ t ∨ c.N ≤ x) → c.an (t * 14 + x) = -1 := X.2.2.2.2.2.2.2.2.2.2.2.1
theorem CnOK.hlk {c : Cn} {d : Da} (X : CnOK c d) : ∀ i, i < c.nl → d.lf i < c.n ∧ d.lt i < c.n ∧ d.ag (d.lf i) < d.ag (d.lt i) := X.2.2.2.2.2.2.2.2.2.2.2.2.1
theorem CnOK.hld {c : Cn} {d : Da} (X : CnOK c d) : ∀ j, j < c.ns → (-200 ≤ d.lo j ∧ d.lo j ≤ 200) ∧ -200 ≤ d.hi j ∧ d.hi j ≤ 200 := X.2.2.2.2.2.2.2.2.2.2.2.2.2.1
theorem CnOK.htx {c : Cn} {d : Da} (X : CnOK c d) : ∀ t, t < c.tcn → okT (d.tx t).1 (d.tx t).2.1 (d.tx t).2.2.1 ∧ ∀ i, i < (d.tx t).1 → ∀ j, j < (d.tx t).1 → (d.tx t).2.1 i = 16 → (d.tx t).2.1 j = 16 → i = j := X.2.2.2.2.2.2.2.2.2.2.2.2.2.2
def DaEq (c : Cn) (d d' : Da) : Prop := (∀ x k, x < c.N → k < 4 → d'.ca x k = d.ca x k) ∧ (∀ t, t < c.n → d'.ki t = d.ki t ∧ d'.ag t = d.ag t ∧ d'.pr t = d.pr t ∧ d'.le t = d.le t) ∧ (∀ i, i < c.nl → d'.lf i = d.lf i ∧ d'.lt i = d.lt i) ∧ (∀ j, j < c.ns → d'.lo j = d.lo j ∧ d'.hi j = d.hi j) ∧ (∀ t, t < c.tcn → d'.tx t = d.tx t)
theorem DaEq.ca {c : Cn} {d d' : Da} (X : DaEq c d d') : ∀ x k, x < c.N → k < 4 → d'.ca x k = d.ca x k := X.1
theorem DaEq.th {c : Cn} {d d' : Da} (X : DaEq c d d') : ∀ t, t < c.n → d'.ki t = d.ki t ∧ d'.ag t = d.ag t ∧ d'.pr t = d.pr t ∧ d'.le t = d.le t := X.2.1
theorem DaEq.lk {c : Cn} {d d' : Da} (X : DaEq c d d') : ∀ i, i < c.nl → d'.lf i = d.lf i ∧ d'.lt i = d.lt i := X.2.2.1
theorem DaEq.ld {c : Cn} {d d' : Da} (X : DaEq c d d') : ∀ j, j < c.ns → d'.lo j = d.lo j ∧ d'.hi j = d.hi j := X.2.2.2.1
theorem DaEq.tx {c : Cn} {d d' : Da} (X : DaEq c d d') : ∀ t, t < c.tcn → d'.tx t = d.tx t := X.2.2.2.2
theorem CnOK.cong {c : Cn} {d d' : Da} (K : CnOK c d) (e : DaEq c d d') : CnOK c d' :=
  ⟨K.hN, K.hn, K.htc, K.hnl, K.hns, K.hcst, K.hS0, K.hco, fun x k hx hk => by rw [e.ca x k hx hk]; exact K.hca x k hx hk,
    fun t ht => by obtain ⟨h1, h2, h3, h4⟩ := e.th t ht; rw [h1, h2, h3, h4]; exact K.hth t ht, K.hV, K.hZ,
    fun i hi => by obtain ⟨h1, h2⟩ := e.lk i hi; obtain ⟨q1, q2, q3⟩ := K.hlk i hi; rw [h1, h2, (e.th _ q1).2.1, (e.th _ q2).2.1]; exact ⟨q1, q2, q3⟩,
    fun j hj => by obtain ⟨h1, h2⟩ := e.ld j hj; rw [h1, h2]; exact K.hld j hj, fun t ht => by rw [e.tx t ht]; exact K.htx t ht⟩
def GhOK (g : Gh) : Prop := (CnOK g.c g.d) ∧ (CnOK g.k g.d) ∧ (g.k.N ≤ g.c.N ∧ g.k.n ≤ g.c.n ∧ g.k.tcn ≤ g.c.tcn ∧ g.k.nl ≤ g.c.nl ∧ g.k.ns ≤ g.c.ns) ∧ (g.L ≤ 300) ∧ (∀ i, i < 300 → g.tb i < 256)
theorem GhOK.c {g : Gh} (X : GhOK g) : CnOK g.c g.d := X.1
theorem GhOK.k {g : Gh} (X : GhOK g) : CnOK g.k g.d := X.2.1
theorem GhOK.le {g : Gh} (X : GhOK g) : g.k.N ≤ g.c.N ∧ g.k.n ≤ g.c.n ∧ g.k.tcn ≤ g.c.tcn ∧ g.k.nl ≤ g.c.nl ∧ g.k.ns ≤ g.c.ns := X.2.2.1
theorem GhOK.L {g : Gh} (X : GhOK g) : g.L ≤ 300 := X.2.2.2.1
theorem GhOK.tb {g : Gh} (X : GhOK g) : ∀ i, i < 300 → g.tb i < 256 := X.2.2.2.2
/-- the class's cells -/
def ThC (h : AH) (n : Nat) (an le : Nat → Int32) (ki ag pr : Nat → Nat) : Prop := ∃ ks gs ps : Nat → Int32, Hs h 6 (oTh (nI n)) ∧ Hs h 7 (aI 12 ks) ∧ Hs h 8 (aI 12 gs) ∧ Hs h 9 (aZ 12 le) ∧ Hs h 10 (aI 12 ps) ∧ Hs h 11 (aI 168 an) ∧ ∀ t, t < n → ks t = nI (ki t) ∧ gs t = nI (ag t) ∧ ps t = nI (pr t)
def LkC (h : AH) (nl : Nat) (lf lt : Nat → Nat) : Prop := ∃ (a b : Nat) (fr to g1 g2 : Nat → Int32) (lfew lways : Int32), (a = 15 ∧ b = 16 ∨ a = 16 ∧ b = 15) ∧ Hs h 12 (oLk a b (nI nl) lfew lways) ∧ Hs h 13 (aI 20 fr) ∧ Hs h 14 (aI 20 to) ∧ Hs h a (aI 12 g1) ∧ Hs h b (aI 12 g2) ∧ ∀ i, i < nl → fr i = nI (lf i) ∧ to i = nI (lt i)
def LdC (h : AH) (ns : Nat) (lo hi : Nat → Int) : Prop := ∃ l u : Nat → Int32, Hs h 17 (oLd (nI ns)) ∧ Hs h 18 (aI 8 l) ∧ Hs h 19 (aI 8 u) ∧ ∀ j, j < ns → l j = Int32.ofInt (lo j) ∧ u j = Int32.ofInt (hi j)
def RwC (h : AH) : Prop := ∃ tx : Nat → Option Nat, Hs h 20 (aT 6 tx) ∧ ∀ t, t < 6 → tx t = some (42 + 4 * t)
def TpC (h : AH) (tb : Nat → Nat) : Prop := ∃ tp : Nat → Int32, Hs h 21 (aI 300 tp) ∧ ∀ k, k < 300 → tp k = nI (tb k)
def TtC (h : AH) (tcn : Nat) (tx : Nat → Nat × (Nat → Nat) × (Nat → List Nat) × Int32 × Int32) : Prop := (∀ t, t < 6 → TxB h t) ∧ ∀ t, t < tcn → TxW h t (tx t).1 (tx t).2.1 (tx t).2.2.1 (tx t).2.2.2.1 (tx t).2.2.2.2
def dlT (ca : Nat → Nat → Nat) (N : Nat) (x : Nat × (Nat → Nat) × (Nat → List Nat) × Int32 × Int32) : List Nat := DLs ca N x.1 x.2.1 x.2.2.1 x.2.2.2.1 x.2.2.2.2
def DeC (h : AH) (drn : Nat) (ca : Nat → Nat → Nat) (N tcn : Nat) (tx : Nat → Nat × (Nat → Nat) × (Nat → List Nat) × Int32 × Int32) : Prop := ∃ (dt : Int32) (L0 : List Nat), DeX h dt drn L0 ∧ (dt = -1 ∨ ∃ tp, tp < tcn ∧ dt = nI tp ∧ L0 = dlT ca N (tx tp)) ∧ ∃ m, m ≤ 14 ∧ drn = 2 ^ m
def FaC (h : AH) : Prop := ∃ fs : Nat → Int32, Hs h 39 (aI 12 fs)
def ImC (h : AH) (k : Cn) : Prop := Hs h 40 (oIm (nI k.N) (nI k.co) (nI k.S0) (nI k.n) (nI k.tcn) (nI k.nl) (nI k.ns) (nI k.cst)) ∧ Hs h 41 (aI 168 k.an)
def InvC (h : AH) (g : Gh) (drn : Nat) : Prop := (92 < h.2.1) ∧ (Hs h 0 (oMC (nI g.c.tcn) (nI g.L) g.fa g.fp (nI g.c.cst))) ∧ (ChC h g.c.N g.d.ca (nI g.c.co) (nI g.c.S0)) ∧ (ThC h g.c.n g.c.an g.d.le g.d.ki g.d.ag g.d.pr) ∧ (LkC h g.c.nl g.d.lf g.d.lt) ∧ (LdC h g.c.ns g.d.lo g.d.hi) ∧ (RwC h) ∧ (TpC h g.tb) ∧ (TtC h g.c.tcn g.d.tx) ∧ (RdA h) ∧ (∃ nms, JuC h nms) ∧ (DeC h drn g.d.ca g.c.N g.c.tcn g.d.tx) ∧ (TaOK h) ∧ (TbOK h) ∧ (FaC h) ∧ (ImC h g.k)
theorem InvC.sz {h : AH} {g : Gh} {drn : Nat} (X : InvC h g drn) : 92 < h.2.1 := X.1
theorem InvC.mc {h : AH} {g : Gh} {drn : Nat} (X : InvC h g drn) : Hs h 0 (oMC (nI g.c.tcn) (nI g.L) g.fa g.fp (nI g.c.cst)) := X.2.1
theorem InvC.ch {h : AH} {g : Gh} {drn : Nat} (X : InvC h g drn) : ChC h g.c.N g.d.ca (nI g.c.co) (nI g.c.S0) := X.2.2.1
theorem InvC.th {h : AH} {g : Gh} {drn : Nat} (X : InvC h g drn) : ThC h g.c.n g.c.an g.d.le g.d.ki g.d.ag g.d.pr := X.2.2.2.1
theorem InvC.lk {h : AH} {g : Gh} {drn : Nat} (X : InvC h g drn) : LkC h g.c.nl g.d.lf g.d.lt := X.2.2.2.2.1
theorem InvC.ld {h : AH} {g : Gh} {drn : Nat} (X : InvC h g drn) : LdC h g.c.ns g.d.lo g.d.hi := X.2.2.2.2.2.1
theorem InvC.rw {h : AH} {g : Gh} {drn : Nat} (X : InvC h g drn) : RwC h := X.2.2.2.2.2.2.1
theorem InvC.tp {h : AH} {g : Gh} {drn : Nat} (X : InvC h g drn) : TpC h g.tb := X.2.2.2.2.2.2.2.1
theorem InvC.tt {h : AH} {g : Gh} {drn : Nat} (X : InvC h g drn) : TtC h g.c.tcn g.d.tx := X.2.2.2.2.2.2.2.2.1
theorem InvC.rd {h : AH} {g : Gh} {drn : Nat} (X : InvC h g drn) : RdA h := X.2.2.2.2.2.2.2.2.2.1
theorem InvC.ju {h : AH} {g : Gh} {drn : Nat} (X : InvC h g drn) : ∃ nms, JuC h nms := X.2.2.2.2.2.2.2.2.2.2.1
theorem InvC.de {h : AH} {g : Gh} {drn : Nat} (X : InvC h g drn) : DeC h drn g.d.ca g.c.N g.c.tcn g.d.tx := X.2.2.2.2.2.2.2.2.2.2.2.1
theorem InvC.ta {h : AH} {g : Gh} {drn : Nat} (X : InvC h g drn) : TaOK h := X.2.2.2.2.2.2.2.2.2.2.2.2.1
theorem InvC.tb {h : AH} {g : Gh} {drn : Nat} (X : InvC h g drn) : TbOK h := X.2.2.2.2.2.2.2.2.2.2.2.2.2.1
theorem InvC.fa {h : AH} {g : Gh} {drn : Nat} (X : InvC h g drn) : FaC h := X.2.2.2.2.2.2.2.2.2.2.2.2.2.2.1
theorem InvC.im {h : AH} {g : Gh} {drn : Nat} (X : InvC h g drn) : ImC h g.k := X.2.2.2.2.2.2.2.2.2.2.2.2.2.2.2
/-- the model's rows against them -/
def Am (a : Nat → Int32) (c : Cn) (d : Da) : Prop := (a 0 = nI c.N) ∧ (a 1 = nI c.n) ∧ (a 2 = nI c.tcn) ∧ (a 3 = nI c.nl) ∧ (a 4 = nI c.ns) ∧ (a 5 = nI c.cst) ∧ (∀ x k, x < c.N → k < 4 → a (10 + 5 * x + k) = nI (d.ca x k)) ∧ (∀ x, x < c.N → a (10 + 5 * x + 4) = nI (c.co / 2 ^ x % 2)) ∧ (∀ x, x < c.N → a (80 + x) = nI (c.S0 / 2 ^ x % 2)) ∧ (∀ t, t < c.n → a (100 + 4 * t) = nI (d.ki t) ∧ a (100 + 4 * t + 1) = nI (d.ag t) ∧ a (100 + 4 * t + 2) = d.le t ∧ a (100 + 4 * t + 3) = nI (d.pr t)) ∧ (∀ t, t < c.n → ∀ x, x < c.N → a (150 + 14 * t + x) = c.an (t * 14 + x)) ∧ (∀ i, i < c.nl → a (320 + 2 * i) = nI (d.lf i) ∧ a (320 + 2 * i + 1) = nI (d.lt i)) ∧ (∀ j, j < c.ns → a (360 + 2 * j) = Int32.ofInt (d.lo j) ∧ a (360 + 2 * j + 1) = Int32.ofInt (d.hi j))
theorem Am.a0 {a : Nat → Int32} {c : Cn} {d : Da} (X : Am a c d) : a 0 = nI c.N := X.1
theorem Am.a1 {a : Nat → Int32} {c : Cn} {d : Da} (X : Am a c d) : a 1 = nI c.n := X.2.1
theorem Am.a2 {a : Nat → Int32} {c : Cn} {d : Da} (X : Am a c d) : a 2 = nI c.tcn := X.2.2.1
theorem Am.a3 {a : Nat → Int32} {c : Cn} {d : Da} (X : Am a c d) : a 3 = nI c.nl := X.2.2.2.1
theorem Am.a4 {a : Nat → Int32} {c : Cn} {d : Da} (X : Am a c d) : a 4 = nI c.ns := X.2.2.2.2.1
theorem Am.a5 {a : Nat → Int32} {c : Cn} {d : Da} (X : Am a c d) : a 5 = nI c.cst := X.2.2.2.2.2.1
theorem Am.ca {a : Nat → Int32} {c : Cn} {d : Da} (X : Am a c d) : ∀ x k, x < c.N → k < 4 → a (10 + 5 * x + k) = nI (d.ca x k) := X.2.2.2.2.2.2.1
theorem Am.co {a : Nat → Int32} {c : Cn} {d : Da} (X : Am a c d) : ∀ x, x < c.N → a (10 + 5 * x + 4) = nI (c.co / 2 ^ x % 2) := X.2.2.2.2.2.2.2.1
theorem Am.ha {a : Nat → Int32} {c : Cn} {d : Da} (X : Am a c d) : ∀ x, x < c.N → a (80 + x) = nI (c.S0 / 2 ^ x % 2) := X.2.2.2.2.2.2.2.2.1
theorem Am.th {a : Nat → Int32} {c : Cn} {d : Da} (X : Am a c d) : ∀ t, t < c.n → a (100 + 4 * t) = nI (d.ki t) ∧ a (100 + 4 * t + 1) = nI (d.ag t) ∧ a (100 + 4 * t + 2) = d.le t ∧ a (100 + 4 * t + 3) = nI (d.pr t) := X.2.2.2.2.2.2.2.2.2.1
theorem Am.an {a : Nat → Int32} {c : Cn} {d : Da} (X : Am a c d) : ∀ t, t < c.n → ∀ x, x < c.N → a (150 + 14 * t + x) = c.an (t * 14 + x) := X.2.2.2.2.2.2.2.2.2.2.1
theorem Am.lk {a : Nat → Int32} {c : Cn} {d : Da} (X : Am a c d) : ∀ i, i < c.nl → a (320 + 2 * i) = nI (d.lf i) ∧ a (320 + 2 * i + 1) = nI (d.lt i) := X.2.2.2.2.2.2.2.2.2.2.2.1
theorem Am.ld {a : Nat → Int32} {c : Cn} {d : Da} (X : Am a c d) : ∀ j, j < c.ns → a (360 + 2 * j) = Int32.ofInt (d.lo j) ∧ a (360 + 2 * j + 1) = Int32.ofInt (d.hi j) := X.2.2.2.2.2.2.2.2.2.2.2.2
def InvM (h : AH) (g : Gh) : Prop := (MdO h (nI g.L) g.fa g.fp) ∧ (∃ a : Nat → Int32, Hs h 67 (aI 380 a) ∧ Am a g.c g.d) ∧ (∃ a : Nat → Int32, Hs h 68 (aI 380 a) ∧ Am a g.k g.d) ∧ (∃ mt : Nat → Int32, Hs h 69 (aB 300 mt) ∧ ∀ k, k < 300 → mt k = sbI (g.tb k)) ∧ (∀ t, t < g.c.tcn → TxK h t (g.d.tx t).1 (g.d.tx t).2.1 (g.d.tx t).2.2.1 (g.d.tx t).2.2.2.1 (g.d.tx t).2.2.2.2) ∧ (MK0 h) ∧ (MdR h) ∧ (∃ dl : Nat → Int32, Hs h 87 (aI 16384 dl)) ∧ (∃ f : Nat → Int32, Hs h 90 (aI 12 f)) ∧ (∃ f : Nat → Int32, Hs h 91 (aI 12 f)) ∧ (∃ f : Nat → Int32, Hs h 92 (aI 12 f))
theorem InvM.md {h : AH} {g : Gh} (X : InvM h g) : MdO h (nI g.L) g.fa g.fp := X.1
theorem InvM.a {h : AH} {g : Gh} (X : InvM h g) : ∃ a : Nat → Int32, Hs h 67 (aI 380 a) ∧ Am a g.c g.d := X.2.1
theorem InvM.im {h : AH} {g : Gh} (X : InvM h g) : ∃ a : Nat → Int32, Hs h 68 (aI 380 a) ∧ Am a g.k g.d := X.2.2.1
theorem InvM.tp {h : AH} {g : Gh} (X : InvM h g) : ∃ mt : Nat → Int32, Hs h 69 (aB 300 mt) ∧ ∀ k, k < 300 → mt k = sbI (g.tb k) := X.2.2.2.1
theorem InvM.tx {h : AH} {g : Gh} (X : InvM h g) : ∀ t, t < g.c.tcn → TxK h t (g.d.tx t).1 (g.d.tx t).2.1 (g.d.tx t).2.2.1 (g.d.tx t).2.2.2.1 (g.d.tx t).2.2.2.2 := X.2.2.2.2.1
theorem InvM.mk {h : AH} {g : Gh} (X : InvM h g) : MK0 h := X.2.2.2.2.2.1
theorem InvM.mr {h : AH} {g : Gh} (X : InvM h g) : MdR h := X.2.2.2.2.2.2.1
theorem InvM.dl {h : AH} {g : Gh} (X : InvM h g) : ∃ dl : Nat → Int32, Hs h 87 (aI 16384 dl) := X.2.2.2.2.2.2.2.1
theorem InvM.fs {h : AH} {g : Gh} (X : InvM h g) : ∃ f : Nat → Int32, Hs h 90 (aI 12 f) := X.2.2.2.2.2.2.2.2.1
theorem InvM.r1 {h : AH} {g : Gh} (X : InvM h g) : ∃ f : Nat → Int32, Hs h 91 (aI 12 f) := X.2.2.2.2.2.2.2.2.2.1
theorem InvM.r2 {h : AH} {g : Gh} (X : InvM h g) : ∃ f : Nat → Int32, Hs h 92 (aI 12 f) := X.2.2.2.2.2.2.2.2.2.2
/-- none of S lies between -/
abbrev Out (S : List Nat) (lo hi : Nat) : Prop := ∀ x, x ∈ S → x < lo ∨ hi < x
theorem Fz.o {S : List Nat} {h h' : AH} {lo hi k : Nat} {c : AC} (F : Fz S h h') (o : Out S lo hi) (h1 : lo ≤ k) (h2 : k ≤ hi) (h3 : hi ≤ 92) (H : Hs h k c) : Hs h' k c := F.hs H ⟨fun z => by have := o k z; omega, by omega⟩
theorem ChC.o {S : List Nat} {h h' : AH} {N : Nat} {ca : Nat → Nat → Nat} {co ha : Int32} (T : ChC h N ca co ha) (F : Fz S h h') (o : Out S 1 5) : ChC h' N ca co ha := T.fz F ⟨fun z => by have := o _ z; omega, fun z => by have := o _ z; omega, fun z => by have := o _ z; omega, fun z => by have := o _ z; omega, fun z => by have := o _ z; omega⟩
theorem ThC.o {S : List Nat} {h h' : AH} {n : Nat} {an le : Nat → Int32} {ki ag pr : Nat → Nat} (T : ThC h n an le ki ag pr) (F : Fz S h h') (o : Out S 6 11) : ThC h' n an le ki ag pr := by
  obtain ⟨a, b, c, h1, h2, h3, h4, h5, h6, h7⟩ := T
  exact ⟨a, b, c, F.o o (by decide) (by decide) (by decide) h1, F.o o (by decide) (by decide) (by decide) h2, F.o o (by decide) (by decide) (by decide) h3, F.o o (by decide) (by decide) (by decide) h4, F.o o (by decide) (by decide) (by decide) h5, F.o o (by decide) (by decide) (by decide) h6, h7⟩
theorem LkC.o {S : List Nat} {h h' : AH} {nl : Nat} {lf lt : Nat → Nat} (T : LkC h nl lf lt) (F : Fz S h h') (o : Out S 12 16) : LkC h' nl lf lt := by
  obtain ⟨a, b, fr, to, g1, g2, w, x, hab, h1, h2, h3, h4, h5, h6⟩ := T
  exact ⟨a, b, fr, to, g1, g2, w, x, hab, F.o o (by decide) (by decide) (by decide) h1, F.o o (by decide) (by decide) (by decide) h2, F.o o (by decide) (by decide) (by decide) h3, F.o o (by omega) (by omega) (by decide) h4, F.o o (by omega) (by omega) (by decide) h5, h6⟩
theorem LdC.o {S : List Nat} {h h' : AH} {ns : Nat} {lo hi : Nat → Int} (T : LdC h ns lo hi) (F : Fz S h h') (o : Out S 17 19) : LdC h' ns lo hi := by
  obtain ⟨a, b, h1, h2, h3, h4⟩ := T
  exact ⟨a, b, F.o o (by decide) (by decide) (by decide) h1, F.o o (by decide) (by decide) (by decide) h2, F.o o (by decide) (by decide) (by decide) h3, h4⟩
theorem RwC.o {S : List Nat} {h h' : AH} (T : RwC h) (F : Fz S h h') (o : Out S 20 20) : RwC h' := by
  obtain ⟨a, h1, h2⟩ := T
  exact ⟨a, F.o o (by decide) (by decide) (by decide) h1, h2⟩
theorem TpC.o {S : List Nat} {h h' : AH} {tb : Nat → Nat} (T : TpC h tb) (F : Fz S h h') (o : Out S 21 21) : TpC h' tb := by
  obtain ⟨a, h1, h2⟩ := T
  exact ⟨a, F.o o (by decide) (by decide) (by decide) h1, h2⟩
theorem TxB.o {S : List Nat} {h h' : AH} {t : Nat} (T : TxB h t) (F : Fz S h h') (ht : t < 6) (o : Out S (42 + 4 * t) (45 + 4 * t)) : TxB h' t := by
  obtain ⟨c, m, n, a, b, d, h1, h2, h3, h4, h5⟩ := T
  exact ⟨c, m, n, a, b, d, F.o o (by omega) (by omega) (by omega) h1, F.o o (by omega) (by omega) (by omega) h2, F.o o (by omega) (by omega) (by omega) h3, F.o o (by omega) (by omega) (by omega) h4, h5⟩
theorem TxW.o {S : List Nat} {h h' : AH} {t nc : Nat} {kd : Nat → Nat} {cd : Nat → List Nat} {my ne : Int32} (T : TxW h t nc kd cd my ne) (F : Fz S h h') (ht : t < 6) (o : Out S (42 + 4 * t) (45 + 4 * t)) : TxW h' t nc kd cd my ne := by
  obtain ⟨h0, a, b, d, h1, h2, h3, h4, h5⟩ := T
  exact ⟨h0, a, b, d, F.o o (by omega) (by omega) (by omega) h1, F.o o (by omega) (by omega) (by omega) h2, F.o o (by omega) (by omega) (by omega) h3, F.o o (by omega) (by omega) (by omega) h4, h5⟩
theorem TtC.o {S : List Nat} {h h' : AH} {tcn : Nat} {tx : Nat → Nat × (Nat → Nat) × (Nat → List Nat) × Int32 × Int32} (T : TtC h tcn tx) (htc : tcn ≤ 6) (F : Fz S h h') (o : Out S 42 65) : TtC h' tcn tx :=
  ⟨fun t ht => (T.1 t ht).o F ht (fun x hx => by have := o x hx; omega), fun t ht => (T.2 t ht).o F (by omega) (fun x hx => by have := o x hx; omega)⟩
theorem RdA.o {S : List Nat} {h h' : AH} (T : RdA h) (F : Fz S h h') (o : Out S 22 23) : RdA h' := by
  obtain ⟨⟨a, b, c, l, m, n, u, p, d, e, f, q, pl, tv, x, h1⟩, wt, h2⟩ := T
  exact ⟨⟨a, b, c, l, m, n, u, p, d, e, f, q, pl, tv, x, F.o o (by decide) (by decide) (by decide) h1⟩, wt, F.o o (by decide) (by decide) (by decide) h2⟩
theorem JuC.o {S : List Nat} {h h' : AH} (T : ∃ nms, JuC h nms) (F : Fz S h h') (o : Out S 24 26) : ∃ nms, JuC h' nms := by
  obtain ⟨nms, T⟩ := T
  exact ⟨nms, T.fz F ⟨fun z => by have := o _ z; omega, fun z => by have := o _ z; omega, fun z => by have := o _ z; omega⟩⟩
theorem TaOK.o {S : List Nat} {h h' : AH} (T : TaOK h) (F : Fz S h h') (o : Out S 31 34) : TaOK h' := T.fz F ⟨fun z => by have := o _ z; omega, fun z => by have := o _ z; omega, fun z => by have := o _ z; omega, fun z => by have := o _ z; omega⟩
theorem TbOK.o {S : List Nat} {h h' : AH} (T : TbOK h) (F : Fz S h h') (o : Out S 35 38) : TbOK h' := T.fz F ⟨fun z => by have := o _ z; omega, fun z => by have := o _ z; omega, fun z => by have := o _ z; omega, fun z => by have := o _ z; omega⟩
theorem FaC.o {S : List Nat} {h h' : AH} (T : FaC h) (F : Fz S h h') (o : Out S 39 39) : FaC h' := by
  obtain ⟨a, h1⟩ := T
  exact ⟨a, F.o o (by decide) (by decide) (by decide) h1⟩
theorem ImC.o {S : List Nat} {h h' : AH} {k : Cn} (T : ImC h k) (F : Fz S h h') (o : Out S 40 41) : ImC h' k := ⟨F.o o (by decide) (by decide) (by decide) T.1, F.o o (by decide) (by decide) (by decide) T.2⟩
theorem DeC.o {S : List Nat} {h h' : AH} {drn N tcn : Nat} {ca : Nat → Nat → Nat} {tx : Nat → Nat × (Nat → Nat) × (Nat → List Nat) × Int32 × Int32} (T : DeC h drn ca N tcn tx) (F : Fr S h h') (o : Out S 27 30) (o2 : ∀ x, x ∈ S → x ≤ 92) : DeC h' drn ca N tcn tx := by
  obtain ⟨dt, L0, h1, h2, h3⟩ := T
  exact ⟨dt, L0, h1.fr F ⟨fun z => by have := o _ z; omega, fun z => by have := o _ z; omega, fun z => by have := o _ z; omega, fun k hk => ⟨o2 k hk, by have := o k hk; omega⟩⟩, h2, h3⟩
/-- the other object's cells stay -/
def KeepM (h h' : AH) : Prop := h'.1 = h.1 ∧ h.2.1 ≤ h'.2.1 ∧ ∀ k, 66 ≤ k → k ≤ 92 → k < h.2.1 → h'.2.2 k = h.2.2 k
def KeepC (h h' : AH) : Prop := ∃ S : List Nat, Fr S h h' ∧ ∀ x, x ∈ S → 66 ≤ x ∧ x ≤ 92
theorem KeepM.z {S : List Nat} {h h' : AH} (F : Fz S h h') (o : Out S 66 92) : KeepM h h' := ⟨F.1, F.2.1, fun k h1 h2 h3 => F.2.2 k h2 h3 (fun z => by have := o k z; omega)⟩
theorem KeepM.r {S : List Nat} {h h' : AH} (F : Fr S h h') (o : Out S 66 92) : KeepM h h' := KeepM.z F.z o
theorem KeepM.refl (h : AH) : KeepM h h := ⟨rfl, Nat.le_refl _, fun _ _ _ _ => rfl⟩
theorem KeepC.refl (h : AH) : KeepC h h := ⟨[], Fr.refl _ _, fun x hx => absurd hx List.not_mem_nil⟩
theorem KeepM.hs {h h' : AH} {k : Nat} {c : AC} (K : KeepM h h') (h1 : 66 ≤ k ∧ k ≤ 92) (H : Hs h k c) : Hs h' k c := ⟨Nat.lt_of_lt_of_le H.1 K.2.1, (K.2.2 k h1.1 h1.2 H.1).trans H.2⟩
theorem InvC.keep {h h' : AH} {g : Gh} {drn : Nat} (I : InvC h g drn) (htc : g.c.tcn ≤ 6) (K : KeepC h h') : InvC h' g drn := by
  obtain ⟨S, F, o⟩ := K
  have O : ∀ lo hi, hi < 66 → Out S lo hi := fun lo hi z x hx => by have := o x hx; omega
  exact ⟨Nat.lt_of_lt_of_le I.sz F.2.1, F.hs I.mc (fun z => by have := o _ z; omega), I.ch.o F.z (O _ _ (by decide)), I.th.o F.z (O _ _ (by decide)), I.lk.o F.z (O _ _ (by decide)), I.ld.o F.z (O _ _ (by decide)), I.rw.o F.z (O _ _ (by decide)), I.tp.o F.z (O _ _ (by decide)), I.tt.o htc F.z (O _ _ (by decide)), I.rd.o F.z (O _ _ (by decide)), JuC.o I.ju F.z (O _ _ (by decide)), I.de.o F (O _ _ (by decide)) (fun x hx => (o x hx).2), I.ta.o F.z (O _ _ (by decide)), I.tb.o F.z (O _ _ (by decide)), I.fa.o F.z (O _ _ (by decide)), I.im.o F.z (O _ _ (by decide))⟩
theorem InvM.keep {h h' : AH} {g : Gh} (I : InvM h g) (K : KeepM h h') : InvM h' g := by
  obtain ⟨md, ⟨a, a1, a2⟩, ⟨im, i1, i2⟩, ⟨mt, t1, t2⟩, tx, mk, mr, ⟨dl, d1⟩, ⟨fs, f1⟩, ⟨r1, q1⟩, ⟨r2, q2⟩⟩ := I
  refine ⟨?_, ⟨a, K.hs (by decide) a1, a2⟩, ⟨im, K.hs (by decide) i1, i2⟩, ⟨mt, K.hs (by decide) t1, t2⟩, fun t ht => ?_, ?_, ?_, ⟨dl, K.hs (by decide) d1⟩, ⟨fs, K.hs (by decide) f1⟩, ⟨r1, K.hs (by decide) q1⟩, ⟨r2, K.hs (by decide) q2⟩⟩
  · obtain ⟨b1, b2, b3, b4, b5, b6, b7, b8, b9, c1, c2, c3, c4, c5, c6, c7, c8, c9, e1, H⟩ := md
    exact ⟨b1, b2, b3, b4, b5, b6, b7, b8, b9, c1, c2, c3, c4, c5, c6, c7, c8, c9, e1, K.hs (by decide) H⟩
  · obtain ⟨h0, h9, b, c, d, e, f, u, h1, h2, h3, h4, h5, h6, h7⟩ := tx t ht
    exact ⟨h0, h9, b, c, d, e, f, u, K.hs (by decide) h1, K.hs (by decide) h2, K.hs (by decide) h3, K.hs (by decide) h4, K.hs (by decide) h5, K.hs (by decide) h6, h7⟩
  · obtain ⟨⟨a, b, c, d, e, f, h1, h2, h3, h4, h5, h6⟩, ⟨a', b', c', d', j1, j2, j3, j4⟩, a'', b'', c'', d'', e'', k1, k2, k3, k4, k5⟩ := mk
    exact ⟨⟨a, b, c, d, e, f, K.hs (by decide) h1, K.hs (by decide) h2, K.hs (by decide) h3, K.hs (by decide) h4, K.hs (by decide) h5, K.hs (by decide) h6⟩, ⟨a', b', c', d', K.hs (by decide) j1, K.hs (by decide) j2, K.hs (by decide) j3, K.hs (by decide) j4⟩, a'', b'', c'', d'', e'', K.hs (by decide) k1, K.hs (by decide) k2, K.hs (by decide) k3, K.hs (by decide) k4, K.hs (by decide) k5⟩
  · obtain ⟨⟨⟨a, h1⟩, b, h2⟩, ⟨c, h3⟩, d, h4⟩ := mr
    exact ⟨⟨⟨a, K.hs (by decide) h1⟩, b, K.hs (by decide) h2⟩, ⟨c, K.hs (by decide) h3⟩, d, K.hs (by decide) h4⟩

