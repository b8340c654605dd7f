/-! the model's rows: bits, answers; which calls are well made -/
theorem bitsN {f : Nat → Int32} {S : Nat} : ∀ {k : Nat}, k ≤ 14 → (∀ c, c < k → f c = nI (S / 2 ^ c % 2)) → bitsOf f k = nI (S % 2 ^ k)
  | 0, _, _ => by rw [Nat.pow_zero, Nat.mod_one]; rfl
  | k + 1, hk, h => by
    have h2 : 2 ^ (k + 1) ≤ 16384 := pw_31 (k + 1) hk
    have h3 : S / 2 ^ k % 2 < 2 := Nat.mod_lt _ (by decide)
    have h4 : S / 2 ^ k % 2 * 2 ^ k < 2 ^ 32 := by
      have : S / 2 ^ k % 2 * 2 ^ k ≤ 1 * 2 ^ k := Nat.mul_le_mul_right _ (by omega)
      rw [Nat.pow_succ] at h2; omega
    rw [bitsOf, bitsN (by omega) (fun c hc => h c (by omega)), h k (by omega), shlN (by omega) h4, nI_or]
    congr 1
    have h5 : S % 2 ^ k < 2 ^ k := Nat.mod_lt _ (Nat.two_pow_pos k)
    rw [Nat.mod_pow_succ, Nat.or_comm, Nat.mul_comm, ← Nat.two_pow_add_eq_or_of_lt h5]
    omega
theorem bits_eq {f : Nat → Int32} {S k : Nat} (hk : k ≤ 14) (hS : S < 2 ^ k) (h : ∀ c, c < k → f c = nI (S / 2 ^ c % 2)) : bitsOf f k = nI S := by rw [bitsN hk h, Nat.mod_eq_of_lt hS]
theorem Am.hbits {a : Nat → Int32} {c : Cn} {d : Da} (A : Am a c d) (K : CnOK c d) : bitsOf (fun x => a (80 + x)) c.N = nI c.S0 := bits_eq K.hN K.hS0 A.ha
theorem Am.hcoins {a : Nat → Int32} {c : Cn} {d : Da} (A : Am a c d) (K : CnOK c d) : bitsOf (fun x => a (10 + 5 * x + 4)) c.N = nI c.co := bits_eq K.hN K.hco A.co
theorem Am.hVm {a : Nat → Int32} {c : Cn} {d : Da} (A : Am a c d) (K : CnOK c d) : ∀ t, t < c.n → ∀ x, x < c.N → a (150 + 14 * t + x) = -1 ∨ ∃ v, v ≤ 99 ∧ a (150 + 14 * t + x) = nI v := fun t ht x hx => by
  rw [A.an t ht x hx]; exact K.hV t (by have := K.hn; omega) x (by have := K.hN; omega)
theorem Am.RA {a : Nat → Int32} {c : Cn} {d : Da} (A : Am a c d) (K : CnOK c d) (s : Int32) {t : Nat} (ht : t < c.n) : mAn a c.an d.le c.N t (dfA d.ca c.N s) s := by
  refine ⟨fun x _ hb => ?_, fun x hx => ⟨?_, fun _ => A.an t ht x hx⟩, (A.th t ht).2.2.1, (K.hth t ht).2.2.2⟩
  · unfold dfA at hb
    split at hb
    · rw [bt_ones] at hb; exact of_decide_eq_true hb
    · rw [bt_bs, Bool.and_eq_true] at hb; exact of_decide_eq_true hb.1
  · rw [mF, cF, A.an t ht x hx, A.ca x 0 hx (by decide)]
    by_cases hs : s = 2
    · have : bt (dfA d.ca c.N s) x = true := by rw [dfA, if_pos hs, bt_ones]; simp [hx]
      rw [this]; simp [hs]
    · have : bt (dfA d.ca c.N s) x = decide (nI (d.ca x 0) = s) := by rw [dfA, if_neg hs, bt_bs]; simp [hx]
      rw [this]; simp [hs]
theorem Am.R {a : Nat → Int32} {c : Cn} {d : Da} (A : Am a c d) (K : CnOK c d) : ∀ t, t < c.n → mAn a c.an d.le c.N t (2 ^ c.N - 1) 2 := fun t ht => A.RA K 2 ht
theorem Am.cong {a : Nat → Int32} {c : Cn} {d d' : Da} (A : Am a c d) (e : DaEq c d d') : Am a c d' :=
  ⟨A.a0, A.a1, A.a2, A.a3, A.a4, A.a5, fun x k hx hk => by rw [e.ca x k hx hk]; exact A.ca x k hx hk, A.co, A.ha,
    fun t ht => by obtain ⟨h1, h2, h3, h4⟩ := e.th t ht; rw [h1, h2, h3, h4]; exact A.th t ht, A.an,
    fun i hi => by obtain ⟨h1, h2⟩ := e.lk i hi; rw [h1, h2]; exact A.lk i hi, fun j hj => by obtain ⟨h1, h2⟩ := e.ld j hj; rw [h1, h2]; exact A.ld j hj⟩
theorem Am.cp {a a' : Nat → Int32} {c : Cn} {d : Da} (A : Am a c d) (K : CnOK c d) (h : ∀ j, j < 380 → a' j = a j) : Am a' c d := by
  have h1 := K.hN; have h2 := K.hn; have h3 := K.hnl; have h4 := K.hns
  exact ⟨(h _ (by decide)).trans A.a0, (h _ (by decide)).trans A.a1, (h _ (by decide)).trans A.a2, (h _ (by decide)).trans A.a3, (h _ (by decide)).trans A.a4, (h _ (by decide)).trans A.a5,
    fun x k hx hk => (h _ (by omega)).trans (A.ca x k hx hk), fun x hx => (h _ (by omega)).trans (A.co x hx), fun x hx => (h _ (by omega)).trans (A.ha x hx),
    fun t ht => ⟨(h _ (by omega)).trans (A.th t ht).1, (h _ (by omega)).trans (A.th t ht).2.1, (h _ (by omega)).trans (A.th t ht).2.2.1, (h _ (by omega)).trans (A.th t ht).2.2.2⟩,
    fun t ht x hx => (h _ (by omega)).trans (A.an t ht x hx), fun i hi => ⟨(h _ (by omega)).trans (A.lk i hi).1, (h _ (by omega)).trans (A.lk i hi).2⟩, fun j hj => ⟨(h _ (by omega)).trans (A.ld j hj).1, (h _ (by omega)).trans (A.ld j hj).2⟩⟩
/-- guards -/
theorem gd_e {n : Nat} {x : Int32} (hn : n < 2 ^ 31) (h : 0 ≤ x ∧ x < nI n) : ∃ T, T < n ∧ x = nI T := by
  obtain ⟨k, hk, rfl⟩ := i_nat (i := x) (Int32.le_trans (by decide) h.1) (fun z => by rw [z] at h; exact absurd h.1 (by decide))
  exact ⟨k, i_lt hk hn h.2, rfl⟩
theorem gd_i {n T : Nat} (hn : n < 2 ^ 31) (h : T < n) : 0 ≤ nI T ∧ nI T < nI n := ⟨(nI_leI (a := 0) (by decide) (by omega)).mpr (by omega), (nI_ltI (by omega) hn).mpr h⟩
theorem gd_1 {n : Nat} {x : Int32} (hn : n < 2 ^ 31) : (0 ≤ x ∧ x < nI n) ↔ (0 ≤ x ∧ x ≤ nI n - 1) := by
  constructor
  · intro h
    obtain ⟨T, hT, rfl⟩ := gd_e hn h
    exact ⟨h.1, by rw [nI_le1 (by omega)]; exact (nI_leI (by omega) (by omega)).mpr (by omega)⟩
  · intro h
    refine ⟨h.1, ?_⟩
    by_cases h0 : n = 0
    · subst h0
      exact absurd (Int32.le_trans h.1 h.2) (by decide)
    · obtain ⟨k, hk, rfl⟩ := i_nat (i := x) (Int32.le_trans (by decide) h.1) (fun z => by rw [z] at h; exact absurd h.1 (by decide))
      have h2 := h.2
      rw [nI_le1 (by omega)] at h2
      have := i_le hk (by omega) h2
      exact (nI_ltI hk hn).mpr (by omega)
theorem x_nI (x : Int32) : x = nI x.toUInt32.toNat := by
  apply Int32.toBitVec_inj.mp
  rw [nI_bv]
  show x.toBitVec = BitVec.ofNat 32 x.toBitVec.toNat
  rw [BitVec.ofNat_toNat, BitVec.setWidth_eq]
theorem gd_s {n : Nat} {x : Int32} (hn : n ≤ 12) : (x.toUInt32 >>> ((nI n).toUInt32 &&& Int32.toUInt32 31)).toInt32 = 0 ↔ ∃ S, S < 2 ^ n ∧ x = nI S := by
  constructor
  · intro h
    rw [x_nI x] at h
    exact ⟨_, (hasAll_N (by exact x.toUInt32.toNat_lt) hn).mp h, x_nI x⟩
  · rintro ⟨S, hS, rfl⟩
    have := Nat.pow_le_pow_right (n := 2) (by decide) hn
    exact (hasAll_N (by omega) hn).mpr hS
theorem gd_m {n : Nat} {x : Int32} (hn : n ≤ 12) : (¬ x < 0 ∧ ¬ (1 : Int32) <<< (nI n &&& 31) ≤ x) ↔ ∃ S, S < 2 ^ n ∧ x = nI S := by
  have hp := Nat.pow_le_pow_right (n := 2) (by decide) hn
  have e : (1 : Int32) <<< (nI n &&& 31) = nI (2 ^ n) := by
    have := shlN (S := 1) (c := n) (by omega) (by omega)
    rw [Nat.one_mul] at this
    exact this
  rw [e]
  constructor
  · rintro ⟨h1, h2⟩
    have h1 : (0 : Int32) ≤ x := Int32.not_lt.mp h1
    obtain ⟨k, hk, rfl⟩ := i_nat (i := x) (Int32.le_trans (by decide) h1) (fun z => by rw [z] at h1; exact absurd h1 (by decide))
    exact ⟨k, i_nle (by omega) hk h2, rfl⟩
  · rintro ⟨S, hS, rfl⟩
    exact ⟨fun z => absurd (i_lt (b := 0) (by omega) (by decide) z) (by omega), fun z => absurd (i_le (by omega) (by omega) z) (by omega)⟩
theorem gd_o {w : Int32} : (1 ≤ w - 1000 ∧ w - 1000 ≤ 1000) ↔ (1001 ≤ w ∧ w ≤ 2000) := by
  constructor
  · intro h
    obtain ⟨k, hk, e⟩ := i_nat (i := w - 1000) (Int32.le_trans (by decide) h.1) (fun z => by rw [z] at h; exact absurd h.1 (by decide))
    rw [e] at h
    have h1 := i_le (a := 1) (by decide) hk h.1
    have h2 := i_le (b := 1000) hk (by decide) h.2
    have ew : w = nI (k + 1000) := by
      have : w = (w - 1000) + 1000 := by grind
      rw [this, e]; simp only [fa_lit, nI_add]
    rw [ew]
    exact ⟨(nI_leI (a := 1001) (by decide) (by omega)).mpr (by omega), (nI_leI (b := 2000) (by omega) (by decide)).mpr (by omega)⟩
  · intro h
    obtain ⟨k, hk, rfl⟩ := i_nat (i := w) (Int32.le_trans (by decide) h.1) (fun z => by rw [z] at h; exact absurd h.1 (by decide))
    have h1 := i_le (a := 1001) (by decide) hk h.1
    have h2 := i_le (b := 2000) hk (by decide) h.2
    obtain ⟨j, rfl⟩ : ∃ j, k = j + 1000 := ⟨k - 1000, by omega⟩
    have ew : nI (j + 1000) - 1000 = nI j := by
      have : nI (j + 1000) = nI j + 1000 := by simp only [fa_lit, nI_add]
      rw [this]; grind
    rw [ew]
    exact ⟨(nI_leI (a := 1) (by decide) (by omega)).mpr (by omega), (nI_leI (b := 1000) (by omega) (by decide)).mpr (by omega)⟩
/-- both objects answer a call alike, and stand alike then -/
def Two (h : AH) (g : Gh) (drn : Nat) (M1 M2 : MD) (av : List Value) : Prop := ∃ (drn' : Nat) (g' : Gh) (X : Int32), drn ≤ drn' ∧ drn' ≤ 16384 ∧ Sp M1 (drn' - drn, 2 * (drn' - drn)) h (.ref 0 :: av) (rI fun x h' => x = X ∧ (InvC h' g' drn' ∧ KeepM h h') ∧ GhOK g') ∧ ∀ h' : AH, InvM h' g → Sp M2 (0, 0) h' (.ref 66 :: av) (rI fun x h'' => x = X ∧ InvM h'' g' ∧ KeepC h' h'')
theorem InvC.drn {h : AH} {g : Gh} {drn : Nat} (I : InvC h g drn) : drn ≤ 16384 := by
  obtain ⟨dt, L0, -, -, m, hm, e⟩ := I.de
  rw [e]; exact pw_31 m hm
/-- no row is made -/
theorem Two.mk0 {h : AH} {g g' : Gh} {drn : Nat} {M1 M2 : MD} {av : List Value} (X : Int32) (hd : drn ≤ 16384) (hg : GhOK g') (h1 : Sp M1 (0, 0) h (.ref 0 :: av) (rI fun x h' => x = X ∧ InvC h' g' drn ∧ KeepM h h')) (h2 : ∀ h' : AH, InvM h' g → Sp M2 (0, 0) h' (.ref 66 :: av) (rI fun x h'' => x = X ∧ InvM h'' g' ∧ KeepC h' h'')) : Two h g drn M1 M2 av :=
  ⟨drn, g', X, Nat.le_refl _, hd, (h1.end (fun v h' q => by obtain ⟨x, e1, e2, q⟩ := q; exact ⟨x, e1, e2, q, hg⟩)).mono (Nat.zero_le _) (Nat.zero_le _), h2⟩
/-- no row is made; what was read bears out the rest -/
theorem Two.mk9 {h : AH} {g g' : Gh} {drn : Nat} {M1 M2 : MD} {av : List Value} (X : Int32) (hd : drn ≤ 16384) (h1 : Sp M1 (0, 0) h (.ref 0 :: av) (rI fun x h' => x = X ∧ (InvC h' g' drn ∧ KeepM h h') ∧ GhOK g')) (h2 : ∀ h' : AH, InvM h' g → Sp M2 (0, 0) h' (.ref 66 :: av) (rI fun x h'' => x = X ∧ InvM h'' g' ∧ KeepC h' h'')) : Two h g drn M1 M2 av :=
  ⟨drn, g', X, Nat.le_refl _, hd, h1.mono (Nat.zero_le _) (Nat.zero_le _), h2⟩
/-- nothing changes -/
theorem Two.same {h : AH} {g : Gh} {drn : Nat} {M1 M2 : MD} {av : List Value} (I : InvC h g drn) (G : GhOK g) (X : Int32) (h1 : Sp M1 (0, 0) h (.ref 0 :: av) (pI X h)) (h2 : ∀ h' : AH, InvM h' g → Sp M2 (0, 0) h' (.ref 66 :: av) (pI X h')) : Two h g drn M1 M2 av :=
  Two.mk0 X I.drn G (h1.end (fun v h' q => ⟨X, q.1, rfl, by rw [q.2]; exact I, by rw [q.2]; exact KeepM.refl h⟩)) (fun h' J => (h2 h' J).end (fun v h'' q => ⟨X, q.1, rfl, by rw [q.2]; exact J, by rw [q.2]; exact KeepC.refl h'⟩))
/-- the Tally only -/
theorem InvC.ta2 {h h' : AH} {g : Gh} {drn : Nat} (I : InvC h g drn) (htc : g.c.tcn ≤ 6) (T : TaOK h') (F : Fr [31, 32, 33, 34] h h') : InvC h' g drn :=
  ⟨Nat.lt_of_lt_of_le I.sz F.2.1, F.hs I.mc (by decide), I.ch.o F.z (by decide), I.th.o F.z (by decide), I.lk.o F.z (by decide), I.ld.o F.z (by decide), I.rw.o F.z (by decide), I.tp.o F.z (by decide), I.tt.o htc F.z (by decide), I.rd.o F.z (by decide), JuC.o I.ju F.z (by decide), I.de.o F (by decide) (by decide), T, I.tb.o F.z (by decide), I.fa.o F.z (by decide), I.im.o F.z (by decide)⟩
/-- the deals -/
theorem InvC.dd {h h' : AH} {g : Gh} {drn drn2 tp : Nat} {Z : List Nat} (I : InvC h g drn) (htc : g.c.tcn ≤ 6) (htp : tp < g.c.tcn) (hd : ∃ m, m ≤ 14 ∧ drn2 = 2 ^ m) (D : Dd Z h h' tp drn2 (dlT g.d.ca g.c.N (g.d.tx tp))) (hZ : ∀ x, x ∈ Z → 25 ≤ x ∧ x ≤ 39) (ta : TaOK h') (tb : TbOK h') (fa : FaC h') : InvC h' g drn2 ∧ KeepM h h' := by
  obtain ⟨J, hD, F⟩ := D
  have O : ∀ lo hi, hi < 25 ∨ 39 < lo → Out Z lo hi := fun lo hi z x hx => by have := hZ x hx; omega
  exact ⟨⟨Nat.lt_of_lt_of_le I.sz F.2.1, F.o (O 0 0 (by decide)) (by decide) (by decide) (by decide) I.mc, I.ch.o F (O _ _ (by decide)), I.th.o F (O _ _ (by decide)), I.lk.o F (O _ _ (by decide)), I.ld.o F (O _ _ (by decide)), I.rw.o F (O _ _ (by decide)), I.tp.o F (O _ _ (by decide)), I.tt.o htc F (O _ _ (by decide)), I.rd.o F (O _ _ (by decide)), J, ⟨_, _, hD, Or.inr ⟨tp, htp, rfl, rfl⟩, hd⟩, ta, tb, fa, I.im.o F (O _ _ (by decide))⟩, KeepM.z F (O _ _ (by decide))⟩
/-- what a call that deals wants, and how long the row is then -/
theorem InvC.deal {h : AH} {g : Gh} {drn tp : Nat} (I : InvC h g drn) (hN : g.c.N ≤ 14) (htc : g.c.tcn ≤ 6) (htp : tp < g.c.tcn) : ∃ (dt : Int32) (L0 : List Nat) (drn2 : Nat), DeX h dt drn L0 ∧ (dt = nI tp → L0 = dlT g.d.ca g.c.N (g.d.tx tp)) ∧ drn2 = (if dt = nI tp then drn else max drn (2 ^ g.c.N)) ∧ drn ≤ drn2 ∧ drn2 ≤ 16384 ∧ (∃ m, m ≤ 14 ∧ drn2 = 2 ^ m) ∧ (¬ dt = nI tp → drn < 2 ^ g.c.N → 1 ≤ drn2 - drn ∧ 2 ^ g.c.N ≤ 2 * (drn2 - drn)) := by
  obtain ⟨dt, L0, hD, hL, m, hm, e⟩ := I.de
  have hp := pw_31 _ hN
  have hd := I.drn
  refine ⟨dt, L0, _, hD, ?_, rfl, ?_, ?_, ?_, ?_⟩
  · intro z
    rcases hL with h1 | ⟨tp', h1, h2, h3⟩
    · rw [h1] at z; exact absurd z.symm (nI_neg1 (by omega))
    · have : tp' = tp := i_eq (by omega) (by omega) (h2.symm.trans z)
      rw [← this]; exact h3
  · split
    · exact Nat.le_refl _
    · exact Nat.le_max_left _ _
  · split
    · exact hd
    · exact Nat.max_le.mpr ⟨hd, hp⟩
  · split
    · exact ⟨m, hm, e⟩
    · rcases Nat.le_total drn (2 ^ g.c.N) with q | q
      · rw [Nat.max_eq_right q]; exact ⟨_, hN, rfl⟩
      · rw [Nat.max_eq_left q]; exact ⟨m, hm, e⟩
  · intro z hlt
    rw [if_neg z, Nat.max_eq_right (by omega)]
    have h1 : m < g.c.N := by
      rw [e] at hlt
      exact (Nat.pow_lt_pow_iff_right (by decide)).mp hlt
    have h2 : 2 ^ (m + 1) ≤ 2 ^ g.c.N := Nat.pow_le_pow_right (by decide) h1
    rw [Nat.pow_succ, ← e] at h2
    omega
