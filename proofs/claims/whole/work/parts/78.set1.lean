/-! BOTH ANSWER ALIKE: the calls that change what is told -/
theorem Sp.sh {M : MD} {κ : Nat × Nat} {h : AH} {av : List Value} {Q : Option Value → AH → Prop} (H : Sp M κ h av Q) : Sp M κ h av (fun v h' => Q v h' ∧ Sh h h') :=
  ⟨H.1, fun p l e R s m args below meth c g Z mc ms hC hmc hms hret H0 locs cells slots lsA hk hs hW hS hl => H.2 p l e R s m args below meth c g Z mc ms hC hmc hms (fun pc' v h' H' l' c' s' L' a1 a2 => hret pc' v h' H' l' c' s' L' ⟨a1, a2.2⟩ a2) H0 locs cells slots lsA hk hs hW hS hl⟩
theorem Sh.I {h h' : AH} {k n : Nat} {f : Nat → Int32} (S : Sh h h') (H : Hs h k (aI n f)) : ∃ f' : Nat → Int32, Hs h' k (aI n f') := by
  have e := S.2 k H.1
  rw [H.2] at e
  have hk : k < h'.2.1 := Nat.lt_of_lt_of_le H.1 S.1
  unfold Hs
  generalize h'.2.2 k = c at e
  match c, e with
  | .inl (ty, n', .inl f'), e => simp only [shp, Sum.inl.injEq, Prod.mk.injEq] at e; obtain ⟨rfl, rfl, -⟩ := e; exact ⟨f', hk, rfl⟩
  | .inl (ty, n', .inr (.inl f')), e => simp [shp] at e
  | .inl (ty, n', .inr (.inr (.inl f'))), e => simp [shp] at e
  | .inl (ty, n', .inr (.inr (.inr (.inl f')))), e => simp [shp] at e
  | .inl (ty, n', .inr (.inr (.inr (.inr f')))), e => simp [shp] at e
  | .inr (ci, fs), e => simp [shp] at e
theorem MK0.sh {h h' : AH} (T : MK0 h) (S : Sh h h') : MK0 h' := by
  obtain ⟨⟨a, b, c, d, e, f, h1, h2, h3, h4, h5, h6⟩, ⟨a', b', c', d', j1, j2, j3, j4⟩, a'', b'', c'', d'', e'', k1, k2, k3, k4, k5⟩ := T
  obtain ⟨a, h1⟩ := S.I h1
  obtain ⟨b, h2⟩ := S.I h2
  obtain ⟨c, h3⟩ := S.I h3
  obtain ⟨d, h4⟩ := S.I h4
  obtain ⟨e, h5⟩ := S.I h5
  obtain ⟨f, h6⟩ := S.I h6
  obtain ⟨a', j1⟩ := S.I j1
  obtain ⟨b', j2⟩ := S.I j2
  obtain ⟨c', j3⟩ := S.I j3
  obtain ⟨d', j4⟩ := S.I j4
  obtain ⟨a'', k1⟩ := S.I k1
  obtain ⟨b'', k2⟩ := S.I k2
  obtain ⟨c'', k3⟩ := S.I k3
  obtain ⟨d'', k4⟩ := S.I k4
  obtain ⟨e'', k5⟩ := S.I k5
  exact ⟨⟨a, b, c, d, e, f, h1, h2, h3, h4, h5, h6⟩, ⟨a', b', c', d', j1, j2, j3, j4⟩, a'', b'', c'', d'', e'', k1, k2, k3, k4, k5⟩
theorem Two.pOx {h h1 : AH} {g g' : Gh} {drn : Nat} {M1 M2 : MD} {av : List Value} {P1 : Prop} {x y : Int32} (I : InvC h g drn) (G : GhOK g) (hG : P1 → GhOK g') (c : Sp M1 (0, 0) h (.ref 0 :: av) (pO P1 x y h1 h)) (hc : P1 → InvC h1 g' drn ∧ KeepM h h1)
    (m : ∀ h' : AH, InvM h' g → ∃ (P2 : Prop) (x' : Int32) (h2 : AH), Sp M2 (0, 0) h' (.ref 66 :: av) (pO P2 x' y h2 h') ∧ (P2 ↔ P1) ∧ (P1 → x' = x ∧ InvM h2 g' ∧ KeepC h' h2)) : Two h g drn M1 M2 av := by
  by_cases hp : P1
  · refine Two.mk0 x I.drn (hG hp) (c.end ?_) (fun h' J => ?_)
    · rintro v h' (⟨-, e1, rfl⟩ | ⟨hn, -⟩)
      · exact ⟨x, e1, rfl, hc hp⟩
      · exact absurd hp hn
    · obtain ⟨P2, x', h2, s, e, q⟩ := m h' J
      obtain ⟨rfl, q1, q2⟩ := q hp
      refine s.end ?_
      rintro v h'' (⟨-, e1, rfl⟩ | ⟨hn, -⟩)
      · exact ⟨_, e1, rfl, q1, q2⟩
      · exact absurd (e.mpr hp) hn
  · refine Two.mk0 y I.drn G (c.end ?_) (fun h' J => ?_)
    · rintro v h' (⟨hn, -⟩ | ⟨-, e1, rfl⟩)
      · exact absurd hn hp
      · exact ⟨y, e1, rfl, I, KeepM.refl _⟩
    · obtain ⟨P2, x', h2, s, e, q⟩ := m h' J
      refine s.end ?_
      rintro v h'' (⟨hn, -⟩ | ⟨-, e1, rfl⟩)
      · exact absurd (e.mp hn) hp
      · exact ⟨y, e1, rfl, J, KeepC.refl _⟩
/-- the model's rows change -/
theorem InvM.seta {h : AH} {g : Gh} {a a' : Nat → Int32} {c' : Cn} {d' : Da} (J : InvM h g) (H : Hs h 67 (aI 380 a)) (A' : Am a' c' d') (e : DaEq g.k g.d d') (ht : c'.tcn = g.c.tcn) (hx : d'.tx = g.d.tx) : InvM (up h 67 (aI 380 a')) (c', g.k, d', g.L, g.tb, g.fa, g.fp) ∧ KeepC h (up h 67 (aI 380 a')) := by
  have F : Fr [67] h (up h 67 (aI 380 a')) := (Fr.refl _ _).up (by decide)
  have O : ∀ k, k ≠ 67 → k ∉ [67] := fun k hk => by simp [hk]
  refine ⟨⟨?_, ⟨a', H.s, A'⟩, ?_, ?_, ?_, J.mk.sh (Sh.upd H rfl), J.mr.fr F (by decide), ?_, ?_, ?_, ?_⟩, [67], F, by decide⟩
  · obtain ⟨b1, b2, b3, b4, b5, b6, b7, b8, b9, c1, c2, c3, c4, c5, c6, c7, c8, c9, e1, H⟩ := J.md
    exact ⟨b1, b2, b3, b4, b5, b6, b7, b8, b9, c1, c2, c3, c4, c5, c6, c7, c8, c9, e1, F.hs H (O _ (by decide))⟩
  · obtain ⟨im, h1, h2⟩ := J.im
    exact ⟨im, F.hs h1 (O _ (by decide)), h2.cong e⟩
  · obtain ⟨mt, h1, h2⟩ := J.tp
    exact ⟨mt, F.hs h1 (O _ (by decide)), h2⟩
  · intro t hlt
    have hlt : t < g.c.tcn := by rw [← ht]; exact hlt
    have := (J.tx t hlt).fr F (by decide)
    show TxK _ t (d'.tx t).1 _ _ _ _
    rw [hx]; exact this
  · exact J.dl.elim fun q z => ⟨q, F.hs z (O _ (by decide))⟩
  · exact J.fs.elim fun q z => ⟨q, F.hs z (O _ (by decide))⟩
  · exact J.r1.elim fun q z => ⟨q, F.hs z (O _ (by decide))⟩
  · exact J.r2.elim fun q z => ⟨q, F.hs z (O _ (by decide))⟩
theorem bit2 (S c : Nat) : S / 2 ^ c % 2 = if bt S c = true then 1 else 0 := by
  unfold bt
  rcases Nat.mod_two_eq_zero_or_one (S / 2 ^ c) with h | h <;> simp [h]
theorem bit_eq {S S' c : Nat} (h : bt S c = bt S' c) : nI (S / 2 ^ c % 2) = nI (S' / 2 ^ c % 2) := by rw [bit2, bit2, h]
theorem cl_of {x : Int32} {b : Nat} (hb : b < 2 ^ 31) (h : 0 ≤ x ∧ x ≤ nI b) : x = nI x.toNatClampNeg ∧ x.toNatClampNeg ≤ b := by
  obtain ⟨k, hk, rfl⟩ := i_nat (i := x) (Int32.le_trans (by decide) h.1) (fun z => by rw [z] at h; exact absurd h.1 (by decide))
  rw [nI_clamp hk]
  exact ⟨rfl, i_le hk hb h.2⟩
theorem cl_lt {x : Int32} {b : Nat} (hb : b < 2 ^ 31) (h : 0 ≤ x ∧ x < nI b) : x = nI x.toNatClampNeg ∧ x.toNatClampNeg < b := by
  obtain ⟨T, hT, rfl⟩ := gd_e hb h
  rw [nI_clamp (by omega)]
  exact ⟨rfl, hT⟩
theorem shl1 {X : Nat} (hX : X < 31) : (1 : Int32) <<< (nI X &&& 31) = nI (2 ^ X) := by
  have h2 : 2 ^ X ≤ 2 ^ 30 := Nat.pow_le_pow_right (by decide) (by omega)
  have := shlN (S := 1) (c := X) hX (by omega)
  rw [Nat.one_mul] at this
  exact this
theorem clrC_ne {f : Nat → Int32} {c j : Nat} (h : ∀ t, t < 12 → j ≠ 150 + 14 * t + c) : ∀ k, k ≤ 12 → clrC f c k j = f j
  | 0, _ => rfl
  | k + 1, hk => by rw [clrC, va_up_ne _ _ (h k (by omega)), clrC_ne h k (by omega)]
theorem clrC_at {f : Nat → Int32} {c t : Nat} : ∀ k, t < k → clrC f c k (150 + 14 * t + c) = -1
  | k + 1, hk => by
    rw [clrC]
    by_cases e : t = k
    · rw [e, va_up_self]
    · rw [va_up_ne _ _ (by omega)]; exact clrC_at k (by omega)
theorem clrT_ne {f : Nat → Int32} {t j : Nat} (h : ∀ x, x < 14 → j ≠ 150 + 14 * t + x) : ∀ k, k ≤ 14 → clrT f t k j = f j
  | 0, _ => rfl
  | k + 1, hk => by rw [clrT, va_up_ne _ _ (h k (by omega)), clrT_ne h k (by omega)]
theorem clrT_at {f : Nat → Int32} {t x : Nat} : ∀ k, x < k → clrT f t k (150 + 14 * t + x) = -1
  | k + 1, hk => by
    rw [clrT]
    by_cases e : x = k
    · rw [e, va_up_self]
    · rw [va_up_ne _ _ (by omega)]; exact clrT_at k (by omega)
/-- a child more -/
def chCa (ca : Nat → Nat → Nat) (N s w hh k : Nat) : Nat → Nat → Nat := fun x j => if x = N then (if j = 0 then s else if j = 1 then w else if j = 2 then hh else k) else ca x j
def chG (g : Gh) (s w hh k c : Int32) : Gh := (Cn.mk (g.c.N + 1) g.c.n g.c.tcn g.c.nl g.c.ns g.c.cst (g.c.S0 ||| (if c = 0 then 0 else 2 ^ g.c.N)) (g.c.co ||| (if c = 0 then 0 else 2 ^ g.c.N)) g.c.an, g.k, Da.mk (chCa g.d.ca g.c.N s.toNatClampNeg w.toNatClampNeg hh.toNatClampNeg (if k = 0 then 0 else 1)) g.d.ki g.d.ag g.d.pr g.d.le g.d.lf g.d.lt g.d.lo g.d.hi g.d.tx, g.L, g.tb, g.fa, g.fp)
theorem chG_eq {g : Gh} {s w hh k c : Int32} {x : Cn} (h : x.N ≤ g.c.N) : DaEq x g.d (chG g s w hh k c).d :=
  ⟨fun x k hx _ => by show chCa _ _ _ _ _ _ _ _ = _; rw [chCa, if_neg (by omega)], fun _ _ => ⟨rfl, rfl, rfl, rfl⟩, fun _ _ => ⟨rfl, rfl⟩, fun _ _ => ⟨rfl, rfl⟩, fun _ _ => rfl⟩
theorem or_pow {S N : Nat} {c : Int32} (h : S < 2 ^ N) : (S ||| (if c = 0 then 0 else 2 ^ N)) < 2 ^ (N + 1) := by
  have h2 : 2 ^ (N + 1) = 2 ^ N * 2 := Nat.pow_succ ..
  have h3 := Nat.two_pow_pos N
  exact Nat.or_lt_two_pow (by omega) (by split <;> omega)
theorem chG_ok {g : Gh} (G : GhOK g) {s w hh k c : Int32} (hN : g.c.N < 14) (h1 : s.toNatClampNeg ≤ 1) (h2 : w.toNatClampNeg ≤ 99) (h3 : hh.toNatClampNeg ≤ 9) : GhOK (chG g s w hh k c) := by
  have K := G.c
  refine ⟨⟨by show g.c.N + 1 ≤ 14; omega, K.hn, K.htc, K.hnl, K.hns, K.hcst, or_pow K.hS0, or_pow K.hco, ?_, K.hth, K.hV, ?_, K.hlk, K.hld, K.htx⟩, G.k.cong (chG_eq G.le.1), ⟨Nat.le_succ_of_le G.le.1, G.le.2⟩, G.L, G.tb⟩
  · intro x j hx hj
    show chCa _ _ _ _ _ _ _ _ ≤ 99
    unfold chCa
    by_cases e : x = g.c.N
    · rw [if_pos e]
      split
      · omega
      · split
        · omega
        · split
          · omega
          · split <;> decide
    · rw [if_neg e]
      have hx : x < g.c.N + 1 := hx
      exact K.hca x j (by omega) hj
  · intro t ht x hx hz
    have hz : g.c.n ≤ t ∨ g.c.N + 1 ≤ x := hz
    exact K.hZ t ht x hx (by omega)
theorem chA_at {a : Nat → Int32} {N j : Nat} {s w hh k c v : Int32} (h0 : j ≠ 0) (hj : j < 150 ∨ 318 ≤ j) (hN : N < 14) : va_up (clrC (childA a N s w hh k c) N 12) 0 v j = childA a N s w hh k c j := by
  rw [va_up_ne _ _ h0]
  exact clrC_ne (fun t ht => by omega) 12 (Nat.le_refl _)
theorem chA_no {a : Nat → Int32} {N j : Nat} {s w hh k c : Int32} (h1 : j < 10 + 5 * N ∨ 10 + 5 * N + 4 < j) (h2 : j ≠ 80 + N) : childA a N s w hh k c j = a j := by
  unfold childA
  rw [va_up_ne _ _ (by omega), va_up_ne _ _ (by omega), va_up_ne _ _ (by omega), va_up_ne _ _ (by omega), va_up_ne _ _ (by omega), va_up_ne _ _ (by omega)]
theorem chG_am {a : Nat → Int32} {g : Gh} (A : Am a g.c g.d) (K : CnOK g.c g.d) {s w hh k c : Int32} (hN : g.c.N < 14) (e1 : s = nI s.toNatClampNeg) (e2 : w = nI w.toNatClampNeg) (e3 : hh = nI hh.toNatClampNeg) : Am (va_up (clrC (childA a g.c.N s w hh (if k = 0 then (0 : Int32) else 1) (if c = 0 then (0 : Int32) else 1)) g.c.N 12) 0 (nI (g.c.N + 1))) (chG g s w hh k c).c (chG g s w hh k c).d := by
  have hn := K.hn
  have hnl := K.hnl
  have hns := K.hns
  have lo : ∀ j, j ≠ 0 → (j < 10 ∨ 318 ≤ j ∨ (94 ≤ j ∧ j < 150)) → va_up (clrC (childA a g.c.N s w hh (if k = 0 then (0 : Int32) else 1) (if c = 0 then (0 : Int32) else 1)) g.c.N 12) 0 (nI (g.c.N + 1)) j = a j := fun j h0 hj => by
    rw [chA_at h0 (by omega) hN, chA_no (by omega) (by omega)]
  have nc : ∀ S : Nat, S < 2 ^ g.c.N → nI ((S ||| (if c = 0 then 0 else 2 ^ g.c.N)) / 2 ^ g.c.N % 2) = if c = 0 then (0 : Int32) else 1 := fun S hS => by
    rw [bit2, bt_or, bt_ge hS (Nat.le_refl _)]
    by_cases hc : c = 0
    · simp [hc, bt_zero]; rfl
    · simp [hc, bt_pow]; rfl
  have oc : ∀ S x : Nat, x < g.c.N → nI ((S ||| (if c = 0 then 0 else 2 ^ g.c.N)) / 2 ^ x % 2) = nI (S / 2 ^ x % 2) := fun S x hx => bit_eq (by
    rw [bt_or]
    by_cases hc : c = 0
    · simp [hc, bt_zero]
    · simp [hc, bt_pow, Nat.ne_of_lt hx])
  refine ⟨va_up_self _ _ _, (lo 1 (by decide) (by decide)).trans A.a1, (lo 2 (by decide) (by decide)).trans A.a2, (lo 3 (by decide) (by decide)).trans A.a3, (lo 4 (by decide) (by decide)).trans A.a4, (lo 5 (by decide) (by decide)).trans A.a5, ?_, ?_, ?_, ?_, ?_, ?_, ?_⟩
  · intro x j hx hj
    have hx : x < g.c.N + 1 := hx
    show _ = nI (chCa _ _ _ _ _ _ _ _)
    rw [chA_at (by omega) (by omega) hN]
    by_cases e : x = g.c.N
    · subst e
      rw [chCa, if_pos rfl]
      unfold childA
      rw [va_up_ne _ _ (by omega), va_up_ne _ _ (by omega)]
      have : j = 0 ∨ j = 1 ∨ j = 2 ∨ j = 3 := by omega
      rcases this with rfl | rfl | rfl | rfl
      · rw [va_up_ne _ _ (by omega), va_up_ne _ _ (by omega), va_up_ne _ _ (by omega), if_pos rfl, Nat.add_zero, va_up_self]; exact e1
      · rw [va_up_ne _ _ (by omega), va_up_ne _ _ (by omega), va_up_self, if_neg (by decide), if_pos rfl]; exact e2
      · rw [va_up_ne _ _ (by omega), va_up_self, if_neg (by decide), if_neg (by decide), if_pos rfl]; exact e3
      · rw [va_up_self, if_neg (show ¬ (3 : Nat) = 0 by decide), if_neg (show ¬ (3 : Nat) = 1 by decide), if_neg (show ¬ (3 : Nat) = 2 by decide)]; split <;> rfl
    · rw [chCa, if_neg e, chA_no (by omega) (by omega)]
      exact A.ca x j (by omega) hj
  · intro x hx
    have hx : x < g.c.N + 1 := hx
    rw [chA_at (by omega) (by omega) hN]
    show _ = nI ((g.c.co ||| (if c = 0 then 0 else 2 ^ g.c.N)) / 2 ^ x % 2)
    by_cases e : x = g.c.N
    · subst e
      rw [nc _ K.hco, childA, va_up_ne _ _ (by omega), va_up_self]
    · rw [oc _ _ (by omega), chA_no (by omega) (by omega)]
      exact A.co x (by omega)
  · intro x hx
    have hx : x < g.c.N + 1 := hx
    rw [chA_at (by omega) (by omega) hN]
    show _ = nI ((g.c.S0 ||| (if c = 0 then 0 else 2 ^ g.c.N)) / 2 ^ x % 2)
    by_cases e : x = g.c.N
    · subst e
      rw [nc _ K.hS0, childA, va_up_self]
    · rw [oc _ _ (by omega), chA_no (by omega) (by omega)]
      exact A.ha x (by omega)
  · intro t ht
    have ht : t < g.c.n := ht
    exact ⟨(lo _ (by omega) (by omega)).trans (A.th t ht).1, (lo _ (by omega) (by omega)).trans (A.th t ht).2.1, (lo _ (by omega) (by omega)).trans (A.th t ht).2.2.1, (lo _ (by omega) (by omega)).trans (A.th t ht).2.2.2⟩
  · intro t ht x hx
    have ht : t < g.c.n := ht
    have hx : x < g.c.N + 1 := hx
    show _ = g.c.an (t * 14 + x)
    rw [va_up_ne _ _ (by omega)]
    by_cases e : x = g.c.N
    · subst e
      rw [clrC_at 12 (by omega)]
      exact (K.hZ t (by omega) _ (by omega) (Or.inr (Nat.le_refl _))).symm
    · rw [clrC_ne (fun u hu => by omega) 12 (Nat.le_refl _), chA_no (by omega) (by omega)]
      exact A.an t ht x (by omega)
  · intro i hi
    have hi : i < g.c.nl := hi
    exact ⟨(lo _ (by omega) (by omega)).trans (A.lk i hi).1, (lo _ (by omega) (by omega)).trans (A.lk i hi).2⟩
  · intro j hj
    have hj : j < g.c.ns := hj
    exact ⟨(lo _ (by omega) (by omega)).trans (A.ld j hj).1, (lo _ (by omega) (by omega)).trans (A.ld j hj).2⟩
theorem two_child {h : AH} {g : Gh} {drn : Nat} (I : InvC h g drn) (G : GhOK g) (s w hh k c : Int32) : Two h g drn M_X10_child M_X11_child [.int s, .int w, .int hh, .int k, .int c] := by
  obtain ⟨hN0, hca, sx, wt, hm, wo, H_ch, H_sx, H_wt, H_hm, H_wk, hc4⟩ := id I.ch
  obtain ⟨dt, L0, hD, -, hm9⟩ := I.de
  obtain ⟨drow, row, w9, a9, H_de, H_dw, H_da, H_dr, hrow, hD1, hD2, hD3, hD4, hD5⟩ := hD
  have hcl : (nI g.c.N).toNatClampNeg = g.c.N := nI_clamp (by omega)
  have key : (0 ≤ s ∧ s ≤ 1 ∧ 0 ≤ w ∧ w ≤ 99 ∧ 0 ≤ hh ∧ hh ≤ 9 ∧ nI g.c.N < 14) → g.c.N < 14 ∧ (s = nI s.toNatClampNeg ∧ s.toNatClampNeg ≤ 1) ∧ (w = nI w.toNatClampNeg ∧ w.toNatClampNeg ≤ 99) ∧ (hh = nI hh.toNatClampNeg ∧ hh.toNatClampNeg ≤ 9) := fun z =>
    ⟨i_lt (b := 14) (by omega) (by decide) z.2.2.2.2.2.2, cl_of (b := 1) (by decide) ⟨z.1, z.2.1⟩, cl_of (b := 99) (by decide) ⟨z.2.2.1, z.2.2.2.1⟩, cl_of (b := 9) (by decide) ⟨z.2.2.2.2.1, z.2.2.2.2.2.1⟩⟩
  refine Two.pOx (g' := chG g s w hh k c) I G (fun z => ?_) (s_X10_child I.mc H_de H_ch H_sx H_wt H_hm H_wk ((nI_leI (a := 0) (by decide) (by omega)).mpr (Nat.zero_le _))) (fun z => ?_) (fun h' J => ?_)
  · obtain ⟨q0, q1, q2, q3⟩ := key z
    exact chG_ok G q0 q1.2 q2.2 q3.2
  · obtain ⟨q0, q1, q2, q3⟩ := key z
    rw [hcl]
    have F : Fr [1, 2, 3, 4, 5, 27] h (up (up (up (up (up (up h 27 (oDe drow (nI L0.length) (-1))) 2 (aI 14 (va_up sx g.c.N s))) 3 (aI 14 (va_up wt g.c.N w))) 4 (aI 14 (va_up hm g.c.N hh))) 5 (aI 14 (va_up wo g.c.N (if k = 0 then 0 else 1)))) 1 (oCh (nI g.c.N + 1) (nI g.c.co ||| (if c = 0 then (0 : Int32) else (1 : Int32) <<< (nI g.c.N &&& 31))) (nI g.c.S0 ||| (if c = 0 then (0 : Int32) else (1 : Int32) <<< (nI g.c.N &&& 31))))) := ((((((Fr.refl _ _).up (by decide)).up (by decide)).up (by decide)).up (by decide)).up (by decide)).up (by decide)
    refine ⟨⟨Nat.lt_of_lt_of_le I.sz F.2.1, F.hs I.mc (by decide), ⟨by show g.c.N + 1 ≤ 14; omega, (chG_ok G q0 q1.2 q2.2 q3.2).c.hca, va_up sx g.c.N s, va_up wt g.c.N w, va_up hm g.c.N hh, va_up wo g.c.N (if k = 0 then 0 else 1), ?_, ((((H_sx.n (by decide)).s.n (by decide)).n (by decide)).n (by decide)).n (by decide), (((H_wt.n (by decide)).n (by decide)).s.n (by decide)).n (by decide) |>.n (by decide), ((((H_hm.n (by decide)).n (by decide)).n (by decide)).s.n (by decide)).n (by decide), (((((H_wk.n (by decide)).n (by decide)).n (by decide)).n (by decide)).s).n (by decide), ?_⟩, I.th.o F.z (by decide), I.lk.o F.z (by decide), I.ld.o F.z (by decide), I.rw.o F.z (by decide), I.tp.o F.z (by decide), I.tt.o G.c.htc F.z (by decide), I.rd.o F.z (by decide), JuC.o I.ju F.z (by decide), ⟨-1, L0, ⟨drow, row, w9, a9, ((((H_de.s.n (by decide)).n (by decide)).n (by decide)).n (by decide)).n (by decide), F.hs H_dw (by decide), F.hs H_da (by decide), F.hs H_dr (by rcases hrow with e | e; rw [e]; decide; simp; omega), hrow, hD1, hD2, hD3, hD4, hD5⟩, Or.inl rfl, hm9⟩, I.ta.o F.z (by decide), I.tb.o F.z (by decide), I.fa.o F.z (by decide), I.im.o F.z (by decide)⟩, KeepM.r F (by decide)⟩
    · have e : ∀ S : Nat, nI S ||| (if c = 0 then (0 : Int32) else (1 : Int32) <<< (nI g.c.N &&& 31)) = nI (S ||| (if c = 0 then 0 else 2 ^ g.c.N)) := fun S => by
        rw [shl1 (by omega), ← nI_or]
        congr 1
        split <;> rfl
      show Hs _ 1 (oCh (nI (g.c.N + 1)) (nI (g.c.co ||| (if c = 0 then 0 else 2 ^ g.c.N))) (nI (g.c.S0 ||| (if c = 0 then 0 else 2 ^ g.c.N))))
      rw [← e, ← e, ← nI_1]
      exact Hs.s (((((H_ch.n (by decide)).n (by decide)).n (by decide)).n (by decide)).n (by decide))
    · intro x hx
      have hx : x < g.c.N + 1 := hx
      show _ = nI (chCa _ _ _ _ _ _ _ _) ∧ _ = nI (chCa _ _ _ _ _ _ _ _) ∧ _ = nI (chCa _ _ _ _ _ _ _ _) ∧ _ = nI (chCa _ _ _ _ _ _ _ _)
      unfold chCa
      by_cases e : x = g.c.N
      · subst e
        simp only [va_up_self, if_true]
        refine ⟨q1.1, q2.1, q3.1, ?_⟩
        split <;> rfl
      · simp only [va_up_ne _ _ e, if_neg e]
        exact hc4 x (by omega)
  · obtain ⟨mup, mlo, mln, mat, mtk, mso, mto, mwr, mwp, mop, mfs, mws, mst, mnc, mnk, mnr, mdn, mgu, mgl, H_md⟩ := J.md
    obtain ⟨a, H_a, A⟩ := J.a
    refine ⟨_, _, _, s_X11_child (s := s) (w := w) (hh := hh) (k := k) (c := c) H_md H_a A.a0 G.c.hN, ?_, fun z => ⟨rfl, ?_⟩⟩
    · have : nI g.c.N < 14 ↔ g.c.N < 14 := nI_ltI (b := 14) (by omega) (by decide)
      rw [this]
    · obtain ⟨q0, q1, q2, q3⟩ := key z
      exact J.seta H_a (chG_am A G.c q0 q1.1 q2.1 q3.1) (chG_eq (c := c) G.le.1) rfl rfl
