/-! had, thing, answer, costs, step, link, end -/
def hdS (S X : Nat) (b : Int32) : Nat := if b = 0 then sd S (2 ^ X) else S ||| 2 ^ X
theorem hd_lt {S X N : Nat} {b : Int32} (h : S < 2 ^ N) (hX : X < N) : hdS S X b < 2 ^ N := bt_lt (fun c hc => by
  unfold hdS
  split
  · rw [bt_sd, bt_ge h hc]; rfl
  · rw [bt_or, bt_ge h hc, bt_pow]; simp; omega)
theorem hd_ne {S X x : Nat} {b : Int32} (h : x ≠ X) : bt (hdS S X b) x = bt S x := by
  unfold hdS
  split
  · rw [bt_sd, bt_pow]; simp [h]
  · rw [bt_or, bt_pow]; simp [h]
theorem hd_at {S X : Nat} {b : Int32} : nI (hdS S X b / 2 ^ X % 2) = if b = 0 then (0 : Int32) else 1 := by
  rw [bit2]
  unfold hdS
  by_cases hb : b = 0
  · rw [if_pos hb, if_pos hb, bt_sd, bt_pow]; simp; rfl
  · rw [if_neg hb, if_neg hb, bt_or, bt_pow]; simp; rfl
def hdG (g : Gh) (x b : Int32) : Gh := (Cn.mk g.c.N g.c.n g.c.tcn g.c.nl g.c.ns g.c.cst (hdS g.c.S0 x.toNatClampNeg b) g.c.co g.c.an, g.k, g.d, g.L, g.tb, g.fa, g.fp)
theorem DaEq.rf {c : Cn} {d : Da} : DaEq c d d := ⟨fun _ _ _ _ => rfl, fun _ _ => ⟨rfl, rfl, rfl, rfl⟩, fun _ _ => ⟨rfl, rfl⟩, fun _ _ => ⟨rfl, rfl⟩, fun _ _ => rfl⟩
theorem two_had {h : AH} {g : Gh} {drn : Nat} (I : InvC h g drn) (G : GhOK g) (x b : Int32) : Two h g drn M_X10_had M_X11_had [.int x, .int b] := by
  have K := G.c
  have hN := K.hN
  obtain ⟨hN0, hca, sx, wt, hm, wo, H_ch, H_sx, H_wt, H_hm, H_wk, hc4⟩ := id I.ch
  have key : (0 ≤ x ∧ x < nI g.c.N) → x = nI x.toNatClampNeg ∧ x.toNatClampNeg < g.c.N := fun z => cl_lt (by omega) z
  refine Two.pOx (g' := hdG g x b) I G (fun z => ?_) (s_X10_had (x := x) (b := b) I.mc H_ch) (fun z => ?_) (fun h' J => ?_)
  · obtain ⟨q0, q1⟩ := key z
    exact ⟨⟨K.hN, K.hn, K.htc, K.hnl, K.hns, K.hcst, hd_lt K.hS0 q1, K.hco, K.hca, K.hth, K.hV, K.hZ, K.hlk, K.hld, K.htx⟩, G.k, G.le, G.L, G.tb⟩
  · obtain ⟨q0, q1⟩ := key z
    have F : Fr [1] h (up h 1 (oCh (nI g.c.N) (nI g.c.co) (if b = 0 then nI g.c.S0 &&& (((1 : Int32) <<< (x &&& 31)) ^^^ (-1)) else nI g.c.S0 ||| ((1 : Int32) <<< (x &&& 31))))) := (Fr.refl _ _).up (by decide)
    refine ⟨⟨Nat.lt_of_lt_of_le I.sz F.2.1, F.hs I.mc (by decide), ⟨hN0, hca, sx, wt, hm, wo, ?_, H_sx.n (by decide), H_wt.n (by decide), H_hm.n (by decide), H_wk.n (by decide), hc4⟩, I.th.o F.z (by decide), I.lk.o F.z (by decide), I.ld.o F.z (by decide), I.rw.o F.z (by decide), I.tp.o F.z (by decide), I.tt.o K.htc F.z (by decide), I.rd.o F.z (by decide), JuC.o I.ju F.z (by decide), I.de.o F (by decide) (by decide), I.ta.o F.z (by decide), I.tb.o F.z (by decide), I.fa.o F.z (by decide), I.im.o F.z (by decide)⟩, KeepM.r F (by decide)⟩
    have e : (if b = 0 then nI g.c.S0 &&& (((1 : Int32) <<< (x &&& 31)) ^^^ (-1)) else nI g.c.S0 ||| ((1 : Int32) <<< (x &&& 31))) = nI (hdS g.c.S0 x.toNatClampNeg b) := by
      have e1 : (1 : Int32) <<< (x &&& 31) = nI (2 ^ x.toNatClampNeg) := by
        have := shl1 (X := x.toNatClampNeg) (by omega)
        rw [← q0] at this
        exact this
      rw [e1]
      unfold hdS
      split
      · exact nI_sdx _ _
      · exact nI_or _ _
    show Hs _ 1 (oCh (nI g.c.N) (nI g.c.co) (nI (hdS g.c.S0 x.toNatClampNeg b)))
    rw [← e]
    exact H_ch.s
  · obtain ⟨mup, mlo, mln, mat, mtk, mso, mto, mwr, mwp, mop, mfs, mws, mst, mnc, mnk, mnr, mdn, mgu, mgl, H_md⟩ := J.md
    obtain ⟨a, H_a, A⟩ := J.a
    have h00 : 0 ≤ a 0 := by rw [A.a0]; exact (nI_leI (a := 0) (by decide) (by omega)).mpr (Nat.zero_le _)
    have h01 : a 0 ≤ 14 := by rw [A.a0]; exact (nI_leI (b := 14) (by omega) (by decide)).mpr hN
    refine ⟨_, _, _, s_X11_had (x := x) (b := b) H_md H_a h00 h01, ?_, fun z => ⟨rfl, ?_⟩⟩
    · rw [A.a0]; exact (gd_1 (by omega)).symm
    · obtain ⟨q0, q1⟩ := key z
      have hn := K.hn
      have hnl := K.hnl
      have hns := K.hns
      have lo : ∀ j, j ≠ 80 + x.toNatClampNeg → va_up a (80 + x.toNatClampNeg) (if b = 0 then (0 : Int32) else 1) j = a j := fun j hj => va_up_ne _ _ hj
      refine J.seta H_a (c' := (hdG g x b).c) ⟨(lo _ (by omega)).trans A.a0, (lo _ (by omega)).trans A.a1, (lo _ (by omega)).trans A.a2, (lo _ (by omega)).trans A.a3, (lo _ (by omega)).trans A.a4, (lo _ (by omega)).trans A.a5, fun y k hy hk => ?_, fun y hy => ?_, fun y hy => ?_, fun t ht => ?_, fun t ht y hy => ?_, fun i hi => ?_, fun j hj => ?_⟩ DaEq.rf rfl rfl
      · have hy : y < g.c.N := hy
        exact (lo _ (by omega)).trans (A.ca y k hy hk)
      · have hy : y < g.c.N := hy
        exact (lo _ (by omega)).trans (A.co y hy)
      · have hy : y < g.c.N := hy
        show _ = nI (hdS g.c.S0 x.toNatClampNeg b / 2 ^ y % 2)
        by_cases e : y = x.toNatClampNeg
        · rw [e, va_up_self]; exact hd_at.symm
        · rw [lo _ (by omega), bit_eq (hd_ne e)]; exact A.ha y hy
      · have ht : t < g.c.n := ht
        exact ⟨(lo _ (by omega)).trans (A.th t ht).1, (lo _ (by omega)).trans (A.th t ht).2.1, (lo _ (by omega)).trans (A.th t ht).2.2.1, (lo _ (by omega)).trans (A.th t ht).2.2.2⟩
      · have ht : t < g.c.n := ht
        have hy : y < g.c.N := hy
        exact (lo _ (by omega)).trans (A.an t ht y hy)
      · have hi : i < g.c.nl := hi
        exact ⟨(lo _ (by omega)).trans (A.lk i hi).1, (lo _ (by omega)).trans (A.lk i hi).2⟩
      · have hj : j < g.c.ns := hj
        exact ⟨(lo _ (by omega)).trans (A.ld j hj).1, (lo _ (by omega)).trans (A.ld j hj).2⟩
/-- a thing more -/
def thG (g : Gh) (k a l p : Int32) : Gh := (Cn.mk g.c.N (g.c.n + 1) g.c.tcn g.c.nl g.c.ns g.c.cst g.c.S0 g.c.co g.c.an, g.k, Da.mk g.d.ca (va_up g.d.ki g.c.n k.toNatClampNeg) (va_up g.d.ag g.c.n a.toNatClampNeg) (va_up g.d.pr g.c.n p.toNatClampNeg) (va_up g.d.le g.c.n l) g.d.lf g.d.lt g.d.lo g.d.hi g.d.tx, g.L, g.tb, g.fa, g.fp)
theorem thG_eq {g : Gh} {k a l p : Int32} {x : Cn} (h : x.n ≤ g.c.n) : DaEq x g.d (thG g k a l p).d :=
  ⟨fun _ _ _ _ => rfl, fun t ht => ⟨va_up_ne _ _ (by omega), va_up_ne _ _ (by omega), va_up_ne _ _ (by omega), va_up_ne _ _ (by omega)⟩, fun _ _ => ⟨rfl, rfl⟩, fun _ _ => ⟨rfl, rfl⟩, fun _ _ => rfl⟩
theorem two_thing {h : AH} {g : Gh} {drn : Nat} (I : InvC h g drn) (G : GhOK g) (k u l p : Int32) (hl : l = 0 ∨ l = 1) : Two h g drn M_X10_thing M_X11_thing [.int k, .int u, .int l, .int p] := by
  have K := G.c
  have hN := K.hN
  have hn := K.hn
  have hnl := K.hnl
  have hns := K.hns
  have hcl : (nI g.c.n).toNatClampNeg = g.c.n := nI_clamp (by omega)
  obtain ⟨ks, gs, ps, t1, t2, t3, t4, t5, t6, t7⟩ := I.th
  have key : (0 ≤ k ∧ k ≤ 3 ∧ 0 ≤ u ∧ u ≤ 99 ∧ 0 ≤ p ∧ p ≤ 999 ∧ nI g.c.n < 12) → g.c.n < 12 ∧ (k = nI k.toNatClampNeg ∧ k.toNatClampNeg ≤ 3) ∧ (u = nI u.toNatClampNeg ∧ u.toNatClampNeg ≤ 99) ∧ (p = nI p.toNatClampNeg ∧ p.toNatClampNeg ≤ 999) := fun z =>
    ⟨i_lt (b := 12) (by omega) (by decide) z.2.2.2.2.2.2, cl_of (b := 3) (by decide) ⟨z.1, z.2.1⟩, cl_of (b := 99) (by decide) ⟨z.2.2.1, z.2.2.2.1⟩, cl_of (b := 999) (by decide) ⟨z.2.2.2.2.1, z.2.2.2.2.2.1⟩⟩
  refine Two.pOx (g' := thG g k u l p) I G (fun z => ?_) (s_X10_thing (k := k) (g := u) (l := l) (p := p) I.mc t1 t2 t3 t4 t5 ((nI_leI (a := 0) (by decide) (by omega)).mpr (Nat.zero_le _)) hl) (fun z => ?_) (fun h' J => ?_)
  · obtain ⟨q0, q1, q2, q3⟩ := key z
    refine ⟨⟨K.hN, by show g.c.n + 1 ≤ 12; omega, K.htc, K.hnl, K.hns, K.hcst, K.hS0, K.hco, K.hca, fun t ht => ?_, K.hV, fun t ht x hx hz => ?_, fun i hi => ?_, K.hld, K.htx⟩, G.k.cong (thG_eq G.le.2.1), ⟨G.le.1, Nat.le_succ_of_le G.le.2.1, G.le.2.2⟩, G.L, G.tb⟩
    · have ht : t < g.c.n + 1 := ht
      show va_up _ _ _ _ ≤ 3 ∧ va_up _ _ _ _ ≤ 99 ∧ va_up _ _ _ _ ≤ 999 ∧ (va_up _ _ _ _ = 0 ∨ va_up _ _ _ _ = 1)
      by_cases e : t = g.c.n
      · subst e
        simp only [va_up_self]
        exact ⟨q1.2, q2.2, q3.2, hl⟩
      · simp only [va_up_ne _ _ e]
        exact K.hth t (by omega)
    · have hz : g.c.n + 1 ≤ t ∨ g.c.N ≤ x := hz
      exact K.hZ t ht x hx (by omega)
    · obtain ⟨h1, h2, h3⟩ := K.hlk i hi
      exact ⟨Nat.lt_succ_of_lt h1, Nat.lt_succ_of_lt h2, by show va_up g.d.ag g.c.n u.toNatClampNeg (g.d.lf i) < va_up g.d.ag g.c.n u.toNatClampNeg (g.d.lt i); rw [va_up_ne _ _ (by omega), va_up_ne _ _ (by omega)]; exact h3⟩
  · obtain ⟨q0, q1, q2, q3⟩ := key z
    rw [hcl]
    have F : Fr [6, 7, 8, 9, 10] h (up (up (up (up (up h 7 (aI 12 (va_up ks g.c.n k))) 8 (aI 12 (va_up gs g.c.n u))) 9 (aZ 12 (va_up g.d.le g.c.n l))) 10 (aI 12 (va_up ps g.c.n p))) 6 (oTh (nI g.c.n + 1))) := (((((Fr.refl _ _).up (by decide)).up (by decide)).up (by decide)).up (by decide)).up (by decide)
    refine ⟨⟨Nat.lt_of_lt_of_le I.sz F.2.1, F.hs I.mc (by decide), I.ch.o F.z (by decide), ⟨va_up ks g.c.n k, va_up gs g.c.n u, va_up ps g.c.n p, by show Hs _ 6 (oTh (nI (g.c.n + 1))); rw [← nI_1]; exact Hs.s ((((t1.n (by decide)).n (by decide)).n (by decide)).n (by decide)), (((t2.s.n (by decide)).n (by decide)).n (by decide)).n (by decide), (((t3.n (by decide)).s.n (by decide)).n (by decide)).n (by decide), ((((t4.n (by decide)).n (by decide)).s).n (by decide)).n (by decide), ((((t5.n (by decide)).n (by decide)).n (by decide)).s).n (by decide), F.hs t6 (by decide), fun t ht => ?_⟩, I.lk.o F.z (by decide), I.ld.o F.z (by decide), I.rw.o F.z (by decide), I.tp.o F.z (by decide), I.tt.o K.htc F.z (by decide), I.rd.o F.z (by decide), JuC.o I.ju F.z (by decide), I.de.o F (by decide) (by decide), I.ta.o F.z (by decide), I.tb.o F.z (by decide), I.fa.o F.z (by decide), I.im.o F.z (by decide)⟩, KeepM.r F (by decide)⟩
    have ht : t < g.c.n + 1 := ht
    show va_up _ _ _ _ = nI (va_up _ _ _ _) ∧ va_up _ _ _ _ = nI (va_up _ _ _ _) ∧ va_up _ _ _ _ = nI (va_up _ _ _ _)
    by_cases e : t = g.c.n
    · subst e
      simp only [va_up_self]
      exact ⟨q1.1, q2.1, q3.1⟩
    · simp only [va_up_ne _ _ e]
      exact t7 t (by omega)
  · obtain ⟨mup, mlo, mln, mat, mtk, mso, mto, mwr, mwp, mop, mfs, mws, mst, mnc, mnk, mnr, mdn, mgu, mgl, H_md⟩ := J.md
    obtain ⟨a, H_a, A⟩ := J.a
    refine ⟨_, _, _, s_X11_thing (k := k) (g := u) (l := l) (p := p) H_md H_a A.a1 hn, ?_, fun z => ⟨rfl, ?_⟩⟩
    · have : nI g.c.n < 12 ↔ g.c.n < 12 := nI_ltI (b := 12) (by omega) (by decide)
      rw [this]
    · obtain ⟨q0, q1, q2, q3⟩ := key z
      have lo : ∀ j, j ≠ 1 → (j < 100 + 4 * g.c.n ∨ (100 + 4 * g.c.n + 3 < j ∧ j < 150) ∨ 318 ≤ j) → va_up (clrT (thingA a g.c.n k u (if l = 0 then (0 : Int32) else 1) p) g.c.n 14) 1 (nI (g.c.n + 1)) j = a j := fun j h0 hj => by
        rw [va_up_ne _ _ h0, clrT_ne (fun x hx => by omega) 14 (Nat.le_refl _)]
        unfold thingA
        rw [va_up_ne _ _ (by omega), va_up_ne _ _ (by omega), va_up_ne _ _ (by omega), va_up_ne _ _ (by omega)]
      have hl2 : (if l = 0 then (0 : Int32) else 1) = l := by rcases hl with rfl | rfl <;> rfl
      refine J.seta H_a (c' := (thG g k u l p).c) ⟨(lo _ (by decide) (by omega)).trans A.a0, va_up_self _ _ _, (lo _ (by decide) (by omega)).trans A.a2, (lo _ (by decide) (by omega)).trans A.a3, (lo _ (by decide) (by omega)).trans A.a4, (lo _ (by decide) (by omega)).trans A.a5, fun y k hy hk => ?_, fun y hy => ?_, fun y hy => ?_, fun t ht => ?_, fun t ht y hy => ?_, fun i hi => ?_, fun j hj => ?_⟩ (thG_eq G.le.2.1) rfl rfl
      · have hy : y < g.c.N := hy
        exact (lo _ (by omega) (by omega)).trans (A.ca y k hy hk)
      · have hy : y < g.c.N := hy
        exact (lo _ (by omega) (by omega)).trans (A.co y hy)
      · have hy : y < g.c.N := hy
        exact (lo _ (by omega) (by omega)).trans (A.ha y hy)
      · have ht : t < g.c.n + 1 := ht
        show _ = nI (va_up _ _ _ _) ∧ _ = nI (va_up _ _ _ _) ∧ _ = va_up _ _ _ _ ∧ _ = nI (va_up _ _ _ _)
        by_cases e : t = g.c.n
        · subst e
          simp only [va_up_self]
          rw [va_up_ne _ _ (by omega), va_up_ne _ _ (by omega), va_up_ne _ _ (by omega), va_up_ne _ _ (by omega), clrT_ne (fun x hx => by omega) 14 (Nat.le_refl _), clrT_ne (fun x hx => by omega) 14 (Nat.le_refl _), clrT_ne (fun x hx => by omega) 14 (Nat.le_refl _), clrT_ne (fun x hx => by omega) 14 (Nat.le_refl _)]
          unfold thingA
          refine ⟨?_, ?_, ?_, ?_⟩
          · rw [va_up_ne _ _ (by omega), va_up_ne _ _ (by omega), va_up_ne _ _ (by omega), va_up_self]; exact q1.1
          · rw [va_up_ne _ _ (by omega), va_up_ne _ _ (by omega), va_up_self]; exact q2.1
          · rw [va_up_ne _ _ (by omega), va_up_self]; exact hl2
          · rw [va_up_self]; exact q3.1
        · simp only [va_up_ne (α := Nat) _ _ e, va_up_ne g.d.le _ e]
          exact ⟨(lo _ (by omega) (by omega)).trans (A.th t (by omega)).1, (lo _ (by omega) (by omega)).trans (A.th t (by omega)).2.1, (lo _ (by omega) (by omega)).trans (A.th t (by omega)).2.2.1, (lo _ (by omega) (by omega)).trans (A.th t (by omega)).2.2.2⟩
      · have ht : t < g.c.n + 1 := ht
        have hy : y < g.c.N := hy
        show _ = g.c.an (t * 14 + y)
        rw [va_up_ne _ _ (by omega)]
        by_cases e : t = g.c.n
        · subst e
          rw [clrT_at 14 (by omega)]
          exact (K.hZ _ (by omega) _ (by omega) (Or.inl (Nat.le_refl _))).symm
        · rw [clrT_ne (fun x hx => by omega) 14 (Nat.le_refl _)]
          unfold thingA
          rw [va_up_ne _ _ (by omega), va_up_ne _ _ (by omega), va_up_ne _ _ (by omega), va_up_ne _ _ (by omega)]
          exact A.an t (by omega) y hy
      · have hi : i < g.c.nl := hi
        exact ⟨(lo _ (by omega) (by omega)).trans (A.lk i hi).1, (lo _ (by omega) (by omega)).trans (A.lk i hi).2⟩
      · have hj : j < g.c.ns := hj
        exact ⟨(lo _ (by omega) (by omega)).trans (A.ld j hj).1, (lo _ (by omega) (by omega)).trans (A.ld j hj).2⟩
/-- an answer -/
def anG (g : Gh) (x y v : Int32) : Gh := (Cn.mk g.c.N g.c.n g.c.tcn g.c.nl g.c.ns g.c.cst g.c.S0 g.c.co (va_up g.c.an (x.toNatClampNeg * 14 + y.toNatClampNeg) v), g.k, g.d, g.L, g.tb, g.fa, g.fp)
theorem two_answer {h : AH} {g : Gh} {drn : Nat} (I : InvC h g drn) (G : GhOK g) (x y v : Int32) : Two h g drn M_X10_answer M_X11_answer [.int x, .int y, .int v] := by
  have K := G.c
  have hN := K.hN
  have hn := K.hn
  have hnl := K.hnl
  have hns := K.hns
  obtain ⟨ks, gs, ps, t1, t2, t3, t4, t5, t6, t7⟩ := I.th
  obtain ⟨hN0, hca, sx, wt, hm, wo, H_ch, -⟩ := id I.ch
  have key : (0 ≤ x ∧ x < nI g.c.n ∧ 0 ≤ y ∧ y < nI g.c.N ∧ -1 ≤ v ∧ v ≤ 99) → (x = nI x.toNatClampNeg ∧ x.toNatClampNeg < g.c.n) ∧ (y = nI y.toNatClampNeg ∧ y.toNatClampNeg < g.c.N) ∧ (v = -1 ∨ ∃ w, w ≤ 99 ∧ v = nI w) := fun z =>
    ⟨cl_lt (by omega) ⟨z.1, z.2.1⟩, cl_lt (by omega) ⟨z.2.2.1, z.2.2.2.1⟩, by
      by_cases e : v = -1
      · exact Or.inl e
      · obtain ⟨k, hk, rfl⟩ := i_nat z.2.2.2.2.1 e
        exact Or.inr ⟨k, i_le (b := 99) hk (by decide) z.2.2.2.2.2, rfl⟩⟩
  refine Two.pOx (g' := anG g x y v) I G (fun z => ?_) (s_X10_answer (x := x) (y := y) (v := v) I.mc t1 H_ch t6 ((nI_leI (b := 12) (by omega) (by decide)).mpr hn) ((nI_leI (b := 14) (by omega) (by decide)).mpr hN)) (fun z => ?_) (fun h' J => ?_)
  · obtain ⟨q1, q2, q3⟩ := key z
    refine ⟨⟨K.hN, K.hn, K.htc, K.hnl, K.hns, K.hcst, K.hS0, K.hco, K.hca, K.hth, fun t ht c hc => ?_, fun t ht c hc hz => ?_, K.hlk, K.hld, K.htx⟩, G.k, G.le, G.L, G.tb⟩
    · show va_up _ _ _ _ = -1 ∨ ∃ w, w ≤ 99 ∧ va_up _ _ _ _ = nI w
      by_cases e : t * 14 + c = x.toNatClampNeg * 14 + y.toNatClampNeg
      · rw [e, va_up_self]; exact q3
      · rw [va_up_ne _ _ e]; exact K.hV t ht c hc
    · have hz : g.c.n ≤ t ∨ g.c.N ≤ c := hz
      show va_up _ _ _ _ = -1
      rw [va_up_ne _ _ (by omega)]
      exact K.hZ t ht c hc hz
  · obtain ⟨q1, q2, q3⟩ := key z
    have e : (x * 14 + y).toNatClampNeg = x.toNatClampNeg * 14 + y.toNatClampNeg := by
      have : x * 14 + y = nI (x.toNatClampNeg * 14 + y.toNatClampNeg) := by
        rw [q1.1, q2.1, nI_clamp (by omega), nI_clamp (by omega)]; simp only [fa_lit, nI_add, pk_mul]
      rw [this, nI_clamp (by omega)]
    rw [e]
    have F : Fr [11] h (up h 11 (aI 168 (va_up g.c.an (x.toNatClampNeg * 14 + y.toNatClampNeg) v))) := (Fr.refl _ _).up (by decide)
    exact ⟨⟨Nat.lt_of_lt_of_le I.sz F.2.1, F.hs I.mc (by decide), I.ch.o F.z (by decide), ⟨ks, gs, ps, t1.n (by decide), t2.n (by decide), t3.n (by decide), t4.n (by decide), t5.n (by decide), t6.s, t7⟩, I.lk.o F.z (by decide), I.ld.o F.z (by decide), I.rw.o F.z (by decide), I.tp.o F.z (by decide), I.tt.o K.htc F.z (by decide), I.rd.o F.z (by decide), JuC.o I.ju F.z (by decide), I.de.o F (by decide) (by decide), I.ta.o F.z (by decide), I.tb.o F.z (by decide), I.fa.o F.z (by decide), I.im.o F.z (by decide)⟩, KeepM.r F (by decide)⟩
  · obtain ⟨mup, mlo, mln, mat, mtk, mso, mto, mwr, mwp, mop, mfs, mws, mst, mnc, mnk, mnr, mdn, mgu, mgl, H_md⟩ := J.md
    obtain ⟨a, H_a, A⟩ := J.a
    have h00 : 0 ≤ a 0 := by rw [A.a0]; exact (nI_leI (a := 0) (by decide) (by omega)).mpr (Nat.zero_le _)
    have h01 : a 0 ≤ 14 := by rw [A.a0]; exact (nI_leI (b := 14) (by omega) (by decide)).mpr hN
    have h10 : 0 ≤ a 1 := by rw [A.a1]; exact (nI_leI (a := 0) (by decide) (by omega)).mpr (Nat.zero_le _)
    have h11 : a 1 ≤ 12 := by rw [A.a1]; exact (nI_leI (b := 12) (by omega) (by decide)).mpr hn
    refine ⟨_, _, _, s_X11_answer (x := x) (y := y) (v := v) H_md H_a h00 h01 h10 h11, ?_, fun z => ⟨rfl, ?_⟩⟩
    · rw [A.a0, A.a1]
      constructor
      · intro z
        have z1 := (gd_1 (n := g.c.n) (by omega)).mpr ⟨z.1, z.2.1⟩
        have z2 := (gd_1 (n := g.c.N) (by omega)).mpr ⟨z.2.2.1, z.2.2.2.1⟩
        exact ⟨z1.1, z1.2, z2.1, z2.2, z.2.2.2.2⟩
      · intro z
        have z1 := (gd_1 (n := g.c.n) (by omega)).mp ⟨z.1, z.2.1⟩
        have z2 := (gd_1 (n := g.c.N) (by omega)).mp ⟨z.2.2.1, z.2.2.2.1⟩
        exact ⟨z1.1, z1.2, z2.1, z2.2, z.2.2.2.2⟩
    · obtain ⟨q1, q2, q3⟩ := key z
      have lo : ∀ j, j ≠ 150 + 14 * x.toNatClampNeg + y.toNatClampNeg → va_up a (150 + 14 * x.toNatClampNeg + y.toNatClampNeg) v j = a j := fun j hj => va_up_ne _ _ hj
      refine J.seta H_a (c' := (anG g x y v).c) ⟨(lo _ (by omega)).trans A.a0, (lo _ (by omega)).trans A.a1, (lo _ (by omega)).trans A.a2, (lo _ (by omega)).trans A.a3, (lo _ (by omega)).trans A.a4, (lo _ (by omega)).trans A.a5, fun u k hu hk => ?_, fun u hu => ?_, fun u hu => ?_, fun t ht => ?_, fun t ht u hu => ?_, fun i hi => ?_, fun j hj => ?_⟩ DaEq.rf rfl rfl
      · have hu : u < g.c.N := hu
        exact (lo _ (by omega)).trans (A.ca u k hu hk)
      · have hu : u < g.c.N := hu
        exact (lo _ (by omega)).trans (A.co u hu)
      · have hu : u < g.c.N := hu
        exact (lo _ (by omega)).trans (A.ha u hu)
      · have ht : t < g.c.n := ht
        exact ⟨(lo _ (by omega)).trans (A.th t ht).1, (lo _ (by omega)).trans (A.th t ht).2.1, (lo _ (by omega)).trans (A.th t ht).2.2.1, (lo _ (by omega)).trans (A.th t ht).2.2.2⟩
      · have ht : t < g.c.n := ht
        have hu : u < g.c.N := hu
        show _ = va_up g.c.an (x.toNatClampNeg * 14 + y.toNatClampNeg) v (t * 14 + u)
        by_cases e : t = x.toNatClampNeg ∧ u = y.toNatClampNeg
        · rw [e.1, e.2, va_up_self, va_up_self]
        · rw [lo _ (by omega), va_up_ne _ _ (by omega)]; exact A.an t ht u hu
      · have hi : i < g.c.nl := hi
        exact ⟨(lo _ (by omega)).trans (A.lk i hi).1, (lo _ (by omega)).trans (A.lk i hi).2⟩
      · have hj : j < g.c.ns := hj
        exact ⟨(lo _ (by omega)).trans (A.ld j hj).1, (lo _ (by omega)).trans (A.ld j hj).2⟩
def csG (g : Gh) (v : Int32) : Gh := (Cn.mk g.c.N g.c.n g.c.tcn g.c.nl g.c.ns v.toNatClampNeg g.c.S0 g.c.co g.c.an, g.k, g.d, g.L, g.tb, g.fa, g.fp)
theorem cl_ge {x : Int32} {a b : Nat} (ha : a < 2 ^ 31) (hb : b < 2 ^ 31) (h : nI a ≤ x ∧ x ≤ nI b) : x = nI x.toNatClampNeg ∧ a ≤ x.toNatClampNeg ∧ x.toNatClampNeg ≤ b := by
  obtain ⟨k, hk, rfl⟩ := i_nat (i := x) (Int32.le_trans (Int32.le_trans (by decide) ((nI_leI (a := 0) (by decide) ha).mpr (Nat.zero_le _))) h.1) (fun z => by rw [z] at h; exact absurd (Int32.le_trans ((nI_leI (a := 0) (by decide) ha).mpr (Nat.zero_le _)) h.1) (by decide))
  rw [nI_clamp hk]
  exact ⟨rfl, i_le ha hk h.1, i_le hk hb h.2⟩
theorem two_costs {h : AH} {g : Gh} {drn : Nat} (I : InvC h g drn) (G : GhOK g) (v : Int32) : Two h g drn M_X10_costs M_X11_costs [.int v] := by
  have K := G.c
  have hN := K.hN
  have hn := K.hn
  have hnl := K.hnl
  have hns := K.hns
  have key : (1 ≤ v ∧ v ≤ 9999) → v = nI v.toNatClampNeg ∧ 1 ≤ v.toNatClampNeg ∧ v.toNatClampNeg ≤ 9999 := fun z => cl_ge (a := 1) (b := 9999) (by decide) (by decide) z
  refine Two.pOx (g' := csG g v) I G (fun z => ?_) (s_X10_costs (v := v) I.mc) (fun z => ?_) (fun h' J => ?_)
  · obtain ⟨q1, q2⟩ := key z
    exact ⟨⟨K.hN, K.hn, K.htc, K.hnl, K.hns, q2, K.hS0, K.hco, K.hca, K.hth, K.hV, K.hZ, K.hlk, K.hld, K.htx⟩, G.k, G.le, G.L, G.tb⟩
  · obtain ⟨q1, q2⟩ := key z
    have F : Fr [0] h (up h 0 (oMC (nI g.c.tcn) (nI g.L) g.fa g.fp v)) := (Fr.refl _ _).up (by decide)
    exact ⟨⟨Nat.lt_of_lt_of_le I.sz F.2.1, by show Hs _ 0 (oMC (nI g.c.tcn) (nI g.L) g.fa g.fp (nI v.toNatClampNeg)); rw [← q1]; exact I.mc.s, I.ch.o F.z (by decide), I.th.o F.z (by decide), I.lk.o F.z (by decide), I.ld.o F.z (by decide), I.rw.o F.z (by decide), I.tp.o F.z (by decide), I.tt.o K.htc F.z (by decide), I.rd.o F.z (by decide), JuC.o I.ju F.z (by decide), I.de.o F (by decide) (by decide), I.ta.o F.z (by decide), I.tb.o F.z (by decide), I.fa.o F.z (by decide), I.im.o F.z (by decide)⟩, KeepM.r F (by decide)⟩
  · obtain ⟨mup, mlo, mln, mat, mtk, mso, mto, mwr, mwp, mop, mfs, mws, mst, mnc, mnk, mnr, mdn, mgu, mgl, H_md⟩ := J.md
    obtain ⟨a, H_a, A⟩ := J.a
    refine ⟨_, _, _, s_X11_costs (v := v) H_md H_a, Iff.rfl, fun z => ⟨rfl, ?_⟩⟩
    obtain ⟨q1, q2⟩ := key z
    have lo : ∀ j, j ≠ 5 → va_up a 5 v j = a j := fun j hj => va_up_ne _ _ hj
    exact J.seta H_a (c' := (csG g v).c) ⟨(lo _ (by omega)).trans A.a0, (lo _ (by omega)).trans A.a1, (lo _ (by omega)).trans A.a2, (lo _ (by omega)).trans A.a3, (lo _ (by omega)).trans A.a4, (va_up_self _ _ _).trans q1, fun u k hu hk => (lo _ (by omega)).trans (A.ca u k hu hk), fun u hu => (lo _ (by omega)).trans (A.co u hu), fun u hu => (lo _ (by omega)).trans (A.ha u hu), fun t ht => ⟨(lo _ (by omega)).trans (A.th t ht).1, (lo _ (by omega)).trans (A.th t ht).2.1, (lo _ (by omega)).trans (A.th t ht).2.2.1, (lo _ (by omega)).trans (A.th t ht).2.2.2⟩, fun t ht u hu => (lo _ (by omega)).trans (A.an t ht u hu), fun i hi => ⟨(lo _ (by omega)).trans (A.lk i hi).1, (lo _ (by omega)).trans (A.lk i hi).2⟩, fun j hj => ⟨(lo _ (by omega)).trans (A.ld j hj).1, (lo _ (by omega)).trans (A.ld j hj).2⟩⟩ DaEq.rf rfl rfl
/-- a step more -/
def stG (g : Gh) (x y : Int32) : Gh := (Cn.mk g.c.N g.c.n g.c.tcn g.c.nl (g.c.ns + 1) g.c.cst g.c.S0 g.c.co g.c.an, g.k, Da.mk g.d.ca g.d.ki g.d.ag g.d.pr g.d.le g.d.lf g.d.lt (va_up g.d.lo g.c.ns x.toInt) (va_up g.d.hi g.c.ns y.toInt) g.d.tx, g.L, g.tb, g.fa, g.fp)
theorem stG_eq {g : Gh} {x y : Int32} {z : Cn} (h : z.ns ≤ g.c.ns) : DaEq z g.d (stG g x y).d :=
  ⟨fun _ _ _ _ => rfl, fun _ _ => ⟨rfl, rfl, rfl, rfl⟩, fun _ _ => ⟨rfl, rfl⟩, fun j hj => ⟨va_up_ne _ _ (by omega), va_up_ne _ _ (by omega)⟩, fun _ _ => rfl⟩
theorem two_step {h : AH} {g : Gh} {drn : Nat} (I : InvC h g drn) (G : GhOK g) (x y : Int32) : Two h g drn M_X10_step M_X11_step [.int x, .int y] := by
  have K := G.c
  have hN := K.hN
  have hn := K.hn
  have hnl := K.hnl
  have hns := K.hns
  have hcl : (nI g.c.ns).toNatClampNeg = g.c.ns := nI_clamp (by omega)
  obtain ⟨l, u, l1, l2, l3, l4⟩ := I.ld
  have key : (-100 ≤ x ∧ y ≤ 200 ∧ x ≤ y ∧ nI g.c.ns < 8) → g.c.ns < 8 ∧ (-100 ≤ x.toInt ∧ x.toInt ≤ y.toInt ∧ y.toInt ≤ 200) := fun z =>
    ⟨i_lt (b := 8) (by omega) (by decide) z.2.2.2, Int32.le_iff_toInt_le.mp z.1, Int32.le_iff_toInt_le.mp z.2.2.1, Int32.le_iff_toInt_le.mp z.2.1⟩
  refine Two.pOx (g' := stG g x y) I G (fun z => ?_) (s_X10_step (x := x) (y := y) I.mc l1 l2 l3 ((nI_leI (a := 0) (by decide) (by omega)).mpr (Nat.zero_le _))) (fun z => ?_) (fun h' J => ?_)
  · obtain ⟨q0, q1, q2, q3⟩ := key z
    refine ⟨⟨K.hN, K.hn, K.htc, K.hnl, by show g.c.ns + 1 ≤ 8; omega, K.hcst, K.hS0, K.hco, K.hca, K.hth, K.hV, K.hZ, K.hlk, fun j hj => ?_, K.htx⟩, G.k.cong (stG_eq G.le.2.2.2.2), ⟨G.le.1, G.le.2.1, G.le.2.2.1, G.le.2.2.2.1, Nat.le_succ_of_le G.le.2.2.2.2⟩, G.L, G.tb⟩
    have hj : j < g.c.ns + 1 := hj
    show (-200 ≤ va_up _ _ _ _ ∧ va_up _ _ _ _ ≤ 200) ∧ -200 ≤ va_up _ _ _ _ ∧ va_up _ _ _ _ ≤ 200
    by_cases e : j = g.c.ns
    · subst e
      simp only [va_up_self]
      omega
    · simp only [va_up_ne _ _ e]
      exact K.hld j (by omega)
  · obtain ⟨q0, q1, q2, q3⟩ := key z
    rw [hcl]
    have F : Fr [17, 18, 19] h (up (up (up h 18 (aI 8 (va_up l g.c.ns x))) 19 (aI 8 (va_up u g.c.ns y))) 17 (oLd (nI g.c.ns + 1))) := (((Fr.refl _ _).up (by decide)).up (by decide)).up (by decide)
    refine ⟨⟨Nat.lt_of_lt_of_le I.sz F.2.1, F.hs I.mc (by decide), I.ch.o F.z (by decide), I.th.o F.z (by decide), I.lk.o F.z (by decide), ⟨va_up l g.c.ns x, va_up u g.c.ns y, by show Hs _ 17 (oLd (nI (g.c.ns + 1))); rw [← nI_1]; exact Hs.s ((l1.n (by decide)).n (by decide)), ((l2.s).n (by decide)).n (by decide), ((l3.n (by decide)).s).n (by decide), fun j hj => ?_⟩, I.rw.o F.z (by decide), I.tp.o F.z (by decide), I.tt.o K.htc F.z (by decide), I.rd.o F.z (by decide), JuC.o I.ju F.z (by decide), I.de.o F (by decide) (by decide), I.ta.o F.z (by decide), I.tb.o F.z (by decide), I.fa.o F.z (by decide), I.im.o F.z (by decide)⟩, KeepM.r F (by decide)⟩
    have hj : j < g.c.ns + 1 := hj
    show va_up _ _ _ _ = Int32.ofInt (va_up _ _ _ _) ∧ va_up _ _ _ _ = Int32.ofInt (va_up _ _ _ _)
    by_cases e : j = g.c.ns
    · subst e
      simp only [va_up_self, Int32.ofInt_toInt]
      exact ⟨trivial, trivial⟩
    · simp only [va_up_ne _ _ e]
      exact l4 j (by omega)
  · obtain ⟨mup, mlo, mln, mat, mtk, mso, mto, mwr, mwp, mop, mfs, mws, mst, mnc, mnk, mnr, mdn, mgu, mgl, H_md⟩ := J.md
    obtain ⟨a, H_a, A⟩ := J.a
    refine ⟨_, _, _, s_X11_step (x := x) (y := y) H_md H_a A.a4 hns, ?_, fun z => ⟨(nI_1 _).symm, ?_⟩⟩
    · have : nI g.c.ns < 8 ↔ g.c.ns < 8 := nI_ltI (b := 8) (by omega) (by decide)
      rw [this]
      exact ⟨fun z => ⟨z.1, z.2.2.2.1, z.2.2.1, z.2.2.2.2⟩, fun z => ⟨z.1, Int32.le_trans z.2.2.1 z.2.1, z.2.2.1, z.2.1, z.2.2.2⟩⟩
    · obtain ⟨q0, q1, q2, q3⟩ := key z
      have lo : ∀ j, j ≠ 4 → j < 360 + 2 * g.c.ns → va_up (va_up (va_up a (360 + 2 * g.c.ns) x) (360 + 2 * g.c.ns + 1) y) 4 (nI (g.c.ns + 1)) j = a j := fun j h0 hj => by
        rw [va_up_ne _ _ h0, va_up_ne _ _ (by omega), va_up_ne _ _ (by omega)]
      refine J.seta H_a (c' := (stG g x y).c) ⟨(lo _ (by decide) (by omega)).trans A.a0, (lo _ (by decide) (by omega)).trans A.a1, (lo _ (by decide) (by omega)).trans A.a2, (lo _ (by decide) (by omega)).trans A.a3, va_up_self _ _ _, (lo _ (by decide) (by omega)).trans A.a5, fun w k hw hk => ?_, fun w hw => ?_, fun w hw => ?_, fun t ht => ?_, fun t ht w hw => ?_, fun i hi => ?_, fun j hj => ?_⟩ (stG_eq G.le.2.2.2.2) rfl rfl
      · have hw : w < g.c.N := hw
        exact (lo _ (by omega) (by omega)).trans (A.ca w k hw hk)
      · have hw : w < g.c.N := hw
        exact (lo _ (by omega) (by omega)).trans (A.co w hw)
      · have hw : w < g.c.N := hw
        exact (lo _ (by omega) (by omega)).trans (A.ha w hw)
      · have ht : t < g.c.n := ht
        exact ⟨(lo _ (by omega) (by omega)).trans (A.th t ht).1, (lo _ (by omega) (by omega)).trans (A.th t ht).2.1, (lo _ (by omega) (by omega)).trans (A.th t ht).2.2.1, (lo _ (by omega) (by omega)).trans (A.th t ht).2.2.2⟩
      · have ht : t < g.c.n := ht
        have hw : w < g.c.N := hw
        exact (lo _ (by omega) (by omega)).trans (A.an t ht w hw)
      · have hi : i < g.c.nl := hi
        exact ⟨(lo _ (by omega) (by omega)).trans (A.lk i hi).1, (lo _ (by omega) (by omega)).trans (A.lk i hi).2⟩
      · have hj : j < g.c.ns + 1 := hj
        show _ = Int32.ofInt (va_up _ _ _ _) ∧ _ = Int32.ofInt (va_up _ _ _ _)
        by_cases e : j = g.c.ns
        · subst e
          refine ⟨?_, ?_⟩
          · rw [va_up_self g.d.lo, Int32.ofInt_toInt, va_up_ne (α := Int32) _ _ (by omega), va_up_ne (α := Int32) _ _ (by omega), va_up_self]
          · rw [va_up_self g.d.hi, Int32.ofInt_toInt, va_up_ne (α := Int32) _ _ (by omega), va_up_self]
        · rw [va_up_ne g.d.lo _ e, va_up_ne g.d.hi _ e]
          exact ⟨(lo _ (by omega) (by omega)).trans (A.ld j (by omega)).1, (lo _ (by omega) (by omega)).trans (A.ld j (by omega)).2⟩
/-- a link more -/
def lkG (g : Gh) (x y : Int32) : Gh := (Cn.mk g.c.N g.c.n g.c.tcn (g.c.nl + 1) g.c.ns g.c.cst g.c.S0 g.c.co g.c.an, g.k, Da.mk g.d.ca g.d.ki g.d.ag g.d.pr g.d.le (va_up g.d.lf g.c.nl x.toNatClampNeg) (va_up g.d.lt g.c.nl y.toNatClampNeg) g.d.lo g.d.hi g.d.tx, g.L, g.tb, g.fa, g.fp)
theorem lkG_eq {g : Gh} {x y : Int32} {z : Cn} (h : z.nl ≤ g.c.nl) : DaEq z g.d (lkG g x y).d :=
  ⟨fun _ _ _ _ => rfl, fun _ _ => ⟨rfl, rfl, rfl, rfl⟩, fun j hj => ⟨va_up_ne _ _ (by omega), va_up_ne _ _ (by omega)⟩, fun _ _ => ⟨rfl, rfl⟩, fun _ _ => rfl⟩
theorem two_link {h : AH} {g : Gh} {drn : Nat} (I : InvC h g drn) (G : GhOK g) (x y : Int32) : Two h g drn M_X10_link M_X11_link [.int x, .int y] := by
  have K := G.c
  have hN := K.hN
  have hn := K.hn
  have hnl := K.hnl
  have hns := K.hns
  have hcl : (nI g.c.nl).toNatClampNeg = g.c.nl := nI_clamp (by omega)
  obtain ⟨ks, gs, ps, t1, t2, t3, t4, t5, t6, t7⟩ := I.th
  obtain ⟨a0, b0, fr, to, v1, v2, few0, ways0, k1, k2, k3, k4, k5, k6, k7⟩ := I.lk
  have key : (0 ≤ x ∧ x < nI g.c.n ∧ 0 ≤ y ∧ y < nI g.c.n ∧ gs x.toNatClampNeg < gs y.toNatClampNeg ∧ (nI g.c.nl < 20 ∧ ∀ j, j < g.c.nl → ¬ (fr j = x ∧ to j = y))) → g.c.nl < 20 ∧ (x = nI x.toNatClampNeg ∧ x.toNatClampNeg < g.c.n) ∧ (y = nI y.toNatClampNeg ∧ y.toNatClampNeg < g.c.n) ∧ g.d.ag x.toNatClampNeg < g.d.ag y.toNatClampNeg := fun z => by
    have q1 := cl_lt (b := g.c.n) (by omega) ⟨z.1, z.2.1⟩
    have q2 := cl_lt (b := g.c.n) (by omega) ⟨z.2.2.1, z.2.2.2.1⟩
    refine ⟨i_lt (b := 20) (by omega) (by decide) z.2.2.2.2.2.1, q1, q2, ?_⟩
    have := z.2.2.2.2.1
    rw [(t7 _ q1.2).2.1, (t7 _ q2.2).2.1] at this
    have h1 := (K.hth _ q1.2).2.1
    have h2 := (K.hth _ q2.2).2.1
    exact i_lt (by omega) (by omega) this
  refine Two.pOx (g' := lkG g x y) I G (fun z => ?_) (s_X10_link (x := x) (y := y) I.mc t1 t3 k2 k3 k4 hnl ((nI_leI (b := 12) (by omega) (by decide)).mpr hn)) (fun z => ?_) (fun h' J => ?_)
  · obtain ⟨q0, q1, q2, q3⟩ := key z
    refine ⟨⟨K.hN, K.hn, K.htc, by show g.c.nl + 1 ≤ 20; omega, K.hns, K.hcst, K.hS0, K.hco, K.hca, K.hth, K.hV, K.hZ, fun j hj => ?_, K.hld, K.htx⟩, G.k.cong (lkG_eq G.le.2.2.2.1), ⟨G.le.1, G.le.2.1, G.le.2.2.1, Nat.le_succ_of_le G.le.2.2.2.1, G.le.2.2.2.2⟩, G.L, G.tb⟩
    have hj : j < g.c.nl + 1 := hj
    show va_up _ _ _ _ < g.c.n ∧ va_up _ _ _ _ < g.c.n ∧ g.d.ag (va_up _ _ _ _) < g.d.ag (va_up _ _ _ _)
    by_cases e : j = g.c.nl
    · subst e
      simp only [va_up_self]
      exact ⟨q1.2, q2.2, q3⟩
    · simp only [va_up_ne _ _ e]
      exact K.hlk j (by omega)
  · obtain ⟨q0, q1, q2, q3⟩ := key z
    rw [hcl]
    have F : Fr [12, 13, 14] h (up (up (up h 13 (aI 20 (va_up fr g.c.nl x))) 14 (aI 20 (va_up to g.c.nl y))) 12 (oLk a0 b0 (nI g.c.nl + 1) few0 ways0)) := (((Fr.refl _ _).up (by decide)).up (by decide)).up (by decide)
    refine ⟨⟨Nat.lt_of_lt_of_le I.sz F.2.1, F.hs I.mc (by decide), I.ch.o F.z (by decide), I.th.o F.z (by decide), ⟨a0, b0, va_up fr g.c.nl x, va_up to g.c.nl y, v1, v2, few0, ways0, k1, by show Hs _ 12 (oLk a0 b0 (nI (g.c.nl + 1)) few0 ways0); rw [← nI_1]; exact Hs.s ((k2.n (by decide)).n (by decide)), ((k3.s).n (by decide)).n (by decide), ((k4.n (by decide)).s).n (by decide), F.hs k5 (by rcases k1 with ⟨e, -⟩ | ⟨e, -⟩ <;> rw [e] <;> decide), F.hs k6 (by rcases k1 with ⟨-, e⟩ | ⟨-, e⟩ <;> rw [e] <;> decide), fun j hj => ?_⟩, I.ld.o F.z (by decide), I.rw.o F.z (by decide), I.tp.o F.z (by decide), I.tt.o K.htc F.z (by decide), I.rd.o F.z (by decide), JuC.o I.ju F.z (by decide), I.de.o F (by decide) (by decide), I.ta.o F.z (by decide), I.tb.o F.z (by decide), I.fa.o F.z (by decide), I.im.o F.z (by decide)⟩, KeepM.r F (by decide)⟩
    have hj : j < g.c.nl + 1 := hj
    show va_up _ _ _ _ = nI (va_up _ _ _ _) ∧ va_up _ _ _ _ = nI (va_up _ _ _ _)
    by_cases e : j = g.c.nl
    · subst e
      simp only [va_up_self]
      exact ⟨q1.1, q2.1⟩
    · simp only [va_up_ne _ _ e]
      exact k7 j (by omega)
  · obtain ⟨mup, mlo, mln, mat, mtk, mso, mto, mwr, mwp, mop, mfs, mws, mst, mnc, mnk, mnr, mdn, mgu, mgl, H_md⟩ := J.md
    obtain ⟨a, H_a, A⟩ := J.a
    have h10 : 0 ≤ a 1 := by rw [A.a1]; exact (nI_leI (a := 0) (by decide) (by omega)).mpr (Nat.zero_le _)
    have h11 : a 1 ≤ 12 := by rw [A.a1]; exact (nI_leI (b := 12) (by omega) (by decide)).mpr hn
    refine ⟨_, _, _, s_X11_link (x := x) (y := y) H_md H_a h10 h11 A.a3 hnl, ?_, fun z => ⟨(nI_1 _).symm, ?_⟩⟩
    · have el : nI g.c.nl < 20 ↔ g.c.nl < 20 := nI_ltI (b := 20) (by omega) (by decide)
      have eq : ∀ j, j < g.c.nl → ((a (320 + 2 * j) = x ∧ a (320 + 2 * j + 1) = y) ↔ (fr j = x ∧ to j = y)) := fun j hj => by
        rw [(A.lk j hj).1, (A.lk j hj).2, (k7 j hj).1, (k7 j hj).2]
      have ag : ∀ w : Int32, (0 ≤ w ∧ w < nI g.c.n) → a (100 + 4 * w.toNatClampNeg + 1) = gs w.toNatClampNeg := fun w hw => by
        have := cl_lt (b := g.c.n) (by omega) hw
        rw [(A.th _ this.2).2.1, (t7 _ this.2).2.1]
      rw [A.a1]
      constructor
      · intro z
        have z1 := (gd_1 (n := g.c.n) (by omega)).mpr ⟨z.1, z.2.1⟩
        have z2 := (gd_1 (n := g.c.n) (by omega)).mpr ⟨z.2.2.1, z.2.2.2.1⟩
        refine ⟨z1.1, z1.2, z2.1, z2.2, ?_, el.mpr z.2.2.2.2.2.1, fun j hj q => z.2.2.2.2.2.2 j hj ((eq j hj).mpr q)⟩
        have := z.2.2.2.2.1
        rwa [ag x z1, ag y z2] at this
      · intro z
        have z1 := (gd_1 (n := g.c.n) (by omega)).mp ⟨z.1, z.2.1⟩
        have z2 := (gd_1 (n := g.c.n) (by omega)).mp ⟨z.2.2.1, z.2.2.2.1⟩
        refine ⟨z1.1, z1.2, z2.1, z2.2, ?_, el.mp z.2.2.2.2.2.1, fun j hj q => z.2.2.2.2.2.2 j hj ((eq j hj).mp q)⟩
        rw [ag x ⟨z.1, z.2.1⟩, ag y ⟨z.2.2.1, z.2.2.2.1⟩]
        exact z.2.2.2.2.1
    · obtain ⟨q0, q1, q2, q3⟩ := key z
      have lo : ∀ j, j ≠ 3 → (j < 320 + 2 * g.c.nl ∨ 320 + 2 * g.c.nl + 1 < j) → va_up (va_up (va_up a (320 + 2 * g.c.nl) x) (320 + 2 * g.c.nl + 1) y) 3 (nI (g.c.nl + 1)) j = a j := fun j h0 hj => by
        rw [va_up_ne _ _ h0, va_up_ne _ _ (by omega), va_up_ne _ _ (by omega)]
      refine J.seta H_a (c' := (lkG g x y).c) ⟨(lo _ (by decide) (by omega)).trans A.a0, (lo _ (by decide) (by omega)).trans A.a1, (lo _ (by decide) (by omega)).trans A.a2, va_up_self _ _ _, (lo _ (by decide) (by omega)).trans A.a4, (lo _ (by decide) (by omega)).trans A.a5, fun w k hw hk => ?_, fun w hw => ?_, fun w hw => ?_, fun t ht => ?_, fun t ht w hw => ?_, fun i hi => ?_, fun j hj => ?_⟩ (lkG_eq G.le.2.2.2.1) rfl rfl
      · have hw : w < g.c.N := hw
        exact (lo _ (by omega) (by omega)).trans (A.ca w k hw hk)
      · have hw : w < g.c.N := hw
        exact (lo _ (by omega) (by omega)).trans (A.co w hw)
      · have hw : w < g.c.N := hw
        exact (lo _ (by omega) (by omega)).trans (A.ha w hw)
      · have ht : t < g.c.n := ht
        exact ⟨(lo _ (by omega) (by omega)).trans (A.th t ht).1, (lo _ (by omega) (by omega)).trans (A.th t ht).2.1, (lo _ (by omega) (by omega)).trans (A.th t ht).2.2.1, (lo _ (by omega) (by omega)).trans (A.th t ht).2.2.2⟩
      · have ht : t < g.c.n := ht
        have hw : w < g.c.N := hw
        exact (lo _ (by omega) (by omega)).trans (A.an t ht w hw)
      · have hi : i < g.c.nl + 1 := hi
        show _ = nI (va_up _ _ _ _) ∧ _ = nI (va_up _ _ _ _)
        by_cases e : i = g.c.nl
        · subst e
          refine ⟨?_, ?_⟩
          · rw [va_up_self g.d.lf, va_up_ne (α := Int32) _ _ (by omega), va_up_ne (α := Int32) _ _ (by omega), va_up_self]; exact q1.1
          · rw [va_up_self g.d.lt, va_up_ne (α := Int32) _ _ (by omega), va_up_self]; exact q2.1
        · rw [va_up_ne g.d.lf _ e, va_up_ne g.d.lt _ e]
          exact ⟨(lo _ (by omega) (by omega)).trans (A.lk i (by omega)).1, (lo _ (by omega) (by omega)).trans (A.lk i (by omega)).2⟩
      · have hj : j < g.c.ns := hj
        exact ⟨(lo _ (by omega) (by omega)).trans (A.ld j hj).1, (lo _ (by omega) (by omega)).trans (A.ld j hj).2⟩
