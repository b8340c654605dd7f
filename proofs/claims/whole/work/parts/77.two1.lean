/-! BOTH ANSWER ALIKE: the calls that ask -/
theorem Two.mk1 {h : AH} {g g' : Gh} {drn : Nat} {M1 M2 : MD} {av : List Value} {X : Int32} {P : AH → Prop} (hd : drn ≤ 16384) (hg : GhOK g') (h1 : Sp M1 (0, 0) h (.ref 0 :: av) (rI fun x h' => x = X ∧ P h')) (hP : ∀ h', P h' → InvC h' g' drn ∧ KeepM h h') (h2 : ∀ h' : AH, InvM h' g → Sp M2 (0, 0) h' (.ref 66 :: av) (rI fun x h'' => x = X ∧ InvM h'' g' ∧ KeepC h' h'')) : Two h g drn M1 M2 av :=
  Two.mk0 X hd hg (h1.end (fun v h' q => by obtain ⟨x, e1, e2, q⟩ := q; exact ⟨x, e1, e2, hP h' q⟩)) h2
theorem Two.mk2 {h : AH} {g g' : Gh} {drn drn2 : Nat} {M1 M2 : MD} {av : List Value} {X : Int32} {P : AH → Prop} (l1 : drn ≤ drn2) (l2 : drn2 ≤ 16384) (hg : GhOK g') (h1 : Sp M1 (drn2 - drn, 2 * (drn2 - drn)) h (.ref 0 :: av) (rI fun x h' => x = X ∧ P h')) (hP : ∀ h', P h' → InvC h' g' drn2 ∧ KeepM h h') (h2 : ∀ h' : AH, InvM h' g → Sp M2 (0, 0) h' (.ref 66 :: av) (rI fun x h'' => x = X ∧ InvM h'' g' ∧ KeepC h' h'')) : Two h g drn M1 M2 av :=
  ⟨drn2, g', X, l1, l2, h1.end (fun v h' q => by obtain ⟨x, e1, e2, q⟩ := q; exact ⟨x, e1, e2, hP h' q, hg⟩), h2⟩
/-- the model's own scratch rows -/
theorem InvM.gen {S : List Nat} {h h' : AH} {g : Gh} (J : InvM h g) (F : Fr S h h') (md : MdO h' (nI g.L) g.fa g.fp) (mr : MdR h') (dl : ∃ dl : Nat → Int32, Hs h' 87 (aI 16384 dl)) (fs : ∃ f : Nat → Int32, Hs h' 90 (aI 12 f)) (r1 : ∃ f : Nat → Int32, Hs h' 91 (aI 12 f)) (r2 : ∃ f : Nat → Int32, Hs h' 92 (aI 12 f)) (hS : ∀ x, x ∈ S → x = 66 ∨ 85 ≤ x) : InvM h' g := by
  have O : ∀ k, k < 85 ∧ k ≠ 66 → k ∉ S := fun k hk z => by have := hS k z; omega
  obtain ⟨-, ⟨a, a1, a2⟩, ⟨im, i1, i2⟩, ⟨mt, t1, t2⟩, tx, mk, -⟩ := J
  refine ⟨md, ⟨a, F.hs a1 (O _ (by decide)), a2⟩, ⟨im, F.hs i1 (O _ (by decide)), i2⟩, ⟨mt, F.hs t1 (O _ (by decide)), t2⟩, fun t ht => (tx t ht).fr F ⟨O _ (by decide), O _ (by decide), O _ (by decide), O _ (by decide), O _ (by decide), O _ (by decide)⟩, ?_, mr, dl, fs, r1, r2⟩
  obtain ⟨⟨a, b, c, d, e, f, h1, h2, h3, h4, h5, h6⟩, ⟨a', b', c', d', j1, j2, j3, j4⟩, a'', b'', c'', d'', e'', k1, k2, k3, k4, k5⟩ := mk
  exact ⟨⟨a, b, c, d, e, f, F.hs h1 (O _ (by decide)), F.hs h2 (O _ (by decide)), F.hs h3 (O _ (by decide)), F.hs h4 (O _ (by decide)), F.hs h5 (O _ (by decide)), F.hs h6 (O _ (by decide))⟩, ⟨a', b', c', d', F.hs j1 (O _ (by decide)), F.hs j2 (O _ (by decide)), F.hs j3 (O _ (by decide)), F.hs j4 (O _ (by decide))⟩, a'', b'', c'', d'', e'', F.hs k1 (O _ (by decide)), F.hs k2 (O _ (by decide)), F.hs k3 (O _ (by decide)), F.hs k4 (O _ (by decide)), F.hs k5 (O _ (by decide))⟩
theorem InvM.md2 {h h' : AH} {g : Gh} (J : InvM h g) (md : MdO h' (nI g.L) g.fa g.fp) (F : Fr [66] h h') : InvM h' g :=
  J.gen F md (J.mr.fr F (by decide)) (J.dl.elim fun d q => ⟨d, F.hs q (by decide)⟩) (J.fs.elim fun d q => ⟨d, F.hs q (by decide)⟩) (J.r1.elim fun d q => ⟨d, F.hs q (by decide)⟩) (J.r2.elim fun d q => ⟨d, F.hs q (by decide)⟩) (by decide)
theorem InvM.mz {h h' : AH} {g : Gh} (J : InvM h g) (Z : MdZ h h' (nI g.L) g.fa g.fp) : InvM h' g ∧ KeepC h h' := by
  obtain ⟨md, dl, mr, F⟩ := Z
  exact ⟨J.gen F md mr dl (J.fs.elim fun d q => ⟨d, F.hs q (by decide)⟩) (J.r1.elim fun d q => ⟨d, F.hs q (by decide)⟩) (J.r2.elim fun d q => ⟨d, F.hs q (by decide)⟩) (by decide), _, F, by decide⟩

theorem Sp.toR {M : MD} {κ : Nat × Nat} {h : AH} {av : List Value} {X : Int32} (H : Sp M κ h av (pI X h)) : Sp M κ h av (rI fun x h' => x = X ∧ h' = h) := H.end (fun v h' q => ⟨X, q.1, rfl, q.2⟩)
theorem Am.an' {a : Nat → Int32} {c : Cn} {d : Da} (A : Am a c d) : ∀ t, t < c.n → ∀ x, x < c.N → a (150 + 14 * t + x) = c.an (t * 14 + x) := A.an
theorem Am.RAs {a : Nat → Int32} {c : Cn} {d : Da} (A : Am a c d) (K : CnOK c d) (s : Int32) (hs : ¬ s = 2) {t : Nat} (ht : t < c.n) : mAn a c.an d.le c.N t (bs (fun x => decide (nI (d.ca x 0) = s)) c.N) s := by
  have := A.RA K s ht
  rwa [dfA, if_neg hs] at this
theorem InvM.few {h h' : AH} {g : Gh} {a : Nat → Int32} (J : InvM h g) (H : Hs h 67 (aI 380 a)) (H' : Hs h' 67 (aI 380 a)) (F : Fr (67 :: FSm) h h') (md : MdO h' (nI g.L) g.fa g.fp) (mr : MdR h') (dl : ∃ dl : Nat → Int32, Hs h' 87 (aI 16384 dl)) : InvM h' g := by
  have F2 : Fr FSm h h' := ⟨F.1, F.2.1, fun k hk hS => by
    by_cases e : k = 67
    · subst e; rw [H.2, H'.2]
    · exact F.2.2 k hk (fun z => by rcases List.mem_cons.mp z with q | q; exact e q; exact hS q)⟩
  exact J.gen F2 md mr dl (J.fs.elim fun d q => ⟨d, F2.hs q (by decide)⟩) (J.r1.elim fun d q => ⟨d, F2.hs q (by decide)⟩) (J.r2.elim fun d q => ⟨d, F2.hs q (by decide)⟩) (by decide)
/-- the walks are few: ages rise -/
theorem wk_le {c : Cn} {d : Da} (K : CnOK c d) (fr : Nat) : ∀ (k t : Nat), wk d.lf d.lt c.nl fr k t ≤ 2 ^ sm (fun j => if d.ag (d.lt j) ≤ d.ag t then 1 else 0) c.nl
  | 0, t => by
    rw [wk]
    have := Nat.two_pow_pos (sm (fun j => if d.ag (d.lt j) ≤ d.ag t then 1 else 0) c.nl)
    split <;> omega
  | k + 1, t => by
    rw [wk]
    have h1 : ∀ i, i < c.nl → d.lt i = t → sm (fun j => if d.ag (d.lt j) ≤ d.ag (d.lf i) then 1 else 0) c.nl + sm (fun j => if d.lt j = t then 1 else 0) c.nl ≤ sm (fun j => if d.ag (d.lt j) ≤ d.ag t then 1 else 0) c.nl := fun i hi e => by
      rw [← sm_add]
      refine sm_mono (fun j hj => ?_)
      have := (K.hlk i hi).2.2
      rw [e] at this
      by_cases q : d.lt j = t
      · rw [q, if_neg (by omega), if_pos rfl, if_pos (Nat.le_refl _)]; decide
      · rw [if_neg q]
        by_cases q2 : d.ag (d.lt j) ≤ d.ag (d.lf i)
        · rw [if_pos q2, if_pos (by omega)]; decide
        · rw [if_neg q2]; exact Nat.zero_le _
    by_cases h0 : ∃ i, i < c.nl ∧ d.lt i = t
    · obtain ⟨i0, hi0, ei0⟩ := h0
      have hm := h1 i0 hi0 ei0
      have h2 : sm (fun i => if d.lt i = t then wk d.lf d.lt c.nl fr k (d.lf i) else 0) c.nl ≤ sm (fun i => 2 ^ (sm (fun j => if d.ag (d.lt j) ≤ d.ag t then 1 else 0) c.nl - sm (fun j => if d.lt j = t then 1 else 0) c.nl) * (if d.lt i = t then 1 else 0)) c.nl := sm_mono (fun i hi => by
        by_cases e : d.lt i = t
        · rw [if_pos e, if_pos e, Nat.mul_one]
          refine Nat.le_trans (wk_le K fr k (d.lf i)) (Nat.pow_le_pow_right (by decide) ?_)
          have := h1 i hi e
          omega
        · rw [if_neg e]; exact Nat.zero_le _)
      rw [sm_mul] at h2
      refine Nat.le_trans h2 ?_
      have h3 : sm (fun j => if d.lt j = t then 1 else 0) c.nl < 2 ^ sm (fun j => if d.lt j = t then 1 else 0) c.nl := Nat.lt_two_pow_self
      refine Nat.le_trans (Nat.mul_le_mul_left _ (Nat.le_of_lt h3)) ?_
      rw [← Nat.pow_add]
      exact Nat.pow_le_pow_right (by decide) (by omega)
    · rw [sm_zero (fun i hi => if_neg (fun e => h0 ⟨i, hi, e⟩))]; exact Nat.zero_le _
theorem wk_lt {c : Cn} {d : Da} (K : CnOK c d) {fr k t : Nat} : wk d.lf d.lt c.nl fr k t < 1048577 := by
  have h1 := wk_le K fr k t
  have h2 : sm (fun j => if d.ag (d.lt j) ≤ d.ag t then 1 else 0) c.nl ≤ 1 * c.nl := sm_le (fun j _ => by split <;> decide)
  have h3 := Nat.pow_le_pow_right (n := 2) (by decide) (show sm (fun j => if d.ag (d.lt j) ≤ d.ag t then 1 else 0) c.nl ≤ 20 by have := K.hnl; omega)
  omega
theorem InvC.ways {h h' : AH} {g : Gh} {drn : Nat} (I : InvC h g drn) (htc : g.c.tcn ≤ 6) (T : LkC h' g.c.nl g.d.lf g.d.lt) (F : Fr [12, 15, 16] h h') : InvC h' g drn :=
  ⟨Nat.lt_of_lt_of_le I.sz F.2.1, F.hs I.mc (by decide), I.ch.o F.z (by decide), I.th.o F.z (by decide), T, I.ld.o F.z (by decide), I.rw.o F.z (by decide), I.tp.o F.z (by decide), I.tt.o htc F.z (by decide), I.rd.o F.z (by decide), JuC.o I.ju F.z (by decide), I.de.o F (by decide) (by decide), I.ta.o F.z (by decide), I.tb.o F.z (by decide), I.fa.o F.z (by decide), I.im.o F.z (by decide)⟩

theorem two_difference {h : AH} {g : Gh} {drn : Nat} (I : InvC h g drn) (G : GhOK g) (x1 x2 x3 : Int32) : Two h g drn M_X10_difference M_X11_difference [.int x1, .int x2, .int x3] := by
  obtain ⟨ks, gs, ps, t1, t2, t3, t4, t5, t6, t7⟩ := I.th
  by_cases hg : (0 ≤ x1 ∧ x1 < nI g.c.n) ∧ (0 ≤ x2 ∧ x2 ≤ 2) ∧ (0 ≤ x3 ∧ x3 ≤ 2)
  · obtain ⟨g_x1, g_x2, g_x3⟩ := hg
    obtain ⟨T, hTn, rfl⟩ := gd_e (by have := G.c.hn; omega) g_x1
    refine Two.mk1 I.drn G (s_X10_difference I.mc I.ch t1 t4 t6 G.c.hn G.c.hV I.ta G.c.hS0 hTn g_x2 g_x3) ?_ ?_
    · rintro h' ⟨ta, fr⟩
      exact ⟨I.ta2 G.c.htc ta fr, KeepM.r fr (by decide)⟩
    · intro h' J
      obtain ⟨mup, mlo, mln, mat, mtk, mso, mto, mwr, mwp, mop, mfs, mws, mst, mnc, mnk, mnr, mdn, mgu, mgl, H_md⟩ := J.md
      obtain ⟨a, H_a, A⟩ := J.a
      refine (s_X11_difference H_md H_a A.a0 G.c.hN G.c.hca A.ca A.a1 G.c.hn (A.hbits G.c) G.c.hS0 G.c.hV (A.hVm G.c) (A.R G.c) hTn (A.RA G.c x2 hTn) g_x2 g_x3).end ?_
      rintro v h'' ⟨x, rfl, rfl, md, fr⟩
      exact ⟨_, rfl, rfl, J.md2 md fr, ⟨_, fr, by decide⟩⟩
  · refine Two.same I G (-1000000) (s_X10_difference_bad I.mc t1 hg) (fun h' J => ?_)
    obtain ⟨mup, mlo, mln, mat, mtk, mso, mto, mwr, mwp, mop, mfs, mws, mst, mnc, mnk, mnr, mdn, mgu, mgl, H_md⟩ := J.md
    obtain ⟨a, H_a, A⟩ := J.a
    refine s_X11_difference_bad H_md H_a  ?_
    intro hq
    obtain ⟨q_x1, q_x2, q_x3⟩ := hq
    exact hg ⟨(gd_1 (by have := G.c.hn; omega)).mpr (by rw [← A.a1]; exact q_x1), q_x2, q_x3⟩
theorem two_deals {h : AH} {g : Gh} {drn : Nat} (I : InvC h g drn) (G : GhOK g) (x1 x2 : Int32) : Two h g drn M_X10_deals M_X11_deals [.int x1, .int x2] := by
  obtain ⟨ks, gs, ps, t1, t2, t3, t4, t5, t6, t7⟩ := I.th
  by_cases hg : (0 ≤ x1 ∧ x1 < nI g.c.tcn) ∧ (-1 ≤ x2)
  · obtain ⟨g_x1, g_x2⟩ := hg
    obtain ⟨tp, htp, rfl⟩ := gd_e (by have := G.c.htc; omega) g_x1
    obtain ⟨txs, H_txs, htx⟩ := I.rw
    obtain ⟨nms, hJ⟩ := I.ju
    have hT := (I.tt.2 tp htp).c
    obtain ⟨dt, L0, drn2, hD, hL0, e2, l1, l2, hm, hκ⟩ := I.deal G.c.hN G.c.htc htp
    refine Two.mk2 l1 l2 G (s_X10_deals I.mc H_txs htx I.ch hT hJ (G.c.htx tp htp).1 hD hL0 htp G.c.htc I.sz G.c.hS0 hκ g_x2) ?_ ?_
    · rintro h' D
      rw [← e2] at D
      exact I.dd G.c.htc htp hm D (by decide) (I.ta.o D.2.2 (by decide)) (I.tb.o D.2.2 (by decide)) (I.fa.o D.2.2 (by decide))
    · intro h' J
      obtain ⟨mup, mlo, mln, mat, mtk, mso, mto, mwr, mwp, mop, mfs, mws, mst, mnc, mnk, mnr, mdn, mgu, mgl, H_md⟩ := J.md
      obtain ⟨a, H_a, A⟩ := J.a
      obtain ⟨dl0, H_mdl⟩ := J.dl
      refine (s_X11_deals H_md H_a A.a0 G.c.hN G.c.hca A.ca A.a1 G.c.hn (A.hbits G.c) G.c.hS0 G.c.hV (A.hVm G.c) (A.R G.c) A.a2 htp G.c.htc (J.tx tp htp).m (G.c.htx tp htp).1 J.mr H_mdl g_x2).end ?_
      rintro v h'' ⟨x, rfl, rfl, Z⟩
      exact ⟨_, rfl, rfl, J.mz Z⟩
  · refine Two.same I G (-1) (s_X10_deals_bad I.mc  hg) (fun h' J => ?_)
    obtain ⟨mup, mlo, mln, mat, mtk, mso, mto, mwr, mwp, mop, mfs, mws, mst, mnc, mnk, mnr, mdn, mgu, mgl, H_md⟩ := J.md
    obtain ⟨a, H_a, A⟩ := J.a
    refine s_X11_deals_bad H_md H_a  ?_
    intro hq
    obtain ⟨q_x1, q_x2⟩ := hq
    exact hg ⟨(gd_1 (by have := G.c.htc; omega)).mpr (by rw [← A.a2]; exact q_x1), q_x2⟩
theorem two_odds {h : AH} {g : Gh} {drn : Nat} (I : InvC h g drn) (G : GhOK g) (x1 x2 x3 : Int32) : Two h g drn M_X10_odds M_X11_odds [.int x1, .int x2, .int x3] := by
  obtain ⟨ks, gs, ps, t1, t2, t3, t4, t5, t6, t7⟩ := I.th
  by_cases hg : (0 ≤ x1 ∧ x1 < nI g.c.tcn) ∧ (0 ≤ x2 ∧ x2 < nI g.c.n) ∧ ((0 ≤ x3 ∧ x3 ≤ 1) ∨ (1 ≤ x3 - 1000 ∧ x3 - 1000 ≤ 1000))
  · obtain ⟨g_x1, g_x2, g_x3⟩ := hg
    obtain ⟨tp, htp, rfl⟩ := gd_e (by have := G.c.htc; omega) g_x1
    obtain ⟨T, hTn, rfl⟩ := gd_e (by have := G.c.hn; omega) g_x2
    obtain ⟨txs, H_txs, htx⟩ := I.rw
    obtain ⟨nms, hJ⟩ := I.ju
    have hT := (I.tt.2 tp htp).c
    obtain ⟨dt, L0, drn2, hD, hL0, e2, l1, l2, hm, hκ⟩ := I.deal G.c.hN G.c.htc htp
    refine Two.mk2 l1 l2 G (s_X10_odds I.mc H_txs htx I.ch hT hJ (G.c.htx tp htp).1 hD hL0 htp G.c.htc I.sz G.c.hS0 hκ t1 t4 t6 G.c.hn G.c.hV I.ta hTn g_x3) ?_ ?_
    · rintro h' ⟨ta, D⟩
      rw [← e2] at D
      exact I.dd G.c.htc htp hm D (by decide) ta (I.tb.o D.2.2 (by decide)) (I.fa.o D.2.2 (by decide))
    · intro h' J
      obtain ⟨mup, mlo, mln, mat, mtk, mso, mto, mwr, mwp, mop, mfs, mws, mst, mnc, mnk, mnr, mdn, mgu, mgl, H_md⟩ := J.md
      obtain ⟨a, H_a, A⟩ := J.a
      obtain ⟨dl0, H_mdl⟩ := J.dl
      refine (s_X11_odds H_md H_a A.a0 G.c.hN G.c.hca A.ca A.a1 G.c.hn (A.hbits G.c) G.c.hS0 G.c.hV (A.hVm G.c) (A.R G.c) A.a2 htp G.c.htc (J.tx tp htp).m (G.c.htx tp htp).1 J.mr H_mdl hTn g_x3).end ?_
      rintro v h'' ⟨x, rfl, rfl, Z⟩
      exact ⟨_, rfl, rfl, J.mz Z⟩
  · refine Two.same I G (-1) (s_X10_odds_bad I.mc t1 hg) (fun h' J => ?_)
    obtain ⟨mup, mlo, mln, mat, mtk, mso, mto, mwr, mwp, mop, mfs, mws, mst, mnc, mnk, mnr, mdn, mgu, mgl, H_md⟩ := J.md
    obtain ⟨a, H_a, A⟩ := J.a
    refine s_X11_odds_bad H_md H_a  ?_
    intro hq
    obtain ⟨q_x1, q_x2, q_x3⟩ := hq
    exact hg ⟨(gd_1 (by have := G.c.htc; omega)).mpr (by rw [← A.a2]; exact q_x1), (gd_1 (by have := G.c.hn; omega)).mpr (by rw [← A.a1]; exact q_x2), q_x3.imp id gd_o.mpr⟩
theorem two_paid {h : AH} {g : Gh} {drn : Nat} (I : InvC h g drn) (G : GhOK g) (x1 x2 x3 : Int32) : Two h g drn M_X10_paid M_X11_paid [.int x1, .int x2, .int x3] := by
  obtain ⟨ks, gs, ps, t1, t2, t3, t4, t5, t6, t7⟩ := I.th
  by_cases hg : (0 ≤ x1 ∧ x1 < nI g.c.tcn) ∧ ((x2.toUInt32 >>> ((nI g.c.n).toUInt32 &&& Int32.toUInt32 31)).toInt32 = 0) ∧ (1 ≤ x3 ∧ x3 ≤ 1000)
  · obtain ⟨g_x1, g_x2, g_x3⟩ := hg
    obtain ⟨tp, htp, rfl⟩ := gd_e (by have := G.c.htc; omega) g_x1
    obtain ⟨S, hS, rfl⟩ := (gd_s G.c.hn).mp g_x2
    obtain ⟨txs, H_txs, htx⟩ := I.rw
    obtain ⟨nms, hJ⟩ := I.ju
    have hT := (I.tt.2 tp htp).c
    obtain ⟨dt, L0, drn2, hD, hL0, e2, l1, l2, hm, hκ⟩ := I.deal G.c.hN G.c.htc htp
    obtain ⟨fars, H_fars⟩ := I.fa
    refine Two.mk2 l1 l2 G (s_X10_paid I.mc H_txs htx I.ch hT hJ (G.c.htx tp htp).1 hD hL0 htp G.c.htc I.sz G.c.hS0 hκ t1 t4 t6 G.c.hn G.c.hV H_fars I.ta hS g_x3) ?_ ?_
    · rintro h' ⟨ta, fa, D⟩
      rw [← e2] at D
      exact I.dd G.c.htc htp hm D (by decide) ta (I.tb.o D.2.2 (by decide)) fa
    · intro h' J
      obtain ⟨mup, mlo, mln, mat, mtk, mso, mto, mwr, mwp, mop, mfs, mws, mst, mnc, mnk, mnr, mdn, mgu, mgl, H_md⟩ := J.md
      obtain ⟨a, H_a, A⟩ := J.a
      obtain ⟨dl0, H_mdl⟩ := J.dl
      obtain ⟨fars0, H_mfa⟩ := J.fs
      refine (s_X11_paid H_md H_a A.a0 G.c.hN G.c.hca A.ca A.a1 G.c.hn (A.hbits G.c) G.c.hS0 G.c.hV (A.hVm G.c) (A.R G.c) A.a2 htp G.c.htc (J.tx tp htp).m (G.c.htx tp htp).1 J.mr H_mdl H_mfa hS g_x3).end ?_
      rintro v h'' ⟨x, rfl, rfl, md, dl, mr, fs, fr⟩
      exact ⟨_, rfl, rfl, J.gen fr md mr dl fs (J.r1.elim fun d q => ⟨d, fr.hs q (by decide)⟩) (J.r2.elim fun d q => ⟨d, fr.hs q (by decide)⟩) (by decide), _, fr, by decide⟩
  · refine Two.same I G (-1) (s_X10_paid_bad I.mc t1 hg) (fun h' J => ?_)
    obtain ⟨mup, mlo, mln, mat, mtk, mso, mto, mwr, mwp, mop, mfs, mws, mst, mnc, mnk, mnr, mdn, mgu, mgl, H_md⟩ := J.md
    obtain ⟨a, H_a, A⟩ := J.a
    refine s_X11_paid_bad H_md H_a  ?_
    intro hq
    obtain ⟨q_x1, q_x2, q_x2', q_x3⟩ := hq
    exact hg ⟨(gd_1 (by have := G.c.htc; omega)).mpr (by rw [← A.a2]; exact q_x1), (gd_s G.c.hn).mpr ((gd_m G.c.hn).mp (by rw [← A.a1]; exact ⟨q_x2, q_x2'⟩)), q_x3⟩
theorem two_few {h : AH} {g : Gh} {drn : Nat} (I : InvC h g drn) (G : GhOK g) (x1 x2 x3 x4 : Int32) : Two h g drn M_X10_few M_X11_few [.int x1, .int x2, .int x3, .int x4] := by
  obtain ⟨ks, gs, ps, t1, t2, t3, t4, t5, t6, t7⟩ := I.th
  by_cases hg : (0 ≤ x1 ∧ x1 < nI g.c.tcn) ∧ (0 ≤ x2 ∧ x2 < nI g.c.n) ∧ (1 ≤ x3 ∧ x3 ≤ 1000) ∧ (0 ≤ x4 ∧ x4 ≤ 2)
  · obtain ⟨g_x1, g_x2, g_x3, g_x4⟩ := hg
    obtain ⟨tp, htp, rfl⟩ := gd_e (by have := G.c.htc; omega) g_x1
    obtain ⟨T, hTn, rfl⟩ := gd_e (by have := G.c.hn; omega) g_x2
    obtain ⟨txs, H_txs, htx⟩ := I.rw
    obtain ⟨nms, hJ⟩ := I.ju
    have hT := (I.tt.2 tp htp).c
    obtain ⟨dt, L0, drn2, hD, hL0, e2, l1, l2, hm, hκ⟩ := I.deal G.c.hN G.c.htc htp
    refine Two.mk2 l1 l2 G (s_X10_few I.mc H_txs htx I.ch hT hJ (G.c.htx tp htp).1 hD hL0 htp G.c.htc I.sz G.c.hS0 hκ t1 t4 t6 G.c.hn G.c.hV I.ta hTn g_x3 g_x4) ?_ ?_
    · rintro h' ⟨ta, D⟩
      rw [← e2] at D
      exact I.dd G.c.htc htp hm D (by decide) ta (I.tb.o D.2.2 (by decide)) (I.fa.o D.2.2 (by decide))
    · intro h' J
      obtain ⟨mup, mlo, mln, mat, mtk, mso, mto, mwr, mwp, mop, mfs, mws, mst, mnc, mnk, mnr, mdn, mgu, mgl, H_md⟩ := J.md
      obtain ⟨a, H_a, A⟩ := J.a
      obtain ⟨dl0, H_mdl⟩ := J.dl
      refine (s_X11_few H_md H_a A.a0 G.c.hN G.c.hca A.ca A.a1 G.c.hn (A.hbits G.c) G.c.hS0 G.c.hV (A.hVm G.c) (A.R G.c) A.a2 htp G.c.htc (J.tx tp htp).m (G.c.htx tp htp).1 J.mr H_mdl hTn g_x3 g_x4).end ?_
      rintro v h'' ⟨x, rfl, rfl, md, dl, mr, ha9, fr⟩
      exact ⟨_, rfl, rfl, J.few H_a ha9 fr md mr dl, _, fr, by decide⟩
  · refine Two.same I G (-1) (s_X10_few_bad I.mc t1 hg) (fun h' J => ?_)
    obtain ⟨mup, mlo, mln, mat, mtk, mso, mto, mwr, mwp, mop, mfs, mws, mst, mnc, mnk, mnr, mdn, mgu, mgl, H_md⟩ := J.md
    obtain ⟨a, H_a, A⟩ := J.a
    refine s_X11_few_bad H_md H_a  ?_
    intro hq
    obtain ⟨q_x1, q_x2, q_x3, q_x4⟩ := hq
    exact hg ⟨(gd_1 (by have := G.c.htc; omega)).mpr (by rw [← A.a2]; exact q_x1), (gd_1 (by have := G.c.hn; omega)).mpr (by rw [← A.a1]; exact q_x2), q_x3, q_x4⟩
theorem two_changed {h : AH} {g : Gh} {drn : Nat} (I : InvC h g drn) (G : GhOK g) (x1 x2 : Int32) (mo : Bool) : Two h g drn M_X10_changed M_X11_changed [.int x1, .int x2, .int (bI (mo = true))] := by
  obtain ⟨ks, gs, ps, t1, t2, t3, t4, t5, t6, t7⟩ := I.th
  by_cases hg : (0 ≤ x1 ∧ x1 < nI g.c.tcn) ∧ (0 ≤ x2 ∧ x2 < nI g.c.n)
  · obtain ⟨g_x1, g_x2⟩ := hg
    obtain ⟨tp, htp, rfl⟩ := gd_e (by have := G.c.htc; omega) g_x1
    obtain ⟨T, hTn, rfl⟩ := gd_e (by have := G.c.hn; omega) g_x2
    obtain ⟨txs, H_txs, htx⟩ := I.rw
    obtain ⟨nms, hJ⟩ := I.ju
    have hT := (I.tt.2 tp htp).c
    obtain ⟨dt, L0, drn2, hD, hL0, e2, l1, l2, hm, hκ⟩ := I.deal G.c.hN G.c.htc htp
    refine Two.mk2 l1 l2 G (s_X10_changed I.mc H_txs htx I.ch hT hJ (G.c.htx tp htp).1 hD hL0 htp G.c.htc I.sz G.c.hS0 hκ t1 t4 t6 G.c.hn G.c.hV I.ta hTn G.c.hco) ?_ ?_
    · rintro h' ⟨ta, D⟩
      rw [← e2] at D
      exact I.dd G.c.htc htp hm D (by decide) ta (I.tb.o D.2.2 (by decide)) (I.fa.o D.2.2 (by decide))
    · intro h' J
      obtain ⟨mup, mlo, mln, mat, mtk, mso, mto, mwr, mwp, mop, mfs, mws, mst, mnc, mnk, mnr, mdn, mgu, mgl, H_md⟩ := J.md
      obtain ⟨a, H_a, A⟩ := J.a
      obtain ⟨dl0, H_mdl⟩ := J.dl
      refine (s_X11_changed H_md H_a A.a0 G.c.hN G.c.hca A.ca A.a1 G.c.hn (A.hbits G.c) G.c.hS0 G.c.hV (A.hVm G.c) (A.R G.c) A.a2 htp G.c.htc (J.tx tp htp).m (G.c.htx tp htp).1 J.mr H_mdl hTn (A.hcoins G.c) G.c.hco).end ?_
      rintro v h'' ⟨x, rfl, rfl, Z⟩
      exact ⟨_, rfl, rfl, J.mz Z⟩
  · refine Two.same I G (-1) (s_X10_changed_bad I.mc t1 hg) (fun h' J => ?_)
    obtain ⟨mup, mlo, mln, mat, mtk, mso, mto, mwr, mwp, mop, mfs, mws, mst, mnc, mnk, mnr, mdn, mgu, mgl, H_md⟩ := J.md
    obtain ⟨a, H_a, A⟩ := J.a
    refine s_X11_changed_bad H_md H_a  ?_
    intro hq
    obtain ⟨q_x1, q_x2⟩ := hq
    exact hg ⟨(gd_1 (by have := G.c.htc; omega)).mpr (by rw [← A.a2]; exact q_x1), (gd_1 (by have := G.c.hn; omega)).mpr (by rw [← A.a1]; exact q_x2)⟩
theorem two_lost {h : AH} {g : Gh} {drn : Nat} (I : InvC h g drn) (G : GhOK g) (x1 : Int32) (mo : Bool) : Two h g drn M_X10_lost M_X11_lost [.int x1, .int (bI (mo = true))] := by
  obtain ⟨ks, gs, ps, t1, t2, t3, t4, t5, t6, t7⟩ := I.th
  by_cases hg : (0 ≤ x1 ∧ x1 < nI g.c.n)
  · have g_x1 := hg
    obtain ⟨T, hTn, rfl⟩ := gd_e (by have := G.c.hn; omega) g_x1
    refine Two.mk1 I.drn G (Sp.toR (s_X10_lost I.mc I.ch t1 t4 t6 G.c.hn G.c.hV G.c.hS0 hTn)) ?_ ?_
    · rintro h' rfl
      exact ⟨I, KeepM.refl _⟩
    · intro h' J
      obtain ⟨mup, mlo, mln, mat, mtk, mso, mto, mwr, mwp, mop, mfs, mws, mst, mnc, mnk, mnr, mdn, mgu, mgl, H_md⟩ := J.md
      obtain ⟨a, H_a, A⟩ := J.a
      refine (s_X11_lost H_md H_a A.a0 G.c.hN G.c.hca A.ca A.a1 G.c.hn (A.hbits G.c) G.c.hS0 G.c.hV (A.hVm G.c) (A.R G.c) hTn A.an').end ?_
      rintro v h'' ⟨x, rfl, rfl, md, fr⟩
      exact ⟨_, rfl, rfl, J.md2 md fr, ⟨_, fr, by decide⟩⟩
  · refine Two.same I G (-1000000) (s_X10_lost_bad I.mc t1 hg) (fun h' J => ?_)
    obtain ⟨mup, mlo, mln, mat, mtk, mso, mto, mwr, mwp, mop, mfs, mws, mst, mnc, mnk, mnr, mdn, mgu, mgl, H_md⟩ := J.md
    obtain ⟨a, H_a, A⟩ := J.a
    refine s_X11_lost_bad H_md H_a A.a0 G.c.hN (A.hbits G.c) (Nat.lt_of_lt_of_le G.c.hS0 (pw_31 _ G.c.hN)) ?_
    intro hq
    have q_x1 := hq
    exact hg ((gd_1 (by have := G.c.hn; omega)).mpr (by rw [← A.a1]; exact q_x1))
theorem two_back {h : AH} {g : Gh} {drn : Nat} (I : InvC h g drn) (G : GhOK g) (x1 x2 : Int32) : Two h g drn M_X10_back M_X11_back [.int x1, .int x2] := by
  obtain ⟨ks, gs, ps, t1, t2, t3, t4, t5, t6, t7⟩ := I.th
  by_cases hg : ((x1.toUInt32 >>> ((nI g.c.n).toUInt32 &&& Int32.toUInt32 31)).toInt32 = 0) ∧ (0 ≤ x2 ∧ x2 ≤ 1)
  · obtain ⟨g_x1, g_x2⟩ := hg
    obtain ⟨S, hS, rfl⟩ := (gd_s G.c.hn).mp g_x1
    refine Two.mk1 I.drn G (s_X10_back I.mc I.ch t5 t1 t4 t6 G.c.hn G.c.hV I.ta G.c.hS0 hS (fun t ht => ⟨(t7 t ht).2.2, (G.c.hth t ht).2.2.1⟩) G.c.hcst g_x2) ?_ ?_
    · rintro h' ⟨ta, fr⟩
      exact ⟨I.ta2 G.c.htc ta fr, KeepM.r fr (by decide)⟩
    · intro h' J
      obtain ⟨mup, mlo, mln, mat, mtk, mso, mto, mwr, mwp, mop, mfs, mws, mst, mnc, mnk, mnr, mdn, mgu, mgl, H_md⟩ := J.md
      obtain ⟨a, H_a, A⟩ := J.a
      refine (s_X11_back H_md H_a A.a0 G.c.hN G.c.hca A.ca A.a1 G.c.hn (A.hbits G.c) G.c.hS0 G.c.hV (A.hVm G.c) (A.R G.c) hS (fun t ht => ⟨(A.th t ht).2.2.2, (G.c.hth t ht).2.2.1⟩) A.a5 G.c.hcst g_x2).end ?_
      rintro v h'' ⟨x, rfl, rfl, md, fr⟩
      exact ⟨_, rfl, rfl, J.md2 md fr, ⟨_, fr, by decide⟩⟩
  · refine Two.same I G (-1000000) (s_X10_back_bad I.mc t1 hg) (fun h' J => ?_)
    obtain ⟨mup, mlo, mln, mat, mtk, mso, mto, mwr, mwp, mop, mfs, mws, mst, mnc, mnk, mnr, mdn, mgu, mgl, H_md⟩ := J.md
    obtain ⟨a, H_a, A⟩ := J.a
    refine s_X11_back_bad H_md H_a  ?_
    intro hq
    obtain ⟨q_x1, q_x1', q_x2⟩ := hq
    exact hg ⟨(gd_s G.c.hn).mpr ((gd_m G.c.hn).mp (by rw [← A.a1]; exact ⟨q_x1, q_x1'⟩)), q_x2⟩
theorem two_course {h : AH} {g : Gh} {drn : Nat} (I : InvC h g drn) (G : GhOK g) (x1 x2 x3 x4 : Int32) : Two h g drn M_X10_course M_X11_course [.int x1, .int x2, .int x3, .int x4] := by
  obtain ⟨ks, gs, ps, t1, t2, t3, t4, t5, t6, t7⟩ := I.th
  by_cases hg : (0 ≤ x1 ∧ x1 < nI g.c.tcn) ∧ (0 ≤ x2 ∧ x2 ≤ 3) ∧ (1 ≤ x3 ∧ x3 ≤ 1000) ∧ (0 ≤ x4 ∧ x4 ≤ 2)
  · obtain ⟨g_x1, g_x2, g_x3, g_x4⟩ := hg
    obtain ⟨tp, htp, rfl⟩ := gd_e (by have := G.c.htc; omega) g_x1
    obtain ⟨txs, H_txs, htx⟩ := I.rw
    obtain ⟨nms, hJ⟩ := I.ju
    have hT := (I.tt.2 tp htp).c
    obtain ⟨dt, L0, drn2, hD, hL0, e2, l1, l2, hm, hκ⟩ := I.deal G.c.hN G.c.htc htp
    refine Two.mk2 l1 l2 G (s_X10_course I.mc H_txs htx I.ch hT hJ (G.c.htx tp htp).1 hD hL0 htp G.c.htc I.sz G.c.hS0 hκ t1 t4 t6 G.c.hn G.c.hV t2 t3 I.ta g_x2 g_x3 g_x4) ?_ ?_
    · rintro h' ⟨ta, D⟩
      rw [← e2] at D
      exact I.dd G.c.htc htp hm D (by decide) ta (I.tb.o D.2.2 (by decide)) (I.fa.o D.2.2 (by decide))
    · intro h' J
      obtain ⟨mup, mlo, mln, mat, mtk, mso, mto, mwr, mwp, mop, mfs, mws, mst, mnc, mnk, mnr, mdn, mgu, mgl, H_md⟩ := J.md
      obtain ⟨a, H_a, A⟩ := J.a
      obtain ⟨dl0, H_mdl⟩ := J.dl
      refine (s_X11_course H_md H_a A.a0 G.c.hN G.c.hca A.ca A.a1 G.c.hn (A.hbits G.c) G.c.hS0 G.c.hV (A.hVm G.c) (A.R G.c) A.a2 htp G.c.htc (J.tx tp htp).m (G.c.htx tp htp).1 J.mr H_mdl (fun j hj => (A.th j hj).2.1.trans (t7 j hj).2.1.symm) (fun j hj => (A.th j hj).1.trans (t7 j hj).1.symm) g_x2 g_x3 g_x4).end ?_
      rintro v h'' ⟨x, rfl, rfl, Z⟩
      exact ⟨_, rfl, rfl, J.mz Z⟩
  · refine Two.same I G (-1) (s_X10_course_bad I.mc  hg) (fun h' J => ?_)
    obtain ⟨mup, mlo, mln, mat, mtk, mso, mto, mwr, mwp, mop, mfs, mws, mst, mnc, mnk, mnr, mdn, mgu, mgl, H_md⟩ := J.md
    obtain ⟨a, H_a, A⟩ := J.a
    refine s_X11_course_bad H_md H_a  ?_
    intro hq
    obtain ⟨q_x1, q_x2, q_x3, q_x4⟩ := hq
    exact hg ⟨(gd_1 (by have := G.c.htc; omega)).mpr (by rw [← A.a2]; exact q_x1), q_x2, q_x3, q_x4⟩
theorem two_gap {h : AH} {g : Gh} {drn : Nat} (I : InvC h g drn) (G : GhOK g) (x1 x2 : Int32) : Two h g drn M_X10_gap M_X11_gap [.int x1, .int x2] := by
  obtain ⟨ks, gs, ps, t1, t2, t3, t4, t5, t6, t7⟩ := I.th
  by_cases hg : (0 ≤ x1 ∧ x1 < nI g.c.tcn) ∧ (0 ≤ x2 ∧ x2 < nI g.c.n)
  · obtain ⟨g_x1, g_x2⟩ := hg
    obtain ⟨tp, htp, rfl⟩ := gd_e (by have := G.c.htc; omega) g_x1
    obtain ⟨T, hTn, rfl⟩ := gd_e (by have := G.c.hn; omega) g_x2
    obtain ⟨txs, H_txs, htx⟩ := I.rw
    obtain ⟨nms, hJ⟩ := I.ju
    have hT := (I.tt.2 tp htp).c
    obtain ⟨dt, L0, drn2, hD, hL0, e2, l1, l2, hm, hκ⟩ := I.deal G.c.hN G.c.htc htp
    refine Two.mk2 l1 l2 G (s_X10_gap I.mc H_txs htx I.ch hT hJ (G.c.htx tp htp).1 hD hL0 htp G.c.htc I.sz G.c.hS0 hκ t1 t4 t6 G.c.hn G.c.hV I.ta I.tb hTn rfl rfl) ?_ ?_
    · rintro h' ⟨ta, tb, D⟩
      rw [← e2] at D
      exact I.dd G.c.htc htp hm D (by decide) ta tb (I.fa.o D.2.2 (by decide))
    · intro h' J
      obtain ⟨mup, mlo, mln, mat, mtk, mso, mto, mwr, mwp, mop, mfs, mws, mst, mnc, mnk, mnr, mdn, mgu, mgl, H_md⟩ := J.md
      obtain ⟨a, H_a, A⟩ := J.a
      obtain ⟨dl0, H_mdl⟩ := J.dl
      refine (s_X11_gap H_md H_a A.a0 G.c.hN G.c.hca A.ca A.a1 G.c.hn (A.hbits G.c) G.c.hS0 G.c.hV (A.hVm G.c) (A.R G.c) A.a2 htp G.c.htc (J.tx tp htp).m (G.c.htx tp htp).1 J.mr H_mdl hTn (A.RAs G.c 0 (by decide) hTn) (A.RAs G.c 1 (by decide) hTn)).end ?_
      rintro v h'' ⟨x, rfl, rfl, Z⟩
      exact ⟨_, rfl, rfl, J.mz Z⟩
  · refine Two.same I G (-1) (s_X10_gap_bad I.mc t1 hg) (fun h' J => ?_)
    obtain ⟨mup, mlo, mln, mat, mtk, mso, mto, mwr, mwp, mop, mfs, mws, mst, mnc, mnk, mnr, mdn, mgu, mgl, H_md⟩ := J.md
    obtain ⟨a, H_a, A⟩ := J.a
    refine s_X11_gap_bad H_md H_a  ?_
    intro hq
    obtain ⟨q_x1, q_x2⟩ := hq
    exact hg ⟨(gd_1 (by have := G.c.htc; omega)).mpr (by rw [← A.a2]; exact q_x1), (gd_1 (by have := G.c.hn; omega)).mpr (by rw [← A.a1]; exact q_x2)⟩
theorem two_land {h : AH} {g : Gh} {drn : Nat} (I : InvC h g drn) (G : GhOK g) (x1 x2 : Int32) : Two h g drn M_X10_land M_X11_land [.int x1, .int x2] := by
  obtain ⟨ks, gs, ps, t1, t2, t3, t4, t5, t6, t7⟩ := I.th
  by_cases hg : (0 ≤ x1 ∧ x1 < nI g.c.n)
  · have g_x1 := hg
    obtain ⟨T, hTn, rfl⟩ := gd_e (by have := G.c.hn; omega) g_x1
    obtain ⟨lw, hw, l1, l2, l3, l4⟩ := I.ld
    refine Two.mk1 I.drn G (s_X10_land I.mc I.ch t1 t4 t6 G.c.hn G.c.hV I.ta l1 l2 l3 G.c.hns l4 G.c.hld G.c.hS0 hTn) ?_ ?_
    · rintro h' ⟨ta, fr⟩
      exact ⟨I.ta2 G.c.htc ta fr, KeepM.r fr (by decide)⟩
    · intro h' J
      obtain ⟨mup, mlo, mln, mat, mtk, mso, mto, mwr, mwp, mop, mfs, mws, mst, mnc, mnk, mnr, mdn, mgu, mgl, H_md⟩ := J.md
      obtain ⟨a, H_a, A⟩ := J.a
      refine (s_X11_land H_md H_a A.a0 G.c.hN G.c.hca A.ca A.a1 G.c.hn (A.hbits G.c) G.c.hS0 G.c.hV (A.hVm G.c) (A.R G.c) hTn A.a4 G.c.hns A.ld G.c.hld).end ?_
      rintro v h'' ⟨x, rfl, rfl, md, fr⟩
      exact ⟨_, rfl, rfl, J.md2 md fr, ⟨_, fr, by decide⟩⟩
  · refine Two.same I G (-1000000) (s_X10_land_bad I.mc t1 hg) (fun h' J => ?_)
    obtain ⟨mup, mlo, mln, mat, mtk, mso, mto, mwr, mwp, mop, mfs, mws, mst, mnc, mnk, mnr, mdn, mgu, mgl, H_md⟩ := J.md
    obtain ⟨a, H_a, A⟩ := J.a
    refine s_X11_land_bad H_md H_a  ?_
    intro hq
    have q_x1 := hq
    exact hg ((gd_1 (by have := G.c.hn; omega)).mpr (by rw [← A.a1]; exact q_x1))
theorem two_ways {h : AH} {g : Gh} {drn : Nat} (I : InvC h g drn) (G : GhOK g) (x1 x2 x3 : Int32) : Two h g drn M_X10_ways M_X11_ways [.int x1, .int x2, .int x3] := by
  obtain ⟨ks, gs, ps, t1, t2, t3, t4, t5, t6, t7⟩ := I.th
  by_cases hg : (0 ≤ x1 ∧ x1 < nI g.c.n) ∧ (0 ≤ x2 ∧ x2 < nI g.c.n) ∧ (0 ≤ x3 ∧ x3 ≤ 1)
  · obtain ⟨g_x1, g_x2, g_x3⟩ := hg
    obtain ⟨T, hTn, rfl⟩ := gd_e (by have := G.c.hn; omega) g_x1
    obtain ⟨U, hUn, rfl⟩ := gd_e (by have := G.c.hn; omega) g_x2
    obtain ⟨a0, b0, fr0, to0, v1, v2, few0, ways0, k1, k2, k3, k4, k5, k6, k7⟩ := I.lk
    refine Two.mk1 I.drn G (s_X10_ways I.mc t1 k2 k3 k4 k5 k6 k1 G.c.hnl (fun i hi => ⟨(k7 i hi).1, by have := G.c.hlk i hi; have := G.c.hn; omega, (k7 i hi).2, by have := G.c.hlk i hi; have := G.c.hn; omega⟩) G.c.hn hTn hUn g_x3 (fun k _ t _ => wk_lt G.c)) ?_ ?_
    · rintro h' ⟨a, b, hab, H1, fr, u1, H2, u2, H3⟩
      exact ⟨I.ways G.c.htc ⟨a, b, fr0, to0, u1, u2, _, _, hab, H1, fr.hs k3 (by decide), fr.hs k4 (by decide), H2, H3, k7⟩ fr, KeepM.r fr (by decide)⟩
    · intro h' J
      obtain ⟨mup, mlo, mln, mat, mtk, mso, mto, mwr, mwp, mop, mfs, mws, mst, mnc, mnk, mnr, mdn, mgu, mgl, H_md⟩ := J.md
      obtain ⟨a, H_a, A⟩ := J.a
      obtain ⟨rt0, H_mrt⟩ := J.r1
      obtain ⟨ro0, H_mro⟩ := J.r2
      refine (s_X11_ways H_md H_a H_mrt H_mro A.a1 G.c.hn A.a3 G.c.hnl hTn hUn g_x3 (fun i hi => ⟨(A.lk i hi).1, by have := G.c.hlk i hi; have := G.c.hn; omega, (A.lk i hi).2, by have := G.c.hlk i hi; have := G.c.hn; omega⟩)).end ?_
      rintro v h'' ⟨x, rfl, rfl, fr, r1, r2⟩
      exact ⟨_, rfl, rfl, J.gen fr (⟨_, _, _, _, _, _, _, _, _, _, _, _, _, _, _, _, _, _, _, fr.hs H_md (by decide)⟩) (J.mr.fr fr (by decide)) (J.dl.elim fun d q => ⟨d, fr.hs q (by decide)⟩) (J.fs.elim fun d q => ⟨d, fr.hs q (by decide)⟩) r1 r2 (by decide), _, fr, by decide⟩
  · refine Two.same I G (-1) (s_X10_ways_bad I.mc t1 hg) (fun h' J => ?_)
    obtain ⟨mup, mlo, mln, mat, mtk, mso, mto, mwr, mwp, mop, mfs, mws, mst, mnc, mnk, mnr, mdn, mgu, mgl, H_md⟩ := J.md
    obtain ⟨a, H_a, A⟩ := J.a
    refine s_X11_ways_bad H_md H_a  ?_
    intro hq
    obtain ⟨q_x1, q_x2, q_x3⟩ := hq
    exact hg ⟨(gd_1 (by have := G.c.hn; omega)).mpr (by rw [← A.a1]; exact q_x1), (gd_1 (by have := G.c.hn; omega)).mpr (by rw [← A.a1]; exact q_x2), q_x3⟩
theorem two_answered {h : AH} {g : Gh} {drn : Nat} (I : InvC h g drn) (G : GhOK g) (x y : Int32) : Two h g drn M_X10_answered M_X11_answered [.int x, .int y] := by
  obtain ⟨ks, gs, ps, t1, t2, t3, t4, t5, t6, t7⟩ := I.th
  obtain ⟨hN, hca, sx, wt, hm, wo, H_ch, -⟩ := id I.ch
  have hn := G.c.hn
  refine Two.same I G _ (s_X10_answered I.mc t1 H_ch t6 ((nI_leI (b := 12) (by omega) (by decide)).mpr hn) ((nI_leI (b := 14) (by omega) (by decide)).mpr hN)) (fun h' J => ?_)
  obtain ⟨mup, mlo, mln, mat, mtk, mso, mto, mwr, mwp, mop, mfs, mws, mst, mnc, mnk, mnr, mdn, mgu, mgl, H_md⟩ := J.md
  obtain ⟨a, H_a, A⟩ := J.a
  have h00 : 0 ≤ a 0 := by rw [A.a0]; exact (nI_leI (a := 0) (by decide) (by omega)).mpr (Nat.zero_le _)
  have h01 : a 0 ≤ 14 := by rw [A.a0]; exact (nI_leI (b := 14) (by omega) (by decide)).mpr hN
  have h10 : 0 ≤ a 1 := by rw [A.a1]; exact (nI_leI (a := 0) (by decide) (by omega)).mpr (Nat.zero_le _)
  have h11 : a 1 ≤ 12 := by rw [A.a1]; exact (nI_leI (b := 12) (by omega) (by decide)).mpr hn
  have := s_X11_answered (x := x) (y := y) H_md H_a h00 h01 h10 h11
  refine this.end (fun v h'' q => ⟨q.1.trans ?_, q.2⟩)
  congr 2
  symm
  by_cases hg : (0 ≤ x ∧ x < nI g.c.n) ∧ (0 ≤ y ∧ y < nI g.c.N)
  · rw [if_pos ⟨hg.1.1, hg.1.2, hg.2⟩]
    have q1 := (gd_1 (by omega)).mp hg.1
    have q2 := (gd_1 (by omega)).mp hg.2
    rw [if_pos (by rw [A.a0, A.a1]; exact ⟨q1.1, q1.2, q2⟩)]
    obtain ⟨T, hT, rfl⟩ := gd_e (by omega) hg.1
    obtain ⟨C, hC, rfl⟩ := gd_e (by omega) hg.2
    rw [nI_clamp (by omega), nI_clamp (by omega), A.an T hT C hC]
    congr 1
    have e : nI T * 14 + nI C = nI (T * 14 + C) := by simp only [fa_lit, nI_add, pk_mul]
    rw [e, nI_clamp (by omega)]
  · rw [if_neg (fun z => hg ⟨⟨z.1, z.2.1⟩, z.2.2⟩), if_neg (fun z => hg ⟨(gd_1 (by omega)).mpr (by rw [← A.a1]; exact ⟨z.1, z.2.1⟩), (gd_1 (by omega)).mpr (by rw [← A.a0]; exact z.2.2)⟩)]
theorem two_fault {h : AH} {g : Gh} {drn : Nat} (I : InvC h g drn) (G : GhOK g) (w : Int32) : Two h g drn M_X10_fault M_X11_fault [.int w] := by
  refine Two.same I G _ (s_X10_fault I.mc) (fun h' J => ?_)
  obtain ⟨mup, mlo, mln, mat, mtk, mso, mto, mwr, mwp, mop, mfs, mws, mst, mnc, mnk, mnr, mdn, mgu, mgl, H_md⟩ := J.md
  exact s_X11_fault H_md
theorem two_about {h : AH} {g : Gh} {drn : Nat} (I : InvC h g drn) (G : GhOK g) (w : Int32) : Two h g drn M_X10_about M_X11_about [.int w] := by
  obtain ⟨ks, gs, ps, t1, t2, t3, t4, t5, t6, t7⟩ := I.th
  obtain ⟨hN, hca, sx, wt, hm, wo, H_ch, -⟩ := id I.ch
  obtain ⟨a0, b0, fr0, to0, v1, v2, few0, ways0, k1, k2, -⟩ := I.lk
  obtain ⟨lw, hw, l1, -⟩ := I.ld
  refine Two.same I G _ (s_X10_about I.mc H_ch t1 k2 l1) (fun h' J => ?_)
  obtain ⟨mup, mlo, mln, mat, mtk, mso, mto, mwr, mwp, mop, mfs, mws, mst, mnc, mnk, mnr, mdn, mgu, mgl, H_md⟩ := J.md
  obtain ⟨a, H_a, A⟩ := J.a
  refine (s_X11_about H_md H_a A.a0 hN).end (fun v h'' q => ⟨q.1.trans ?_, q.2⟩)
  congr 2
  by_cases h0 : w = 0
  · subst h0; exact A.a0
  by_cases h1 : w = 1
  · subst h1; exact A.a1
  by_cases h2 : w = 2
  · subst h2; exact A.a2
  by_cases h3 : w = 3
  · subst h3; exact A.a3
  by_cases h4 : w = 4
  · subst h4; exact A.a4
  by_cases h5 : w = 5
  · subst h5; exact A.a5
  have hr : ¬ (0 ≤ w ∧ w ≤ 5) := fun z => by
    obtain ⟨k, hk, rfl⟩ := i_nat (i := w) (Int32.le_trans (by decide) z.1) (fun e => by rw [e] at z; exact absurd z.1 (by decide))
    have := i_le (b := 5) hk (by decide) z.2
    have : k = 0 ∨ k = 1 ∨ k = 2 ∨ k = 3 ∨ k = 4 ∨ k = 5 := by omega
    rcases this with rfl | rfl | rfl | rfl | rfl | rfl
    · exact h0 rfl
    · exact h1 rfl
    · exact h2 rfl
    · exact h3 rfl
    · exact h4 rfl
    · exact h5 rfl
  rw [if_neg hr, if_neg h0, if_neg h1, if_neg h2, if_neg h3, if_neg h4, if_neg h5, A.hbits G.c, A.hcoins G.c]

