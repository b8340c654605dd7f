/-! live, image, again -/
theorem lvV_99 {ca : Nat → Nat → Nat} {S0 ag seed nc : Nat} {kd : Nat → Nat} {cd : Nat → List Nat} (c : Nat) : lvV ca S0 ag seed nc kd cd c = -1 ∨ ∃ v, v ≤ 99 ∧ lvV ca S0 ag seed nc kd cd c = nI v := by
  unfold lvV
  split
  · right
    have h : ∀ z : Int, 0 ≤ mxI 0 (mnI z 99) ∧ mxI 0 (mnI z 99) ≤ 99 := fun z => by
      unfold mxI mnI
      repeat' split
      all_goals omega
    obtain ⟨h1, h2⟩ := h (valN (nmL ca S0 ag seed c) nc kd cd)
    generalize mxI 0 (mnI (valN (nmL ca S0 ag seed c) nc kd cd) 99) = z at h1 h2 ⊢
    exact ⟨z.toNat, by omega, by rw [nI_int, Int.toNat_of_nonneg h1]⟩
  · exact Or.inl rfl
def lvG (g : Gh) (tp T seed : Nat) : Gh := (Cn.mk g.c.N g.c.n g.c.tcn g.c.nl g.c.ns g.c.cst g.c.S0 g.c.co (lvS g.c.an (lvV g.d.ca g.c.S0 (g.d.ag T) seed (g.d.tx tp).1 (g.d.tx tp).2.1 (g.d.tx tp).2.2.1) T g.c.N), g.k, g.d, g.L, g.tb, g.fa, g.fp)
theorem two_live {h : AH} {g : Gh} {drn : Nat} (I : InvC h g drn) (G : GhOK g) (x1 x2 x3 : Int32) : Two h g drn M_X10_live M_X11_live [.int x1, .int x2, .int x3] := by
  have K := G.c
  have hN := K.hN
  have hn := K.hn
  have hnl := K.hnl
  have hns := K.hns
  obtain ⟨ks, gs, ps, t1, t2, t3, t4, t5, t6, t7⟩ := I.th
  by_cases hg : (0 ≤ x1 ∧ x1 < nI g.c.tcn) ∧ (0 ≤ x2 ∧ x2 < nI g.c.n) ∧ (0 ≤ x3 ∧ x3 ≤ 9999)
  · obtain ⟨g1, g2, g3⟩ := hg
    obtain ⟨tp, htp, rfl⟩ := gd_e (by have := K.htc; omega) g1
    obtain ⟨T, hTn, rfl⟩ := gd_e (by omega) g2
    obtain ⟨e3, h3⟩ := cl_of (b := 9999) (by decide) g3
    generalize x3.toNatClampNeg = seed at e3 h3
    subst e3
    obtain ⟨txs, H_txs, htx⟩ := I.rw
    obtain ⟨nms, hJ⟩ := I.ju
    have hT := (I.tt.2 tp htp).c
    have hag := (K.hth T hTn).2.1
    have lv : ∀ t c, c < 14 → T < 12 → lvS g.c.an (lvV g.d.ca g.c.S0 (g.d.ag T) seed (g.d.tx tp).1 (g.d.tx tp).2.1 (g.d.tx tp).2.2.1) T g.c.N (t * 14 + c) = if t = T ∧ c < g.c.N then lvV g.d.ca g.c.S0 (g.d.ag T) seed (g.d.tx tp).1 (g.d.tx tp).2.1 (g.d.tx tp).2.2.1 c else g.c.an (t * 14 + c) := fun t c hc hT12 => by
      unfold lvS
      by_cases e : t = T ∧ c < g.c.N
      · rw [if_pos e, if_pos (by omega)]
        congr 1
        omega
      · rw [if_neg e, if_neg (by omega)]
    refine Two.mk1 (g' := lvG g tp T seed) I.drn ?_ (s_X10_live I.mc H_txs htx I.ch hT hJ (K.htx tp htp).1 t1 t3 t6 hn htp K.htc K.hS0 hTn (t7 T hTn).2.1 hag h3) (fun h' q => ?_) (fun h' J => ?_)
    · refine ⟨⟨K.hN, K.hn, K.htc, K.hnl, K.hns, K.hcst, K.hS0, K.hco, K.hca, K.hth, fun t ht c hc => ?_, fun t ht c hc hz => ?_, K.hlk, K.hld, K.htx⟩, G.k, G.le, G.L, G.tb⟩
      · show lvS _ _ _ _ _ = -1 ∨ ∃ v, v ≤ 99 ∧ lvS _ _ _ _ _ = nI v
        rw [lv t c hc (by omega)]
        split
        · exact lvV_99 c
        · exact K.hV t ht c hc
      · have hz : g.c.n ≤ t ∨ g.c.N ≤ c := hz
        show lvS _ _ _ _ _ = -1
        rw [lv t c hc (by omega), if_neg (by omega)]
        exact K.hZ t ht c hc hz
    · obtain ⟨ju, H, F⟩ := q
      exact ⟨⟨Nat.lt_of_lt_of_le I.sz F.2.1, F.hs I.mc (by decide), I.ch.o F.z (by decide), ⟨ks, gs, ps, F.hs t1 (by decide), F.hs t2 (by decide), F.hs t3 (by decide), F.hs t4 (by decide), F.hs t5 (by decide), H, t7⟩, I.lk.o F.z (by decide), I.ld.o F.z (by decide), I.rw.o F.z (by decide), I.tp.o F.z (by decide), I.tt.o K.htc F.z (by decide), I.rd.o F.z (by decide), ju, I.de.o F (by decide) (by decide), I.ta.o F.z (by decide), I.tb.o F.z (by decide), I.fa.o F.z (by decide), I.im.o F.z (by decide)⟩, KeepM.r F (by decide)⟩
    · obtain ⟨mup, mlo, mln, mat, mtk, mso, mto, mwr, mwp, mop, mfs, mws, mst, mnc, mnk, mnr, mdn, mgu, mgl, H_md⟩ := J.md
      obtain ⟨a, H_a, A⟩ := J.a
      obtain ⟨⟨nms0, H_mnm⟩, pi0, H_mpi⟩ := J.mr.1
      refine (s_X11_live H_md H_a A.a0 K.hN K.hca A.ca A.a1 K.hn K.hS0 A.a2 htp K.htc (J.tx tp htp).m (K.htx tp htp).1 (K.htx tp htp).2 H_mnm H_mpi hTn A.ha (A.th T hTn).2.1 hag h3).end ?_
      rintro v h'' ⟨x, e0, ex, H, nm, pi, F⟩
      have lo : ∀ j, j < 150 + 14 * T ∨ 150 + 14 * T + g.c.N ≤ j → mlA a (lvV g.d.ca g.c.S0 (g.d.ag T) seed (g.d.tx tp).1 (g.d.tx tp).2.1 (g.d.tx tp).2.2.1) T g.c.N j = a j := fun j hj => by
        unfold mlA
        rw [if_neg (by omega)]
      refine ⟨x, e0, ex, ⟨⟨_, _, _, _, _, _, _, _, _, _, _, _, _, _, _, _, _, _, _, F.hs H_md (by decide)⟩, ⟨_, H, ⟨(lo _ (by omega)).trans A.a0, (lo _ (by omega)).trans A.a1, (lo _ (by omega)).trans A.a2, (lo _ (by omega)).trans A.a3, (lo _ (by omega)).trans A.a4, (lo _ (by omega)).trans A.a5, fun u k hu hk => ?_, fun u hu => ?_, fun u hu => ?_, fun t ht => ?_, fun t ht u hu => ?_, fun i hi => ?_, fun j hj => ?_⟩⟩, J.im.elim fun q z => ⟨q, F.hs z.1 (by decide), z.2⟩, J.tp.elim fun q z => ⟨q, F.hs z.1 (by decide), z.2⟩, fun t ht => (J.tx t ht).fr F (by decide), J.mk.fr F (by decide), ⟨⟨nm, pi⟩, J.mr.2.1.elim fun q z => ⟨q, F.hs z (by decide)⟩, J.mr.2.2.elim fun q z => ⟨q, F.hs z (by decide)⟩⟩, J.dl.elim fun q z => ⟨q, F.hs z (by decide)⟩, J.fs.elim fun q z => ⟨q, F.hs z (by decide)⟩, J.r1.elim fun q z => ⟨q, F.hs z (by decide)⟩, J.r2.elim fun q z => ⟨q, F.hs z (by decide)⟩⟩, _, F, by decide⟩
      · have hu : u < g.c.N := hu
        exact (lo _ (by omega)).trans (A.ca u k hu hk)
      · have hu : u < g.c.N := hu
        exact (lo _ (by omega)).trans (A.co u hu)
      · have hu : u < g.c.N := hu
        exact (lo _ (by omega)).trans (A.ha u hu)
      · have ht : t < g.c.n := ht
        exact ⟨(lo _ (by omega)).trans (A.th t ht).1, (lo _ (by omega)).trans (A.th t ht).2.1, (lo _ (by omega)).trans (A.th t ht).2.2.1, (lo _ (by omega)).trans (A.th t ht).2.2.2⟩
      · have ht : t < g.c.n := ht
        have hu : u < g.c.N := hu
        show _ = lvS _ _ _ _ (t * 14 + u)
        rw [lv t u (by omega) (by omega)]
        by_cases e : t = T
        · subst e
          rw [if_pos ⟨rfl, hu⟩]
          unfold mlA
          rw [if_pos (by omega)]
          congr 1
          omega
        · rw [if_neg (fun z => e z.1), lo _ (by omega)]
          exact A.an t ht u hu
      · have hi : i < g.c.nl := hi
        exact ⟨(lo _ (by omega)).trans (A.lk i hi).1, (lo _ (by omega)).trans (A.lk i hi).2⟩
      · have hj : j < g.c.ns := hj
        exact ⟨(lo _ (by omega)).trans (A.ld j hj).1, (lo _ (by omega)).trans (A.ld j hj).2⟩
  · refine Two.same I G (-1) (s_X10_live_bad I.mc t1 hg) (fun h' J => ?_)
    obtain ⟨mup, mlo, mln, mat, mtk, mso, mto, mwr, mwp, mop, mfs, mws, mst, mnc, mnk, mnr, mdn, mgu, mgl, H_md⟩ := J.md
    obtain ⟨a, H_a, A⟩ := J.a
    refine s_X11_live_bad H_md H_a ?_
    intro hq
    obtain ⟨q1, q2, q3⟩ := hq
    exact hg ⟨(gd_1 (by have := K.htc; omega)).mpr (by rw [← A.a2]; exact q1), (gd_1 (by omega)).mpr (by rw [← A.a1]; exact q2), q3⟩
/-- what is kept -/
def keG (c : Cn) (an : Nat → Int32) : Cn := Cn.mk c.N c.n c.tcn c.nl c.ns c.cst c.S0 c.co an
theorem CnOK.ke {c : Cn} {d : Da} {an : Nat → Int32} (K : CnOK c d) (h : ∀ j, j < 168 → an j = c.an j) : CnOK (keG c an) d :=
  ⟨K.hN, K.hn, K.htc, K.hnl, K.hns, K.hcst, K.hS0, K.hco, K.hca, K.hth, fun t ht x hx => by show an _ = -1 ∨ ∃ v, v ≤ 99 ∧ an _ = nI v; rw [h _ (by omega)]; exact K.hV t ht x hx, fun t ht x hx z => by show an _ = -1; rw [h _ (by omega)]; exact K.hZ t ht x hx z, K.hlk, K.hld, K.htx⟩
theorem Am.ke {a : Nat → Int32} {c : Cn} {d : Da} {an : Nat → Int32} (A : Am a c d) (K : CnOK c d) (h : ∀ j, j < 168 → an j = c.an j) : Am a (keG c an) d :=
  ⟨A.a0, A.a1, A.a2, A.a3, A.a4, A.a5, A.ca, A.co, A.ha, A.th, fun t ht x hx => by
    show _ = an _
    have ht : t < c.n := ht
    have hx : x < c.N := hx
    have := K.hn
    have := K.hN
    rw [h _ (by omega)]
    exact A.an t ht x hx, A.lk, A.ld⟩
theorem cpy168 {f g : Nat → Int32} {j : Nat} (hj : j < 168) : va_cpy f g 0 0 168 j = f j := by
  unfold va_cpy
  rw [if_pos ⟨Nat.zero_le _, by omega⟩]
  congr 1
  omega
theorem two_image {h : AH} {g : Gh} {drn : Nat} (I : InvC h g drn) (G : GhOK g) : Two h g drn M_X10_image M_X11_image [] := by
  have K := G.c
  obtain ⟨ks, gs, ps, t1, t2, t3, t4, t5, t6, t7⟩ := I.th
  obtain ⟨hN0, hca, sx, wt, hm, wo, H_ch, -⟩ := id I.ch
  obtain ⟨a0, b0, fr0, to0, v1, v2, few0, ways0, k1, k2, -⟩ := I.lk
  obtain ⟨lw, hw, l1, -⟩ := I.ld
  refine Two.mk0 (g' := (g.c, keG g.c (va_cpy g.c.an g.k.an 0 0 168), g.d, g.L, g.tb, g.fa, g.fp)) (nI g.c.N) I.drn ?_ ((s_X10_image I.mc H_ch t1 k2 l1 I.im.1 t6 I.im.2).end ?_) (fun h' J => ?_)
  · exact ⟨K, K.ke (fun j hj => cpy168 hj), ⟨Nat.le_refl _, Nat.le_refl _, Nat.le_refl _, Nat.le_refl _, Nat.le_refl _⟩, G.L, G.tb⟩
  · rintro v h' ⟨e0, rfl⟩
    have F : Fr [40, 41] h (up (up h 40 (oIm (nI g.c.N) (nI g.c.co) (nI g.c.S0) (nI g.c.n) (nI g.c.tcn) (nI g.c.nl) (nI g.c.ns) (nI g.c.cst))) 41 (aI 168 (va_cpy g.c.an g.k.an 0 0 168))) := ((Fr.refl _ _).up (by decide)).up (by decide)
    exact ⟨_, e0, rfl, ⟨Nat.lt_of_lt_of_le I.sz F.2.1, F.hs I.mc (by decide), I.ch.o F.z (by decide), I.th.o F.z (by decide), I.lk.o F.z (by decide), I.ld.o F.z (by decide), I.rw.o F.z (by decide), I.tp.o F.z (by decide), I.tt.o K.htc F.z (by decide), I.rd.o F.z (by decide), JuC.o I.ju F.z (by decide), I.de.o F (by decide) (by decide), I.ta.o F.z (by decide), I.tb.o F.z (by decide), I.fa.o F.z (by decide), ⟨I.im.1.s.n (by decide), (I.im.2.n (by decide)).s⟩⟩, KeepM.r F (by decide)⟩
  · obtain ⟨mup, mlo, mln, mat, mtk, mso, mto, mwr, mwp, mop, mfs, mws, mst, mnc, mnk, mnr, mdn, mgu, mgl, H_md⟩ := J.md
    obtain ⟨a, H_a, A⟩ := J.a
    obtain ⟨im, H_im, B⟩ := J.im
    refine (s_X11_image H_md H_a H_im).end ?_
    rintro v h'' ⟨e0, rfl⟩
    have F : Fr [68] h' (up h' 68 (aI 380 (cpN a im 380))) := (Fr.refl _ _).up (by decide)
    refine ⟨_, e0, A.a0, ⟨⟨_, _, _, _, _, _, _, _, _, _, _, _, _, _, _, _, _, _, _, F.hs H_md (by decide)⟩, ⟨a, F.hs H_a (by decide), A⟩, ⟨_, H_im.s, (A.cp K (fun j hj => ?_)).ke K (fun j hj => cpy168 hj)⟩, J.tp.elim fun q z => ⟨q, F.hs z.1 (by decide), z.2⟩, fun t ht => (J.tx t ht).fr F (by decide), J.mk.fr F (by decide), J.mr.fr F (by decide), J.dl.elim fun q z => ⟨q, F.hs z (by decide)⟩, J.fs.elim fun q z => ⟨q, F.hs z (by decide)⟩, J.r1.elim fun q z => ⟨q, F.hs z (by decide)⟩, J.r2.elim fun q z => ⟨q, F.hs z (by decide)⟩⟩, _, F, by decide⟩
    unfold cpN
    rw [if_pos hj]
theorem two_again {h : AH} {g : Gh} {drn : Nat} (I : InvC h g drn) (G : GhOK g) : Two h g drn M_X10_again M_X11_again [] := by
  have K := G.k
  have htc := G.c.htc
  obtain ⟨le1, le2, le3, le4, le5⟩ := G.le
  obtain ⟨ks, gs, ps, t1, t2, t3, t4, t5, t6, t7⟩ := I.th
  obtain ⟨hN0, hca, sx, wt, hm, wo, H_ch, H_sx, H_wt, H_hm, H_wk, hc4⟩ := id I.ch
  obtain ⟨a0, b0, fr0, to0, v1, v2, few0, ways0, k1, k2, k3, k4, k5, k6, k7⟩ := I.lk
  obtain ⟨lw, hw, l1, l2, l3, l4⟩ := I.ld
  obtain ⟨dt, L0, hD, -, hm9⟩ := I.de
  obtain ⟨drow, row, w9, a9, H_de, H_dw, H_da, H_dr, hrow, hD1, hD2, hD3, hD4, hD5⟩ := hD
  refine Two.mk0 (g' := (keG g.k (va_cpy g.k.an g.c.an 0 0 168), g.k, g.d, g.L, g.tb, g.fa, g.fp)) (nI g.k.N) I.drn ?_ ((s_X10_again I.mc H_ch t1 k2 l1 I.im.1 t6 I.im.2 H_de).end ?_) (fun h' J => ?_)
  · exact ⟨K.ke (fun j hj => cpy168 hj), K, ⟨Nat.le_refl _, Nat.le_refl _, Nat.le_refl _, Nat.le_refl _, Nat.le_refl _⟩, G.L, G.tb⟩
  · rintro v h' ⟨e0, rfl⟩
    have F : Fr [0, 1, 6, 11, 12, 17, 27] h (up (up (up (up (up (up (up (up h 1 (oCh (nI g.k.N) (nI g.k.co) (nI g.k.S0))) 6 (oTh (nI g.k.n))) 0 (oMC (nI g.k.tcn) (nI g.L) g.fa g.fp (nI g.c.cst))) 12 (oLk a0 b0 (nI g.k.nl) few0 ways0)) 17 (oLd (nI g.k.ns))) 0 (oMC (nI g.k.tcn) (nI g.L) g.fa g.fp (nI g.k.cst))) 11 (aI 168 (va_cpy g.k.an g.c.an 0 0 168))) 27 (oDe drow (nI L0.length) (-1))) := ((((((((Fr.refl _ _).up (by decide)).up (by decide)).up (by decide)).up (by decide)).up (by decide)).up (by decide)).up (by decide)).up (by decide)
    refine ⟨_, e0, rfl, ⟨Nat.lt_of_lt_of_le I.sz F.2.1, ?_, ⟨K.hN, K.hca, sx, wt, hm, wo, ?_, F.hs H_sx (by decide), F.hs H_wt (by decide), F.hs H_hm (by decide), F.hs H_wk (by decide), fun c hc => hc4 c (Nat.lt_of_lt_of_le hc le1)⟩, ⟨ks, gs, ps, ?_, F.hs t2 (by decide), F.hs t3 (by decide), F.hs t4 (by decide), F.hs t5 (by decide), ?_, fun t ht => t7 t (Nat.lt_of_lt_of_le ht le2)⟩, ⟨a0, b0, fr0, to0, v1, v2, few0, ways0, k1, ?_, F.hs k3 (by decide), F.hs k4 (by decide), F.hs k5 (by rcases k1 with ⟨e, -⟩ | ⟨e, -⟩ <;> rw [e] <;> decide), F.hs k6 (by rcases k1 with ⟨-, e⟩ | ⟨-, e⟩ <;> rw [e] <;> decide), fun i hi => k7 i (Nat.lt_of_lt_of_le hi le4)⟩, ⟨lw, hw, ?_, F.hs l2 (by decide), F.hs l3 (by decide), fun j hj => l4 j (Nat.lt_of_lt_of_le hj le5)⟩, I.rw.o F.z (by decide), I.tp.o F.z (by decide), ?_, I.rd.o F.z (by decide), JuC.o I.ju F.z (by decide), ⟨-1, L0, ⟨drow, row, w9, a9, ?_, F.hs H_dw (by decide), F.hs H_da (by decide), F.hs H_dr (by rcases hrow with e | e; rw [e]; decide; simp; omega), hrow, hD1, hD2, hD3, hD4, hD5⟩, Or.inl rfl, hm9⟩, I.ta.o F.z (by decide), I.tb.o F.z (by decide), I.fa.o F.z (by decide), I.im.o F.z (by decide)⟩, KeepM.r F (by decide)⟩
    · exact ((Hs.s ((((I.mc.n (by decide)).n (by decide)).s.n (by decide)).n (by decide))).n (by decide)).n (by decide)
    · exact (((((((H_ch.s).n (by decide)).n (by decide)).n (by decide)).n (by decide)).n (by decide)).n (by decide)).n (by decide)
    · exact ((((((Hs.s (t1.n (by decide))).n (by decide)).n (by decide)).n (by decide)).n (by decide)).n (by decide)).n (by decide)
    · exact (Hs.s ((((((t6.n (by decide)).n (by decide)).n (by decide)).n (by decide)).n (by decide)).n (by decide))).n (by decide)
    · exact ((((Hs.s (((k2.n (by decide)).n (by decide)).n (by decide))).n (by decide)).n (by decide)).n (by decide)).n (by decide)
    · exact (((Hs.s ((((l1.n (by decide)).n (by decide)).n (by decide)).n (by decide))).n (by decide)).n (by decide)).n (by decide)
    · have T := I.tt.o htc F.z (by decide)
      exact ⟨T.1, fun t ht => T.2 t (Nat.lt_of_lt_of_le ht le3)⟩
    · exact Hs.s (((((((H_de.n (by decide)).n (by decide)).n (by decide)).n (by decide)).n (by decide)).n (by decide)).n (by decide))
  · obtain ⟨mup, mlo, mln, mat, mtk, mso, mto, mwr, mwp, mop, mfs, mws, mst, mnc, mnk, mnr, mdn, mgu, mgl, H_md⟩ := J.md
    obtain ⟨a, H_a, A⟩ := J.a
    obtain ⟨im, H_im, B⟩ := J.im
    refine (s_X11_again H_md H_a H_im).end ?_
    rintro v h'' ⟨e0, rfl⟩
    have F : Fr [67] h' (up h' 67 (aI 380 (cpN im a 380))) := (Fr.refl _ _).up (by decide)
    have ecp : ∀ j, j < 380 → cpN im a 380 j = im j := fun j hj => by unfold cpN; rw [if_pos hj]
    exact ⟨_, e0, (ecp 0 (by decide)).trans B.a0, ⟨⟨_, _, _, _, _, _, _, _, _, _, _, _, _, _, _, _, _, _, _, F.hs H_md (by decide)⟩, ⟨_, H_a.s, (B.cp K ecp).ke K (fun j hj => cpy168 hj)⟩, ⟨im, F.hs H_im (by decide), B⟩, J.tp.elim fun q z => ⟨q, F.hs z.1 (by decide), z.2⟩, fun t ht => (J.tx t (Nat.lt_of_lt_of_le ht le3)).fr F (by decide), J.mk.fr F (by decide), J.mr.fr F (by decide), J.dl.elim fun q z => ⟨q, F.hs z (by decide)⟩, J.fs.elim fun q z => ⟨q, F.hs z (by decide)⟩, J.r1.elim fun q z => ⟨q, F.hs z (by decide)⟩, J.r2.elim fun q z => ⟨q, F.hs z (by decide)⟩⟩, _, F, by decide⟩
