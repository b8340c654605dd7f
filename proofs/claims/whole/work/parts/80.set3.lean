/-! end, feed, text, live, image, again -/
theorem InvM.gen0 {S : List Nat} {h h' : AH} {g : Gh} {L' : Nat} {fa' fp' : Int32} {tb' : Nat → Nat} (J : InvM h g) (F : Fr S h h') (md : MdO h' (nI L') fa' fp') (tp : ∃ mt : Nat → Int32, Hs h' 69 (aB 300 mt) ∧ ∀ k, k < 300 → mt k = sbI (tb' k)) (hS : ∀ x, x ∈ S → x = 66 ∨ x = 69) : InvM h' (g.c, g.k, g.d, L', tb', fa', fp') := by
  have O : ∀ k, k ≠ 66 ∧ k ≠ 69 → k ∉ S := fun k hk z => by have := hS k z; omega
  obtain ⟨-, ⟨a, a1, a2⟩, ⟨im, i1, i2⟩, -, tx, mk, mr, ⟨dl, d1⟩, ⟨fs, f1⟩, ⟨r1, q1⟩, ⟨r2, q2⟩⟩ := J
  exact ⟨md, ⟨a, F.hs a1 (O _ (by decide)), a2⟩, ⟨im, F.hs i1 (O _ (by decide)), i2⟩, tp, fun t ht => (tx t ht).fr F ⟨O _ (by decide), O _ (by decide), O _ (by decide), O _ (by decide), O _ (by decide), O _ (by decide)⟩, mk.fr F (fun x hx => by have := hS x hx; omega), mr.fr F ⟨O _ (by decide), O _ (by decide), O _ (by decide), O _ (by decide)⟩, ⟨dl, F.hs d1 (O _ (by decide))⟩, ⟨fs, F.hs f1 (O _ (by decide))⟩, ⟨r1, F.hs q1 (O _ (by decide))⟩, ⟨r2, F.hs q2 (O _ (by decide))⟩⟩
theorem two_end {h : AH} {g : Gh} {drn : Nat} (I : InvC h g drn) (G : GhOK g) (x : Int32) : Two h g drn M_X10_end M_X11_end [.int x] := by
  have hL := G.L
  have key : (0 ≤ x ∧ x ≤ nI g.L) → x = nI x.toNatClampNeg ∧ x.toNatClampNeg ≤ g.L := fun z => cl_of (by omega) z
  refine Two.pOx (g' := (g.c, g.k, g.d, x.toNatClampNeg, g.tb, g.fa, g.fp)) I G (fun z => ?_) (s_X10_end (n := x) I.mc) (fun z => ?_) (fun h' J => ?_)
  · exact ⟨G.c, G.k, G.le, by show x.toNatClampNeg ≤ 300; have := (key z).2; omega, G.tb⟩
  · obtain ⟨q1, q2⟩ := key z
    have F : Fr [0] h (up h 0 (oMC (nI g.c.tcn) x g.fa g.fp (nI g.c.cst))) := (Fr.refl _ _).up (by decide)
    exact ⟨⟨Nat.lt_of_lt_of_le I.sz F.2.1, by show Hs _ 0 (oMC (nI g.c.tcn) (nI x.toNatClampNeg) g.fa g.fp (nI g.c.cst)); rw [← q1]; exact I.mc.s, I.ch.o F.z (by decide), I.th.o F.z (by decide), I.lk.o F.z (by decide), I.ld.o F.z (by decide), I.rw.o F.z (by decide), I.tp.o F.z (by decide), I.tt.o G.c.htc F.z (by decide), I.rd.o F.z (by decide), JuC.o I.ju F.z (by decide), I.de.o F (by decide) (by decide), I.ta.o F.z (by decide), I.tb.o F.z (by decide), I.fa.o F.z (by decide), I.im.o F.z (by decide)⟩, KeepM.r F (by decide)⟩
  · obtain ⟨mup, mlo, mln, mat, mtk, mso, mto, mwr, mwp, mop, mfs, mws, mst, mnc, mnk, mnr, mdn, mgu, mgl, H_md⟩ := J.md
    refine ⟨_, _, _, s_X11_end (n := x) H_md, Iff.rfl, fun z => ⟨rfl, ?_⟩⟩
    obtain ⟨q1, q2⟩ := key z
    have F : Fr [66] h' (up h' 66 (oMd x g.fa g.fp mup mlo mln mat mtk mso mto mwr mwp mop mfs mws mst mnc mnk mnr mdn mgu mgl)) := (Fr.refl _ _).up (by decide)
    exact ⟨J.gen0 F ⟨_, _, _, _, _, _, _, _, _, _, _, _, _, _, _, _, _, _, _, by rw [← q1]; exact H_md.s⟩ (J.tp.elim fun mt q => ⟨mt, q.1.n (by decide), q.2⟩) (by decide), [66], F, by decide⟩
/-- bytes of a word -/
def bN (w k : Int32) : Nat := (w >>> (k &&& 31)).toUInt32.toNat % 256
theorem byte_c (y : Int32) : y &&& 255 = nI (y.toUInt32.toNat % 256) := by
  have h : y = nI y.toUInt32.toNat := x_nI y
  have h2 : (255 : Int32) = nI 255 := rfl
  rw [h2]
  conv => lhs; rw [h]
  rw [nI_and]
  congr 1
  exact Nat.and_two_pow_sub_one_eq_mod _ 8
theorem byte_t : ∀ b, b < 256 → (nI b).toInt8.toInt32 = sbI b := by decide +kernel
theorem byte_m (y : Int32) : y.toInt8.toInt32 = sbI (y.toUInt32.toNat % 256) := by
  rw [← byte_t _ (Nat.mod_lt _ (by decide))]
  congr 1
  apply Int8.toBitVec_inj.mp
  show y.toBitVec.signExtend 8 = (nI (y.toUInt32.toNat % 256)).toBitVec.signExtend 8
  rw [BitVec.signExtend_eq_setWidth_of_le _ (by decide), BitVec.signExtend_eq_setWidth_of_le _ (by decide), nI_bv]
  apply BitVec.eq_of_toNat_eq
  rw [BitVec.toNat_setWidth, BitVec.toNat_setWidth, BitVec.toNat_ofNat]
  show y.toBitVec.toNat % 2 ^ 8 = y.toBitVec.toNat % 256 % 2 ^ 32 % 2 ^ 8
  omega
def tb4 (f : Nat → Nat) (t : Nat) (w : Int32) : Nat → Nat := va_up (va_up (va_up (va_up f t (bN w 24)) (t + 1) (bN w 16)) (t + 2) (bN w 8)) (t + 3) (bN w 0)
theorem up_c {f : Nat → Int32} {b : Nat → Nat} {t v : Nat} {x : Int32} (h : ∀ k, k < 300 → f k = nI (b k)) (e : x = nI v) : ∀ k, k < 300 → va_up f t x k = nI (va_up b t v k) := fun k hk => by
  by_cases q : k = t
  · subst q; rw [va_up_self, va_up_self]; exact e
  · rw [va_up_ne _ _ q, va_up_ne _ _ q]; exact h k hk
theorem up_m {f : Nat → Int32} {b : Nat → Nat} {t v : Nat} {x : Int32} (h : ∀ k, k < 300 → f k = sbI (b k)) (e : x = sbI v) : ∀ k, k < 300 → va_up f t x k = sbI (va_up b t v k) := fun k hk => by
  by_cases q : k = t
  · subst q; rw [va_up_self, va_up_self]; exact e
  · rw [va_up_ne _ _ q, va_up_ne _ _ q]; exact h k hk
theorem up_b {b : Nat → Nat} {t v : Nat} (h : ∀ k, k < 300 → b k < 256) (e : v < 256) : ∀ k, k < 300 → va_up b t v k < 256 := fun k hk => by
  by_cases q : k = t
  · subst q; rw [va_up_self]; exact e
  · rw [va_up_ne _ _ q]; exact h k hk
theorem tape4_c {f : Nat → Int32} {b : Nat → Nat} {t : Nat} {w : Int32} (h : ∀ k, k < 300 → f k = nI (b k)) : ∀ k, k < 300 → tape4 f t w k = nI (tb4 b t w k) := up_c (up_c (up_c (up_c h (byte_c _)) (byte_c _)) (byte_c _)) (byte_c _)
theorem tape4_m {f : Nat → Int32} {b : Nat → Nat} {t : Nat} {w : Int32} (h : ∀ k, k < 300 → f k = sbI (b k)) : ∀ k, k < 300 → mtape4 f t w k = sbI (tb4 b t w k) := up_m (up_m (up_m (up_m h (byte_m _)) (byte_m _)) (byte_m _)) (byte_m _)
theorem tape4_b {b : Nat → Nat} {t : Nat} {w : Int32} (h : ∀ k, k < 300 → b k < 256) : ∀ k, k < 300 → tb4 b t w k < 256 := up_b (up_b (up_b (up_b h (Nat.mod_lt _ (by decide))) (Nat.mod_lt _ (by decide))) (Nat.mod_lt _ (by decide))) (Nat.mod_lt _ (by decide))
def fdG (g : Gh) (p q r s u : Int32) : Gh := (g.c, g.k, g.d, g.L + 20, tb4 (tb4 (tb4 (tb4 (tb4 g.tb g.L p) (g.L + 4) q) (g.L + 4 + 4) r) (g.L + 4 + 4 + 4) s) (g.L + 4 + 4 + 4 + 4) u, g.fa, g.fp)
theorem two_feed {h : AH} {g : Gh} {drn : Nat} (I : InvC h g drn) (G : GhOK g) (p q r s u : Int32) : Two h g drn M_X10_feed M_X11_feed [.int p, .int q, .int r, .int s, .int u] := by
  have hL := G.L
  obtain ⟨tp, H_tape, htp⟩ := I.tp
  refine Two.pOx (g' := fdG g p q r s u) I G (fun z => ?_) (s_X10_feed (p := p) (q := q) (r := r) (s := s) (u := u) I.mc H_tape hL) (fun z => ?_) (fun h' J => ?_)
  · exact ⟨G.c, G.k, G.le, z, tape4_b (tape4_b (tape4_b (tape4_b (tape4_b G.tb))))⟩
  · have F : Fr [0, 21] h (up (up h 21 (aI 300 (tape4 (tape4 (tape4 (tape4 (tape4 tp g.L p) (g.L + 4) q) (g.L + 4 + 4) r) (g.L + 4 + 4 + 4) s) (g.L + 4 + 4 + 4 + 4) u))) 0 (oMC (nI g.c.tcn) (nI (g.L + 20)) g.fa g.fp (nI g.c.cst))) := ((Fr.refl _ _).up (by decide)).up (by decide)
    exact ⟨⟨Nat.lt_of_lt_of_le I.sz F.2.1, (I.mc.n (by decide)).s, I.ch.o F.z (by decide), I.th.o F.z (by decide), I.lk.o F.z (by decide), I.ld.o F.z (by decide), I.rw.o F.z (by decide), ⟨_, H_tape.s.n (by decide), tape4_c (tape4_c (tape4_c (tape4_c (tape4_c htp))))⟩, I.tt.o G.c.htc F.z (by decide), I.rd.o F.z (by decide), JuC.o I.ju F.z (by decide), I.de.o F (by decide) (by decide), I.ta.o F.z (by decide), I.tb.o F.z (by decide), I.fa.o F.z (by decide), I.im.o F.z (by decide)⟩, KeepM.r F (by decide)⟩
  · obtain ⟨mup, mlo, mln, mat, mtk, mso, mto, mwr, mwp, mop, mfs, mws, mst, mnc, mnk, mnr, mdn, mgu, mgl, H_md⟩ := J.md
    obtain ⟨mt, H_mt, hmt⟩ := J.tp
    refine ⟨_, _, _, s_X11_feed (p := p) (q := q) (r := r) (s := s) (u := u) H_md H_mt hL, Iff.rfl, fun z => ⟨rfl, ?_⟩⟩
    have F : Fr [66, 69] h' (up (up h' 69 (aB 300 (mtape4 (mtape4 (mtape4 (mtape4 (mtape4 mt g.L p) (g.L + 4) q) (g.L + 4 + 4) r) (g.L + 4 + 4 + 4) s) (g.L + 4 + 4 + 4 + 4) u))) 66 (oMd (nI (g.L + 20)) g.fa g.fp mup mlo mln mat mtk mso mto mwr mwp mop mfs mws mst mnc mnk mnr mdn mgu mgl)) := ((Fr.refl _ _).up (by decide)).up (by decide)
    exact ⟨J.gen0 F ⟨_, _, _, _, _, _, _, _, _, _, _, _, _, _, _, _, _, _, _, (H_md.n (by decide)).s⟩ ⟨_, H_mt.s.n (by decide), tape4_m (tape4_m (tape4_m (tape4_m (tape4_m hmt))))⟩ (by decide), _, F, by decide⟩
/-- a text, read -/
abbrev RdT (g : Gh) : Nat × Nat × PS := qr g.tb g.L (run isB g.tb g.L 0) (4, [], 0, fun _ => 0, fun _ => [], -1, -1)
def txG (g : Gh) : Gh := (Cn.mk g.c.N g.c.n (g.c.tcn + 1) g.c.nl g.c.ns g.c.cst g.c.S0 g.c.co g.c.an, g.k, Da.mk g.d.ca g.d.ki g.d.ag g.d.pr g.d.le g.d.lf g.d.lt g.d.lo g.d.hi (va_up g.d.tx g.c.tcn ((RdT g).2.2.2.2.1, (RdT g).2.2.2.2.2.1, (RdT g).2.2.2.2.2.2.1, (RdT g).2.2.2.2.2.2.2.1, (RdT g).2.2.2.2.2.2.2.2)), 0, g.tb, 0, -1)
def tyG (g : Gh) : Gh := (g.c, g.k, g.d, 0, g.tb, nI (RdT g).1, nI (RdT g).2.1)
theorem txG_eq {g : Gh} {x : Cn} (h : x.tcn ≤ g.c.tcn) : DaEq x g.d (txG g).d :=
  ⟨fun _ _ _ _ => rfl, fun _ _ => ⟨rfl, rfl, rfl, rfl⟩, fun _ _ => ⟨rfl, rfl⟩, fun _ _ => ⟨rfl, rfl⟩, fun t ht => va_up_ne _ _ (by omega)⟩
theorem two_text {h : AH} {g : Gh} {drn : Nat} (I : InvC h g drn) (G : GhOK g) : Two h g drn M_X10_text M_X11_text [] := by
  have K := G.c
  have hL := G.L
  have htc := K.htc
  obtain ⟨txs, H_txs, htx⟩ := I.rw
  obtain ⟨tp, H_tape, htp⟩ := I.tp
  by_cases hc : g.c.tcn < 6
  · have C := s_X10_text (kd0 := fun _ => 0) (cd0 := fun _ => []) I.mc H_txs htx H_tape (fun k hk => ⟨htp k hk, G.tb k hk⟩) hL I.rd (I.tt.1 _ hc) hc
    have M : ∀ h' : AH, InvM h' g → ∃ a : Nat → Int32, Hs h' 67 (aI 380 a) ∧ Am a g.c g.d ∧ Sp M_X11_text (0, 0) h' [.ref 66] (fun v h'' => rI (fun x h'' => TxtM h' h'' g.c.tcn a x (RdT g) ∧ Fr [66, 67, 70, 71, 72, 73, 74, 75, 76, 77, 78, 79, 80, 81, 82, 83, 84] h' h'') v h'' ∧ Sh h' h'') := fun h' J => by
      obtain ⟨mup, mlo, mln, mat, mtk, mso, mto, mwr, mwp, mop, mfs, mws, mst, mnc, mnk, mnr, mdn, mgu, mgl, H_md⟩ := J.md
      obtain ⟨a, H_a, A⟩ := J.a
      obtain ⟨mt, H_mt, hmt⟩ := J.tp
      exact ⟨a, H_a, A, (s_X11_text (kd0 := fun _ => 0) (cd0 := fun _ => []) H_md H_a A.a2 hc H_mt (fun k hk => ⟨hmt k hk, G.tb k hk⟩) hL J.mk).sh⟩
    have O : ∀ lo hi, (lo ≤ hi ∧ (hi < 22 ∨ (24 ≤ lo ∧ hi < 42))) → 0 < lo → Out [0, 22, 23, 42 + 4 * g.c.tcn, 43 + 4 * g.c.tcn, 44 + 4 * g.c.tcn, 45 + 4 * g.c.tcn] lo hi := fun lo hi z z2 x hx => by
      simp only [List.mem_cons, List.not_mem_nil, or_false] at hx
      omega
    have Ot : ∀ t, t ≠ g.c.tcn → Out [0, 22, 23, 42 + 4 * g.c.tcn, 43 + 4 * g.c.tcn, 44 + 4 * g.c.tcn, 45 + 4 * g.c.tcn] (42 + 4 * t) (45 + 4 * t) := fun t z x hx => by
      simp only [List.mem_cons, List.not_mem_nil, or_false] at hx
      omega
    have O9 : Out [0, 22, 23, 42 + 4 * g.c.tcn, 43 + 4 * g.c.tcn, 44 + 4 * g.c.tcn, 45 + 4 * g.c.tcn] 66 92 := fun x hx => by
      simp only [List.mem_cons, List.not_mem_nil, or_false] at hx
      omega
    have O92 : ∀ x, x ∈ [0, 22, 23, 42 + 4 * g.c.tcn, 43 + 4 * g.c.tcn, 44 + 4 * g.c.tcn, 45 + 4 * g.c.tcn] → x ≤ 92 := fun x hx => by
      simp only [List.mem_cons, List.not_mem_nil, or_false] at hx
      omega
    have tl : ∀ h' : AH, Fr [0, 22, 23, 42 + 4 * g.c.tcn, 43 + 4 * g.c.tcn, 44 + 4 * g.c.tcn, 45 + 4 * g.c.tcn] h h' → TxB h' g.c.tcn → ∀ t, t < 6 → TxB h' t := fun h' F B t ht => by
      by_cases e : t = g.c.tcn
      · rw [e]; exact B
      · exact (I.tt.1 t ht).o F.z ht (Ot t e)
    by_cases hR : (RdT g).1 = 0
    · refine Two.mk9 (g' := txG g) (nI g.c.tcn) I.drn (C.end ?_) (fun h' J => ?_)
      · rintro v h' ⟨x, e0, T, rd, F⟩
        rcases T with ⟨-, ex, H0, W, a9, gi, hp⟩ | ⟨z, -⟩
        · have D := I.de.o F (O 27 30 (by decide) (by decide)) O92
          obtain ⟨dt, L0, hD, hLL, hm⟩ := D
          refine ⟨x, e0, ex, ⟨⟨Nat.lt_of_lt_of_le I.sz F.2.1, H0, I.ch.o F.z (O _ _ (by decide) (by decide)), I.th.o F.z (O _ _ (by decide) (by decide)), I.lk.o F.z (O _ _ (by decide) (by decide)), I.ld.o F.z (O _ _ (by decide) (by decide)), I.rw.o F.z (O _ _ (by decide) (by decide)), I.tp.o F.z (O _ _ (by decide) (by decide)), ⟨tl h' F W.b, fun t ht => ?_⟩, rd, JuC.o I.ju F.z (O _ _ (by decide) (by decide)), ⟨dt, L0, hD, hLL.imp id ?_, hm⟩, I.ta.o F.z (O _ _ (by decide) (by decide)), I.tb.o F.z (O _ _ (by decide) (by decide)), I.fa.o F.z (O _ _ (by decide) (by decide)), I.im.o F.z (O _ _ (by decide) (by decide))⟩, KeepM.r F O9⟩, ?_⟩
          · have ht : t < g.c.tcn + 1 := ht
            show TxW h' t (va_up g.d.tx g.c.tcn _ t).1 (va_up g.d.tx g.c.tcn _ t).2.1 (va_up g.d.tx g.c.tcn _ t).2.2.1 (va_up g.d.tx g.c.tcn _ t).2.2.2.1 (va_up g.d.tx g.c.tcn _ t).2.2.2.2
            by_cases e : t = g.c.tcn
            · subst e
              rw [va_up_self]; exact W
            · rw [va_up_ne _ _ e]
              exact (I.tt.2 t (by omega)).o F.z (by omega) (Ot t e)
          · rintro ⟨tp', h1, h2, h3⟩
            refine ⟨tp', Nat.lt_succ_of_lt h1, h2, ?_⟩
            show L0 = dlT g.d.ca g.c.N (va_up g.d.tx g.c.tcn _ tp')
            rw [va_up_ne _ _ (by omega)]; exact h3
          · refine ⟨⟨K.hN, K.hn, by show g.c.tcn + 1 ≤ 6; omega, K.hnl, K.hns, K.hcst, K.hS0, K.hco, K.hca, K.hth, K.hV, K.hZ, K.hlk, K.hld, fun t ht => ?_⟩, G.k.cong (txG_eq G.le.2.2.1), ⟨G.le.1, G.le.2.1, Nat.le_succ_of_le G.le.2.2.1, G.le.2.2.2⟩, Nat.zero_le _, G.tb⟩
            have ht : t < g.c.tcn + 1 := ht
            show okT (va_up g.d.tx g.c.tcn _ t).1 (va_up g.d.tx g.c.tcn _ t).2.1 (va_up g.d.tx g.c.tcn _ t).2.2.1 ∧ ∀ i, i < (va_up g.d.tx g.c.tcn _ t).1 → ∀ j, j < (va_up g.d.tx g.c.tcn _ t).1 → (va_up g.d.tx g.c.tcn _ t).2.1 i = 16 → (va_up g.d.tx g.c.tcn _ t).2.1 j = 16 → i = j
            by_cases e : t = g.c.tcn
            · subst e
              rw [va_up_self]
              refine ⟨fun i hi => (gi.2.2.2.2.2.2.2.1 i hi).resolve_left (fun z => ?_), fun i hi j hj e1 e2 => gi.2.2.2.1 i hi j hj (e1.trans e2.symm) (by rw [show (RdT g).2.2.2.2.2.1 i = 16 from e1]; decide)⟩
              have := z.2
              omega
            · rw [va_up_ne _ _ e]
              exact K.htx t (by omega)
        · exact absurd hR z
      · obtain ⟨a, H_a, A, MM⟩ := M h' J
        refine MM.end ?_
        rintro v h'' ⟨⟨x, e0, ⟨T, hoth⟩, F⟩, S⟩
        rcases T with ⟨-, ex, md, ha, hk, -⟩ | ⟨z, -⟩
        · have lo : ∀ j, j ≠ 2 → va_up a 2 (nI (g.c.tcn + 1)) j = a j := fun j hj => va_up_ne _ _ hj
          refine ⟨x, e0, ex, ⟨md, ⟨_, ha, ⟨(lo _ (by decide)).trans A.a0, (lo _ (by decide)).trans A.a1, va_up_self _ _ _, (lo _ (by decide)).trans A.a3, (lo _ (by decide)).trans A.a4, (lo _ (by decide)).trans A.a5, fun u k hu hk => (lo _ (by omega)).trans (A.ca u k hu hk), fun u hu => (lo _ (by omega)).trans (A.co u hu), fun u hu => (lo _ (by omega)).trans (A.ha u hu), fun t ht => ⟨(lo _ (by omega)).trans (A.th t ht).1, (lo _ (by omega)).trans (A.th t ht).2.1, (lo _ (by omega)).trans (A.th t ht).2.2.1, (lo _ (by omega)).trans (A.th t ht).2.2.2⟩, fun t ht u hu => (lo _ (by omega)).trans (A.an t ht u hu), fun i hi => ⟨(lo _ (by omega)).trans (A.lk i hi).1, (lo _ (by omega)).trans (A.lk i hi).2⟩, fun j hj => ⟨(lo _ (by omega)).trans (A.ld j hj).1, (lo _ (by omega)).trans (A.ld j hj).2⟩⟩⟩, ?_, ?_, fun t ht => ?_, J.mk.sh S, J.mr.fr F (by decide), J.dl.elim fun q z => ⟨q, F.hs z (by decide)⟩, J.fs.elim fun q z => ⟨q, F.hs z (by decide)⟩, J.r1.elim fun q z => ⟨q, F.hs z (by decide)⟩, J.r2.elim fun q z => ⟨q, F.hs z (by decide)⟩⟩, _, F, by decide⟩
          · obtain ⟨im, i1, i2⟩ := J.im
            exact ⟨im, F.hs i1 (by decide), i2.cong (txG_eq G.le.2.2.1)⟩
          · obtain ⟨mt, i1, i2⟩ := J.tp
            exact ⟨mt, F.hs i1 (by decide), i2⟩
          · have ht : t < g.c.tcn + 1 := ht
            show TxK h'' t (va_up g.d.tx g.c.tcn _ t).1 (va_up g.d.tx g.c.tcn _ t).2.1 (va_up g.d.tx g.c.tcn _ t).2.2.1 (va_up g.d.tx g.c.tcn _ t).2.2.2.1 (va_up g.d.tx g.c.tcn _ t).2.2.2.2
            by_cases e : t = g.c.tcn
            · subst e
              rw [va_up_self]; exact hk
            · rw [va_up_ne _ _ e]
              exact hoth t _ _ _ _ _ e (J.tx t (by omega))
        · exact absurd hR z
    · refine Two.mk9 (g' := tyG g) (-1) I.drn (C.end ?_) (fun h' J => ?_)
      · rintro v h' ⟨x, e0, T, rd, F⟩
        rcases T with ⟨z, -⟩ | ⟨-, ex, H0, B⟩
        · exact absurd z hR
        · exact ⟨x, e0, ex, ⟨⟨Nat.lt_of_lt_of_le I.sz F.2.1, H0, I.ch.o F.z (O _ _ (by decide) (by decide)), I.th.o F.z (O _ _ (by decide) (by decide)), I.lk.o F.z (O _ _ (by decide) (by decide)), I.ld.o F.z (O _ _ (by decide) (by decide)), I.rw.o F.z (O _ _ (by decide) (by decide)), I.tp.o F.z (O _ _ (by decide) (by decide)), ⟨tl h' F B, fun t ht => (I.tt.2 t ht).o F.z (Nat.lt_of_lt_of_le (show t < g.c.tcn from ht) htc) (Ot t (Nat.ne_of_lt ht))⟩, rd, JuC.o I.ju F.z (O _ _ (by decide) (by decide)), I.de.o F (O 27 30 (by decide) (by decide)) O92, I.ta.o F.z (O _ _ (by decide) (by decide)), I.tb.o F.z (O _ _ (by decide) (by decide)), I.fa.o F.z (O _ _ (by decide) (by decide)), I.im.o F.z (O _ _ (by decide) (by decide))⟩, KeepM.r F O9⟩, ⟨G.c, G.k, G.le, Nat.zero_le _, G.tb⟩⟩
      · obtain ⟨a, H_a, A, MM⟩ := M h' J
        refine MM.end ?_
        rintro v h'' ⟨⟨x, e0, ⟨T, hoth⟩, F⟩, S⟩
        rcases T with ⟨z, -⟩ | ⟨-, ex, md, ha⟩
        · exact absurd z hR
        · refine ⟨x, e0, ex, ⟨md, ⟨_, ha, A⟩, ?_, ?_, fun t ht => hoth t _ _ _ _ _ (Nat.ne_of_lt ht) (J.tx t ht), J.mk.sh S, J.mr.fr F (by decide), J.dl.elim fun q z => ⟨q, F.hs z (by decide)⟩, J.fs.elim fun q z => ⟨q, F.hs z (by decide)⟩, J.r1.elim fun q z => ⟨q, F.hs z (by decide)⟩, J.r2.elim fun q z => ⟨q, F.hs z (by decide)⟩⟩, _, F, by decide⟩
          · obtain ⟨im, i1, i2⟩ := J.im
            exact ⟨im, F.hs i1 (by decide), i2⟩
          · obtain ⟨mt, i1, i2⟩ := J.tp
            exact ⟨mt, F.hs i1 (by decide), i2⟩
  · have e6 : g.c.tcn = 6 := by omega
    refine Two.same I G (-1) (s_X10_text_bad I.mc (by rw [e6]; decide)) (fun h' J => ?_)
    obtain ⟨mup, mlo, mln, mat, mtk, mso, mto, mwr, mwp, mop, mfs, mws, mst, mnc, mnk, mnr, mdn, mgu, mgl, H_md⟩ := J.md
    obtain ⟨a, H_a, A⟩ := J.a
    exact s_X11_text_bad H_md H_a (by rw [A.a2, e6]; decide)
