/-! THE MODEL lays the DEALS -/
theorem okC_ty {k : Nat} {c : List Nat} (h : okC k c) (hk : 17 ≤ k) : tyS c [] = some [true] := by
  have := h.2.2.2 (by omega)
  rwa [show decide (k ≠ 16) = true from decide_eq_true (by omega)] at this
theorem bs_T {P : Nat → Bool} {j : Nat} {x : Int32} (hj : j ≤ 14) (hx : x = nI (bs P j)) (h : P j = true) : x ||| ((1 : Int32) <<< (nI j &&& 31)) = nI (bs P (j + 1)) := by rw [hx, bs, if_pos h, pw14 j hj, nI_or]
theorem bs_F {P : Nat → Bool} {j : Nat} {x : Int32} (hx : x = nI (bs P j)) (h : P j = false) : x = nI (bs P (j + 1)) := by rw [hx, bs, if_neg (by rw [h]; decide), Nat.or_zero]
/-- the model's rows that a laying uses -/
def MdR (h : AH) : Prop := ((∃ nms : Nat → Int32, Hs h 85 (aI 11 nms)) ∧ ∃ pi : Nat → Int64, Hs h 86 (aJ 200 pi)) ∧ (∃ wi : Nat → Int32, Hs h 88 (aI 14 wi)) ∧ ∃ wo : Nat → Int32, Hs h 89 (aI 14 wo)
theorem MdR.fr {S : List Nat} {h h' : AH} (T : MdR h) (F : Fr S h h') (hS : 85 ∉ S ∧ 86 ∉ S ∧ 88 ∉ S ∧ 89 ∉ S) : MdR h' := by
  obtain ⟨⟨⟨a, h1⟩, b, h2⟩, ⟨c, h3⟩, d, h4⟩ := T
  exact ⟨⟨⟨a, F.hs h1 hS.1⟩, b, F.hs h2 hS.2.1⟩, ⟨c, F.hs h3 hS.2.2.1⟩, d, F.hs h4 hS.2.2.2⟩
theorem s_X11_laysDeals {h : AH} {tp nc : Nat} {kd : Nat → Nat} {cd : Nat → List Nat} {many near : Int32} {mtp mfl mfa mln mat mtk mso mto mwr mwp mop mfs mws mst mnc mnk mnr mdn : Int32} {mup mlo mgu mgl : Int64} {N : Nat} {ca : Nat → Nat → Nat} {a : Nat → Int32} {nms wi0 wo0 dl0 : Nat → Int32} {pi0 : Nat → Int64} (H_md : Hs h 66 (oMd mtp mfl mfa mup mlo mln mat mtk mso mto mwr mwp mop mfs mws mst mnc mnk mnr mdn mgu mgl)) (H_a : Hs h 67 (aI 380 a)) (ha0 : a 0 = nI N) (hN : N ≤ 14) (hca : ∀ c k, c < N → k < 4 → ca c k ≤ 99) (hca4 : ∀ c k, c < N → k < 4 → a (10 + 5 * c + k) = nI (ca c k)) (hT0 : TxM h tp nc kd cd many near) (hok : okT nc kd cd) (H_mnm : Hs h 85 (aI 11 nms)) (H_mpi : Hs h 86 (aJ 200 pi0)) (H_mwi : Hs h 88 (aI 14 wi0)) (H_mwo : Hs h 89 (aI 14 wo0)) (H_mdl : Hs h 87 (aI 16384 dl0)) : Sp M_X11_laysDeals (0, 0) h [.ref 66, .int (nI tp)] (rV (fun h' => Hs h' 66 (oMd mtp mfl mfa mup mlo mln mat mtk mso mto mwr mwp mop mfs mws mst mnc mnk mnr (nI (DLs ca N nc kd cd many near).length) mgu mgl) ∧ (∃ dl : Nat → Int32, Hs h' 87 (aI 16384 dl) ∧ RwL dl (DLs ca N nc kd cd many near)) ∧ MdR h' ∧ Fr [66, 85, 86, 87, 88, 89] h h')) := by
  refine ⟨Nat.le_of_ble_eq_true rfl, ?_⟩
  show E _ _ _ 0 h [some (.ref 66), some (.int (nI tp)), none, none, none, none, none, none] []
  have G_md := H_md
  have G_a := H_a
  have G_mdl := H_mdl
  have hT := hT0
  have hp := pw_31 N hN
  have hpp := Nat.two_pow_pos N
  refine e_aloadn d_X11_laysDeals_0 rfl ?_
  refine e_get d_X11_laysDeals_1 f_X11_7 H_md rfl ?_
  refine e_iconst (v := 0) d_X11_laysDeals_4 (by decide) ?_
  refine e_ialdN (k := 0) d_X11_laysDeals_5 H_a rfl (by omega) (by omega) ?_
  rw [ha0]
  refine e_istoren d_X11_laysDeals_6 (by decide) rfl ?_
  refine e_iconst (v := 0) d_X11_laysDeals_7 (by decide) ?_
  refine e_istoren d_X11_laysDeals_8 (by decide) rfl ?_
  refine e_iconst (v := 0) d_X11_laysDeals_9 (by decide) ?_
  refine e_istore d_X11_laysDeals_10 (by decide) rfl ?_
  refine e_iconst (v := 0) d_X11_laysDeals_12 (by decide) ?_
  refine e_istore d_X11_laysDeals_13 (by decide) rfl ?_
  have hA_15 : ∀ i, i ≤ N → ∀ (k : AH) (F : Unit) (J : Unit) (p : Unit) (W : Unit) (v : Int32) (w : Int32) (y : Int32), (Fr [85, 86, 88, 89] h k) → (∃ nms : Nat → Int32, Hs k 85 (aI 11 nms)) → (∃ pi : Nat → Int64, Hs k 86 (aJ 200 pi)) → (∃ wi wo : Nat → Int32, Hs k 88 (aI 14 wi) ∧ Hs k 89 (aI 14 wo) ∧ (∀ c, c < i → wi c = nI (bs (wN ca nc kd cd 17 c) N) ∧ wo c = nI (bs (wN ca nc kd cd 18 c) N))) → (v = nI (bs (fun c => isS (nm1 ca c) nc kd cd 19) i)) → (w = nI (wS ca 16383 i)) → (y = nI i) → E M_X11_laysDeals (0, 0) (rV (fun h' => Hs h' 66 (oMd mtp mfl mfa mup mlo mln mat mtk mso mto mwr mwp mop mfs mws mst mnc mnk mnr (nI (DLs ca N nc kd cd many near).length) mgu mgl) ∧ (∃ dl : Nat → Int32, Hs h' 87 (aI 16384 dl) ∧ RwL dl (DLs ca N nc kd cd many near)) ∧ MdR h' ∧ Fr [66, 85, 86, 87, 88, 89] h h')) 15 (k) [some (.ref 66), some (.int (nI tp)), some (.int (nI N)), some (.int v), some (.int w), some (.int y), none, none] [] := by
    refine loop_ind (n := N) ?_
    intro i hi_i ih_15 k F J p W v w y h_F h_J h_p h_W h_v h_w h_y
    subst h_y
    subst h_v
    subst h_w
    have H_md := h_F.hs G_md (by decide)
    have H_a := h_F.hs G_a (by decide)
    have H_mdl := h_F.hs G_mdl (by decide)
    have hT := hT0.fr h_F (by decide)
    obtain ⟨nms, H_mnm⟩ := id h_J
    obtain ⟨pi, H_mpi⟩ := id h_p
    obtain ⟨wi, wo, H_mwi, H_mwo, hwa⟩ := id h_W
    refine e_iload d_X11_laysDeals_15 rfl ?_
    refine e_iloadn d_X11_laysDeals_17 rfl ?_
    refine e_icmp_ge d_X11_laysDeals_18 (fun c => ?_) (fun c => ?_)
    · have c := i_le (by omega) (by omega) c
      obtain rfl : N = i := by omega
      refine e_aloadn d_X11_laysDeals_183 rfl ?_
      refine e_iloadn d_X11_laysDeals_184 rfl ?_
      refine e_iconst (v := 0) d_X11_laysDeals_185 (by decide) ?_
      refine e_callVI d_X11_laysDeals_186 l_X11_laysDeals_340 H_md rfl rfl (s_X11_numberOf_many H_md hT) rfl rfl (Nat.le_of_ble_eq_true rfl) ?_
      refine e_istore d_X11_laysDeals_189 (by decide) rfl ?_
      refine e_aloadn d_X11_laysDeals_191 rfl ?_
      refine e_iloadn d_X11_laysDeals_192 rfl ?_
      refine e_iconst (v := 1) d_X11_laysDeals_193 (by decide) ?_
      refine e_callVI d_X11_laysDeals_194 l_X11_laysDeals_340 H_md rfl rfl (s_X11_numberOf_near H_md hT) rfl rfl (Nat.le_of_ble_eq_true rfl) ?_
      refine e_istore d_X11_laysDeals_197 (by decide) rfl ?_
      refine e_aloadn d_X11_laysDeals_199 rfl ?_
      refine e_iconst (v := 0) d_X11_laysDeals_200 (by decide) ?_
      refine e_puti d_X11_laysDeals_201 f_X11_343 H_md (Nat.le_of_ble_eq_true rfl) ?_
      refine e_iconst (v := 0) d_X11_laysDeals_204 (by decide) ?_
      refine e_istore d_X11_laysDeals_205 (by decide) rfl ?_
      have hA_207 : ∀ q, q ≤ (2 ^ N) → ∀ (m : AH) (G : Unit) (D : Unit) (R : Unit) (V : Unit) (P : Unit) (z : Int32), (Fr [66, 85, 86, 87, 88, 89] h m) → (Hs m 66 (oMd mtp mfl mfa mup mlo mln mat mtk mso mto mwr mwp mop mfs mws mst mnc mnk mnr (nI (DL (fitB ca N nc kd cd many near) (ovN ca N nc kd cd) q).length) mgu mgl)) → (∃ dl : Nat → Int32, Hs m 87 (aI 16384 dl) ∧ RwL dl (DL (fitB ca N nc kd cd many near) (ovN ca N nc kd cd) q)) → (Hs m 88 (aI 14 wi) ∧ Hs m 89 (aI 14 wo)) → ((∃ nms : Nat → Int32, Hs m 85 (aI 11 nms)) ∧ ∃ pi : Nat → Int64, Hs m 86 (aJ 200 pi)) → (z = nI q) → E M_X11_laysDeals (0, 0) (rV (fun h' => Hs h' 66 (oMd mtp mfl mfa mup mlo mln mat mtk mso mto mwr mwp mop mfs mws mst mnc mnk mnr (nI (DLs ca N nc kd cd many near).length) mgu mgl) ∧ (∃ dl : Nat → Int32, Hs h' 87 (aI 16384 dl) ∧ RwL dl (DLs ca N nc kd cd many near)) ∧ MdR h' ∧ Fr [66, 85, 86, 87, 88, 89] h h')) 207 (m) [some (.ref 66), some (.int (nI tp)), some (.int (nI N)), some (.int (nI (bs (fun c => isS (nm1 ca c) nc kd cd 19) N))), some (.int (nI (wS ca 16383 N))), some (.int many), some (.int near), some (.int z)] [] := by
        refine loop_ind (n := (2 ^ N)) ?_
        intro q hi_q ih_207 m G D R V P z h_G h_D h_R h_V h_P h_z
        subst h_z
        have H_md := h_D
        have H_a := h_G.hs G_a (by decide)
        obtain ⟨dl, H_mdl, h_R9⟩ := id h_R
        obtain ⟨H_mwi, H_mwo⟩ := id h_V
        have hlen := DL_len (fit := fitB ca N nc kd cd many near) (over := ovN ca N nc kd cd) q
        refine e_iload d_X11_laysDeals_207 rfl ?_
        refine e_iconst (v := 1) d_X11_laysDeals_209 (by decide) ?_
        refine e_iloadn d_X11_laysDeals_210 rfl ?_
        refine e_ishl d_X11_laysDeals_211 ?_
        rw [pw14 N hN]
        refine e_icmp_ge d_X11_laysDeals_212 (fun c => ?_) (fun c => ?_)
        · have c := i_le (by omega) (by omega) c
          have eq9 : q = 2 ^ N := by omega
          subst eq9
          exact e_vret d_X11_laysDeals_261 rfl (⟨rfl, h_D, h_R, ⟨h_P, ⟨wi, H_mwi⟩, ⟨wo, H_mwo⟩⟩, h_G⟩)
        · have c := i_nle (by omega) (by omega) c
          refine e_aloadn d_X11_laysDeals_215 rfl ?_
          refine e_iload d_X11_laysDeals_216 rfl ?_
          refine e_iload d_X11_laysDeals_218 rfl ?_
          refine e_iload d_X11_laysDeals_220 rfl ?_
          refine e_iload d_X11_laysDeals_222 rfl ?_
          refine e_callVI d_X11_laysDeals_224 l_X11_laysDeals_346 H_md rfl rfl (s_X11_isDeal H_md H_a ha0 hN hca hca4 H_mwi H_mwo (by omega) hwa) rfl rfl (Nat.le_of_ble_eq_true rfl) ?_
          refine e_if_eq d_X11_laysDeals_227 (fun c_227 => ?_) (fun c_227 => ?_)
          · have hf : fitB ca N nc kd cd many near q = false := Bool.eq_false_iff.mpr (bI_0.mp c_227)
            refine e_iincw (w := 1) d_X11_laysDeals_255 rfl (by decide) (by decide) rfl ?_
            refine e_gt d_X11_laysDeals_258 ?_
            refine ih_207 (q + 1) (by omega) (by omega) _ () () () () () _ ?_ ?_ ?_ ?_ ?_ ?_
            · first
              | exact h_G
              | exact (h_G.up (by decide)).up (by decide)
            · first
              | (rw [DL_f hf]; exact h_D)
              | (rw [DL_t hf, List.length_append, List.length_singleton, ← nI_1]; exact Hs.s (Hs.n H_md (by decide)))
            · first
              | (rw [DL_f hf]; exact ⟨dl, H_mdl, h_R9⟩)
              | (rw [DL_t hf]; exact ⟨_, Hs.n (Hs.s H_mdl) (by decide), h_R9.push rfl⟩)
            · first
              | exact h_V
              | exact ⟨(H_mwi.n (by decide)).n (by decide), (H_mwo.n (by decide)).n (by decide)⟩
            · first
              | exact h_P
              | exact ⟨h_P.1.elim fun n z => ⟨n, (z.n (by decide)).n (by decide)⟩, h_P.2.elim fun n z => ⟨n, (z.n (by decide)).n (by decide)⟩⟩
            · exact nI_1 q
          · have hf : fitB ca N nc kd cd many near q = true := bI_1.mp (bI_z.resolve_left c_227)
            refine e_aloadn d_X11_laysDeals_230 rfl ?_
            refine e_get d_X11_laysDeals_231 f_X11_79 H_md rfl ?_
            refine e_aloadn d_X11_laysDeals_234 rfl ?_
            refine e_get d_X11_laysDeals_235 f_X11_343 H_md rfl ?_
            refine e_iload d_X11_laysDeals_238 rfl ?_
            refine e_iloadn d_X11_laysDeals_240 rfl ?_
            refine e_iconst (v := -1) d_X11_laysDeals_241 (by decide) ?_
            refine e_ixor d_X11_laysDeals_242 ?_
            refine e_iand d_X11_laysDeals_243 ?_
            rw [nI_sdx]
            refine e_iastN (k := (DL (fitB ca N nc kd cd many near) (ovN ca N nc kd cd) q).length) d_X11_laysDeals_244 H_mdl rfl (by omega) (by omega) ?_
            refine e_aloadn d_X11_laysDeals_245 rfl ?_
            refine e_dup d_X11_laysDeals_246 rfl ?_
            refine e_get d_X11_laysDeals_247 f_X11_343 (H_md.n (by decide)) rfl ?_
            refine e_iconst (v := 1) d_X11_laysDeals_250 (by decide) ?_
            refine e_iadd d_X11_laysDeals_251 ?_
            refine e_puti d_X11_laysDeals_252 f_X11_343 (H_md.n (by decide)) (Nat.le_of_ble_eq_true rfl) ?_
            refine e_iincw (w := 1) d_X11_laysDeals_255 rfl (by decide) (by decide) rfl ?_
            refine e_gt d_X11_laysDeals_258 ?_
            refine ih_207 (q + 1) (by omega) (by omega) _ () () () () () _ ?_ ?_ ?_ ?_ ?_ ?_
            · first
              | exact h_G
              | exact (h_G.up (by decide)).up (by decide)
            · first
              | (rw [DL_f hf]; exact h_D)
              | (rw [DL_t hf, List.length_append, List.length_singleton, ← nI_1]; exact Hs.s (Hs.n H_md (by decide)))
            · first
              | (rw [DL_f hf]; exact ⟨dl, H_mdl, h_R9⟩)
              | (rw [DL_t hf]; exact ⟨_, Hs.n (Hs.s H_mdl) (by decide), h_R9.push rfl⟩)
            · first
              | exact h_V
              | exact ⟨(H_mwi.n (by decide)).n (by decide), (H_mwo.n (by decide)).n (by decide)⟩
            · first
              | exact h_P
              | exact ⟨h_P.1.elim fun n z => ⟨n, (z.n (by decide)).n (by decide)⟩, h_P.2.elim fun n z => ⟨n, (z.n (by decide)).n (by decide)⟩⟩
            · exact nI_1 q
      exact hA_207 0 (by omega) _ () () () () () _ ((h_F.mono (by decide)).up (by decide)) (H_md.s) (⟨_, H_mdl.n (by decide), fun j v hj => by simp [DL] at hj⟩) (⟨H_mwi.n (by decide), H_mwo.n (by decide)⟩) (⟨⟨nms, H_mnm.n (by decide)⟩, ⟨pi, H_mpi.n (by decide)⟩⟩) (rfl)
    · have c := i_nle (by omega) (by omega) c
      refine e_aloadn d_X11_laysDeals_21 rfl ?_
      refine e_get d_X11_laysDeals_22 f_X11_82 H_md rfl ?_
      refine e_iload d_X11_laysDeals_25 rfl ?_
      refine e_iconst (v := 0) d_X11_laysDeals_27 (by decide) ?_
      refine e_iastN (k := i) d_X11_laysDeals_28 H_mwi rfl (by omega) (by omega) ?_
      refine e_aloadn d_X11_laysDeals_29 rfl ?_
      refine e_get d_X11_laysDeals_30 f_X11_85 (H_md.n (by decide)) rfl ?_
      refine e_iload d_X11_laysDeals_33 rfl ?_
      refine e_iconst (v := 0) d_X11_laysDeals_35 (by decide) ?_
      refine e_iastN (k := i) d_X11_laysDeals_36 (H_mwo.n (by decide)) rfl (by omega) (by omega) ?_
      refine e_aloadn d_X11_laysDeals_37 rfl ?_
      refine e_iconst (v := 0) d_X11_laysDeals_38 (by decide) ?_
      refine e_iload d_X11_laysDeals_39 rfl ?_
      have fa := ((Fr.refl [88, 89] k).up (k := 88) (c := aI 14 (va_up wi i 0)) (by decide)).up (k := 89) (c := aI 14 (va_up wo i 0)) (by decide)
      refine e_callRVV d_X11_laysDeals_41 l_X11_laysDeals_333 ((H_md.n (by decide)).n (by decide)) rfl rfl (s_X11_names (o := 0) (C := i) ((H_md.n (by decide)).n (by decide)) ((H_a.n (by decide)).n (by decide)) ha0 hN hca hca4 ((H_mnm.n (by decide)).n (by decide)) (by omega) (by decide)) rfl rfl (Nat.le_of_ble_eq_true rfl) (fun h_41 q_41 s_41 => ?_)
      obtain ⟨nms1, H_mnm, hn_41, -, fr_41⟩ := q_41
      have H_md := fr_41.hs ((H_md.n (by decide)).n (by decide)) (by first | decide | (simp; omega))
      have H_a := fr_41.hs ((H_a.n (by decide)).n (by decide)) (by first | decide | (simp; omega))
      have H_mpi := fr_41.hs ((H_mpi.n (by decide)).n (by decide)) (by first | decide | (simp; omega))
      have H_mwi := fr_41.hs (H_mwi.s.n (by decide)) (by first | decide | (simp; omega))
      have H_mwo := fr_41.hs ((H_mwo.n (by decide)).s) (by first | decide | (simp; omega))
      have H_mdl := fr_41.hs ((H_mdl.n (by decide)).n (by decide)) (by first | decide | (simp; omega))
      have hn4 : ∀ t, t < 4 → nms1 t = nI (ca i t) := fun t ht => by have := hn_41 t ht; rwa [Nat.zero_add] at this
      have fr47 := (h_F.trans (fa.mono (by decide))).trans (fr_41.mono (by decide))
      have hT := hT0
      refine e_aloadn d_X11_laysDeals_44 rfl ?_
      refine e_iloadn d_X11_laysDeals_45 rfl ?_
      refine e_iconst (v := 5) d_X11_laysDeals_46 (by decide) ?_
      refine e_callRVI d_X11_laysDeals_47 l_X11_laysDeals_336 H_md rfl rfl (s_X11_isSome (kk := 19) (nm := nm1 ca i) H_md (hT.fr fr47 (by decide)) H_mnm H_mpi (by decide) (fun m hm hk => ⟨fun t ht ht2 => ⟨by have h4 := (hok m hm).2.1 hk t ht ht2; rw [hn4 t h4]; simp [nm1, h4]; rfl, by have h4 := (hok m hm).2.1 hk t ht ht2; have := hca i t c h4; simp only [nm1, if_pos h4]; omega⟩, okC_ty (hok m hm) (by omega)⟩)) rfl rfl (Nat.le_of_ble_eq_true rfl) (fun x_47 h_47 q_47 s_47 => ?_)
      obtain ⟨rfl, ⟨pi_47, H_mpi⟩, fq_47⟩ := q_47
      have H_md := fq_47.hs H_md (by first | decide | (simp; omega))
      have H_a := fq_47.hs H_a (by first | decide | (simp; omega))
      have H_mnm := fq_47.hs H_mnm (by first | decide | (simp; omega))
      have H_mwi := fq_47.hs H_mwi (by first | decide | (simp; omega))
      have H_mwo := fq_47.hs H_mwo (by first | decide | (simp; omega))
      have H_mdl := fq_47.hs H_mdl (by first | decide | (simp; omega))
      refine e_if_eq d_X11_laysDeals_50 (fun c_50 => ?_) (fun c_50 => ?_)
      · have ho : isS (nm1 ca i) nc kd cd 19 = false := Bool.eq_false_iff.mpr (bI_0.mp c_50)
        skip
        refine e_iloadn d_X11_laysDeals_62 rfl ?_
        refine e_istoren d_X11_laysDeals_63 (by decide) rfl ?_
        refine e_iload d_X11_laysDeals_64 rfl ?_
        refine e_aloadn d_X11_laysDeals_66 rfl ?_
        refine e_iload d_X11_laysDeals_67 rfl ?_
        refine e_iconst (v := 1) d_X11_laysDeals_69 (by decide) ?_
        refine e_callVI d_X11_laysDeals_70 l_X11_laysDeals_116 H_md rfl rfl (s_X11_childOf (c := i) (d := 1) H_md H_a rfl rfl (by omega)) rfl rfl (Nat.le_of_ble_eq_true rfl) ?_
        rw [hca4 i 1 c (by decide)]
        refine e_iadd d_X11_laysDeals_73 ?_
        refine e_istore d_X11_laysDeals_74 (by decide) rfl ?_
        refine e_iload d_X11_laysDeals_76 rfl ?_
        refine e_iconst (v := 1) d_X11_laysDeals_78 (by decide) ?_
        refine e_iadd d_X11_laysDeals_79 ?_
        refine e_istore d_X11_laysDeals_80 (by decide) rfl ?_
        have hA_82 : ∀ j, j ≤ N → ∀ (m : AH) (G : Unit) (K : Unit) (p2 : Unit) (V : Unit) (x : Unit) (z : Int32), (Fr [85, 86, 88, 89] h m) → (∃ nms : Nat → Int32, Hs m 85 (aI 11 nms) ∧ ∀ t, t < 4 → nms t = nI (ca i t)) → (∃ pi : Nat → Int64, Hs m 86 (aJ 200 pi)) → (∃ wi wo : Nat → Int32, Hs m 88 (aI 14 wi) ∧ Hs m 89 (aI 14 wo) ∧ (∀ c, c < i → wi c = nI (bs (wN ca nc kd cd 17 c) N) ∧ wo c = nI (bs (wN ca nc kd cd 18 c) N)) ∧ wi i = nI (bs (wN ca nc kd cd 17 i) j) ∧ wo i = nI (bs (wN ca nc kd cd 18 i) j)) → (i < j) → (z = nI j) → E M_X11_laysDeals (0, 0) (rV (fun h' => Hs h' 66 (oMd mtp mfl mfa mup mlo mln mat mtk mso mto mwr mwp mop mfs mws mst mnc mnk mnr (nI (DLs ca N nc kd cd many near).length) mgu mgl) ∧ (∃ dl : Nat → Int32, Hs h' 87 (aI 16384 dl) ∧ RwL dl (DLs ca N nc kd cd many near)) ∧ MdR h' ∧ Fr [66, 85, 86, 87, 88, 89] h h')) 82 (m) [some (.ref 66), some (.int (nI tp)), some (.int (nI N)), some (.int (nI (bs (fun c => isS (nm1 ca c) nc kd cd 19) i))), some (.int (nI (wS ca 16383 i) + nI (ca i 1))), some (.int (nI i)), some (.int z), none] [] := by
          refine loop_ind (n := N) ?_
          intro j hi_j ih_82 m G K p2 V x z h_G h_K h_p2 h_V h_x h_z
          subst h_z
          have H_md := h_G.hs G_md (by decide)
          have H_a := h_G.hs G_a (by decide)
          have H_mdl := h_G.hs G_mdl (by decide)
          have hT := hT0.fr h_G (by decide)
          obtain ⟨nms, H_mnm, hn0⟩ := id h_K
          obtain ⟨pi, H_mpi⟩ := id h_p2
          obtain ⟨wi, wo, H_mwi, H_mwo, hwa, hwi, hwo⟩ := id h_V
          refine e_iload d_X11_laysDeals_82 rfl ?_
          refine e_iloadn d_X11_laysDeals_84 rfl ?_
          refine e_icmp_ge d_X11_laysDeals_85 (fun c2 => ?_) (fun c2 => ?_)
          · have c2 := i_le (by omega) (by omega) c2
            obtain rfl : N = j := by omega
            refine e_iincw (w := 1) d_X11_laysDeals_177 rfl (by decide) (by decide) rfl ?_
            refine e_gt d_X11_laysDeals_180 ?_
            refine e_drop1 6 ?_
            refine ih_15 (i + 1) (by omega) (by omega) _ () () () () _ _ _ ?_ ?_ ?_ ?_ ?_ ?_ ?_
            · exact h_G
            · exact h_K.elim fun n q => ⟨n, q.1⟩
            · exact h_p2
            · obtain ⟨wi2, wo2, q1, q2, q3, q4, q5⟩ := h_V
              exact ⟨wi2, wo2, q1, q2, fun c9 hc9 => by
                by_cases e9 : c9 = i
                · subst e9; exact ⟨q4, q5⟩
                · exact q3 c9 (by omega)⟩
            · first | exact bs_T (P := fun c => isS (nm1 ca c) nc kd cd 19) (by omega) rfl ho | exact bs_F (P := fun c => isS (nm1 ca c) nc kd cd 19) rfl ho
            · rw [wS, bt_all i (by omega), if_pos rfl, nI_add]
            · exact nI_1 i
          · have c2 := i_nle (by omega) (by omega) c2
            refine e_aloadn d_X11_laysDeals_88 rfl ?_
            refine e_iconst (v := 4) d_X11_laysDeals_89 (by decide) ?_
            refine e_iload d_X11_laysDeals_90 rfl ?_
            refine e_callRVV d_X11_laysDeals_92 l_X11_laysDeals_333 H_md rfl rfl (s_X11_names (o := 4) (C := j) H_md H_a ha0 hN hca hca4 H_mnm (by omega) (by decide)) rfl rfl (Nat.le_of_ble_eq_true rfl) (fun h_92 q_92 s_92 => ?_)
            obtain ⟨nms3, H_mnm, hn_92, hm_92, fr_92⟩ := q_92
            have H_md := fr_92.hs H_md (by first | decide | (simp; omega))
            have H_a := fr_92.hs H_a (by first | decide | (simp; omega))
            have H_mpi := fr_92.hs H_mpi (by first | decide | (simp; omega))
            have H_mwi := fr_92.hs H_mwi (by first | decide | (simp; omega))
            have H_mwo := fr_92.hs H_mwo (by first | decide | (simp; omega))
            have H_mdl := fr_92.hs H_mdl (by first | decide | (simp; omega))
            have hN0 : ∀ t, t < 4 → nms3 t = nI (ca i t) := fun t ht => (hm_92 t (Or.inl ht)).trans (hn0 t ht)
            have fr104 := fr_92
            refine e_aloadn d_X11_laysDeals_95 rfl ?_
            refine e_get d_X11_laysDeals_96 f_X11_82 H_md rfl ?_
            refine e_iload d_X11_laysDeals_99 rfl ?_
            refine e_aloadn d_X11_laysDeals_101 rfl ?_
            refine e_iloadn d_X11_laysDeals_102 rfl ?_
            refine e_iconst (v := 3) d_X11_laysDeals_103 (by decide) ?_
            refine e_callRVI d_X11_laysDeals_104 l_X11_laysDeals_336 H_md rfl rfl (s_X11_isSome (kk := 17) (nm := nm2 ca i j) H_md (hT.fr fr104 (by decide)) H_mnm H_mpi (by decide) (fun m hm hk => ⟨fun t ht ht2 => (nm2_ok hca (by omega) c2 hN0 hn_92 ((hok m hm).1 (by omega) t ht ht2)), okC_ty (hok m hm) (by omega)⟩)) rfl rfl (Nat.le_of_ble_eq_true rfl) (fun x_104 h_104 q_104 s_104 => ?_)
            obtain ⟨rfl, ⟨pi_104, H_mpi⟩, fq_104⟩ := q_104
            have H_md := fq_104.hs H_md (by first | decide | (simp; omega))
            have H_a := fq_104.hs H_a (by first | decide | (simp; omega))
            have H_mnm := fq_104.hs H_mnm (by first | decide | (simp; omega))
            have H_mwi := fq_104.hs H_mwi (by first | decide | (simp; omega))
            have H_mwo := fq_104.hs H_mwo (by first | decide | (simp; omega))
            have H_mdl := fq_104.hs H_mdl (by first | decide | (simp; omega))
            refine e_if_eq d_X11_laysDeals_107 (fun c_107 => ?_) (fun c_107 => ?_)
            · have hb17 : isS (nm2 ca i j) nc kd cd 17 = false := Bool.eq_false_iff.mpr (bI_0.mp c_107)
              refine e_aloadn d_X11_laysDeals_125 rfl ?_
              refine e_get d_X11_laysDeals_126 f_X11_82 H_md rfl ?_
              refine e_iload d_X11_laysDeals_129 rfl ?_
              refine e_ialdN (k := i) d_X11_laysDeals_131 H_mwi rfl (by omega) (by omega) ?_
              refine e_iastN (k := i) d_X11_laysDeals_132 H_mwi rfl (by omega) (by omega) ?_
              refine e_aloadn d_X11_laysDeals_133 rfl ?_
              refine e_get d_X11_laysDeals_134 f_X11_85 (H_md.n (by decide)) rfl ?_
              refine e_iload d_X11_laysDeals_137 rfl ?_
              refine e_aloadn d_X11_laysDeals_139 rfl ?_
              refine e_iloadn d_X11_laysDeals_140 rfl ?_
              refine e_iconst (v := 4) d_X11_laysDeals_141 (by decide) ?_
              refine e_callRVI d_X11_laysDeals_142 l_X11_laysDeals_336 (H_md.n (by decide)) rfl rfl (s_X11_isSome (kk := 18) (nm := nm2 ca i j) (H_md.n (by decide)) (hT.fr (((fr_92.mono (T := [85, 86, 88]) (by decide)).trans (fq_104.mono (by decide))).up (k := 88) (by decide)) (by decide)) (H_mnm.n (by decide)) (H_mpi.n (by decide)) (by decide) (fun m hm hk => ⟨fun t ht ht2 => (nm2_ok hca (by omega) c2 hN0 hn_92 ((hok m hm).1 (by omega) t ht ht2)), okC_ty (hok m hm) (by omega)⟩)) rfl rfl (Nat.le_of_ble_eq_true rfl) (fun x_142 h_142 q_142 s_142 => ?_)
              obtain ⟨rfl, ⟨pi_142, H_mpi⟩, fq_142⟩ := q_142
              have H_md := fq_142.hs (H_md.n (by decide)) (by first | decide | (simp; omega))
              have H_a := fq_142.hs (H_a.n (by decide)) (by first | decide | (simp; omega))
              have H_mnm := fq_142.hs (H_mnm.n (by decide)) (by first | decide | (simp; omega))
              have H_mwi := fq_142.hs H_mwi.s (by first | decide | (simp; omega))
              have H_mwo := fq_142.hs (H_mwo.n (by decide)) (by first | decide | (simp; omega))
              have H_mdl := fq_142.hs (H_mdl.n (by decide)) (by first | decide | (simp; omega))
              refine e_if_eq d_X11_laysDeals_145 (fun c_145 => ?_) (fun c_145 => ?_)
              · have hb18 : isS (nm2 ca i j) nc kd cd 18 = false := Bool.eq_false_iff.mpr (bI_0.mp c_145)
                refine e_aloadn d_X11_laysDeals_163 rfl ?_
                refine e_get d_X11_laysDeals_164 f_X11_85 H_md rfl ?_
                refine e_iload d_X11_laysDeals_167 rfl ?_
                refine e_ialdN (k := i) d_X11_laysDeals_169 H_mwo rfl (by omega) (by omega) ?_
                refine e_iastN (k := i) d_X11_laysDeals_170 H_mwo rfl (by omega) (by omega) ?_
                refine e_iincw (w := 1) d_X11_laysDeals_171 rfl (by decide) (by decide) rfl ?_
                refine e_gt d_X11_laysDeals_174 ?_
                refine ih_82 (j + 1) (by omega) (by omega) _ () () () () () _ ?_ ?_ ?_ ?_ ?_ ?_
                · exact (((((h_G.trans (fr_92.mono (by decide))).trans (fq_104.mono (by decide))).up (by decide)).trans (fq_142.mono (by decide))).up (by decide))
                · exact ⟨nms3, H_mnm.n (by decide), hN0⟩
                · exact ⟨_, H_mpi.n (by decide)⟩
                · refine ⟨_, _, H_mwi.n (by decide), Hs.s H_mwo, fun c9 hc9 => ?_, ?_, ?_⟩
                  · rw [va_up_ne _ _ (by omega), va_up_ne _ _ (by omega)]; exact hwa c9 hc9
                  · rw [va_up_self]
                    first
                    | exact bs_T (P := wN ca nc kd cd 17 i) (by omega) hwi (by rw [wN_gt h_x]; exact hb17)
                    | exact bs_F (P := wN ca nc kd cd 17 i) hwi (by rw [wN_gt h_x]; exact hb17)
                  · rw [va_up_self]
                    first
                    | exact bs_T (P := wN ca nc kd cd 18 i) (by omega) hwo (by rw [wN_gt h_x]; exact hb18)
                    | exact bs_F (P := wN ca nc kd cd 18 i) hwo (by rw [wN_gt h_x]; exact hb18)
                · omega
                · exact nI_1 j
              · have hb18 : isS (nm2 ca i j) nc kd cd 18 = true := bI_1.mp (bI_z.resolve_left c_145)
                refine e_aloadn d_X11_laysDeals_148 rfl ?_
                refine e_get d_X11_laysDeals_149 f_X11_85 H_md rfl ?_
                refine e_iload d_X11_laysDeals_152 rfl ?_
                refine e_ialdN (k := i) d_X11_laysDeals_154 H_mwo rfl (by omega) (by omega) ?_
                refine e_iconst (v := 1) d_X11_laysDeals_155 (by decide) ?_
                refine e_iload d_X11_laysDeals_156 rfl ?_
                refine e_ishl d_X11_laysDeals_158 ?_
                refine e_ior d_X11_laysDeals_159 ?_
                refine e_gt d_X11_laysDeals_160 ?_
                refine e_iastN (k := i) d_X11_laysDeals_170 H_mwo rfl (by omega) (by omega) ?_
                refine e_iincw (w := 1) d_X11_laysDeals_171 rfl (by decide) (by decide) rfl ?_
                refine e_gt d_X11_laysDeals_174 ?_
                refine ih_82 (j + 1) (by omega) (by omega) _ () () () () () _ ?_ ?_ ?_ ?_ ?_ ?_
                · exact (((((h_G.trans (fr_92.mono (by decide))).trans (fq_104.mono (by decide))).up (by decide)).trans (fq_142.mono (by decide))).up (by decide))
                · exact ⟨nms3, H_mnm.n (by decide), hN0⟩
                · exact ⟨_, H_mpi.n (by decide)⟩
                · refine ⟨_, _, H_mwi.n (by decide), Hs.s H_mwo, fun c9 hc9 => ?_, ?_, ?_⟩
                  · rw [va_up_ne _ _ (by omega), va_up_ne _ _ (by omega)]; exact hwa c9 hc9
                  · rw [va_up_self]
                    first
                    | exact bs_T (P := wN ca nc kd cd 17 i) (by omega) hwi (by rw [wN_gt h_x]; exact hb17)
                    | exact bs_F (P := wN ca nc kd cd 17 i) hwi (by rw [wN_gt h_x]; exact hb17)
                  · rw [va_up_self]
                    first
                    | exact bs_T (P := wN ca nc kd cd 18 i) (by omega) hwo (by rw [wN_gt h_x]; exact hb18)
                    | exact bs_F (P := wN ca nc kd cd 18 i) hwo (by rw [wN_gt h_x]; exact hb18)
                · omega
                · exact nI_1 j
            · have hb17 : isS (nm2 ca i j) nc kd cd 17 = true := bI_1.mp (bI_z.resolve_left c_107)
              refine e_aloadn d_X11_laysDeals_110 rfl ?_
              refine e_get d_X11_laysDeals_111 f_X11_82 H_md rfl ?_
              refine e_iload d_X11_laysDeals_114 rfl ?_
              refine e_ialdN (k := i) d_X11_laysDeals_116 H_mwi rfl (by omega) (by omega) ?_
              refine e_iconst (v := 1) d_X11_laysDeals_117 (by decide) ?_
              refine e_iload d_X11_laysDeals_118 rfl ?_
              refine e_ishl d_X11_laysDeals_120 ?_
              refine e_ior d_X11_laysDeals_121 ?_
              refine e_gt d_X11_laysDeals_122 ?_
              refine e_iastN (k := i) d_X11_laysDeals_132 H_mwi rfl (by omega) (by omega) ?_
              refine e_aloadn d_X11_laysDeals_133 rfl ?_
              refine e_get d_X11_laysDeals_134 f_X11_85 (H_md.n (by decide)) rfl ?_
              refine e_iload d_X11_laysDeals_137 rfl ?_
              refine e_aloadn d_X11_laysDeals_139 rfl ?_
              refine e_iloadn d_X11_laysDeals_140 rfl ?_
              refine e_iconst (v := 4) d_X11_laysDeals_141 (by decide) ?_
              refine e_callRVI d_X11_laysDeals_142 l_X11_laysDeals_336 (H_md.n (by decide)) rfl rfl (s_X11_isSome (kk := 18) (nm := nm2 ca i j) (H_md.n (by decide)) (hT.fr (((fr_92.mono (T := [85, 86, 88]) (by decide)).trans (fq_104.mono (by decide))).up (k := 88) (by decide)) (by decide)) (H_mnm.n (by decide)) (H_mpi.n (by decide)) (by decide) (fun m hm hk => ⟨fun t ht ht2 => (nm2_ok hca (by omega) c2 hN0 hn_92 ((hok m hm).1 (by omega) t ht ht2)), okC_ty (hok m hm) (by omega)⟩)) rfl rfl (Nat.le_of_ble_eq_true rfl) (fun x_142 h_142 q_142 s_142 => ?_)
              obtain ⟨rfl, ⟨pi_142, H_mpi⟩, fq_142⟩ := q_142
              have H_md := fq_142.hs (H_md.n (by decide)) (by first | decide | (simp; omega))
              have H_a := fq_142.hs (H_a.n (by decide)) (by first | decide | (simp; omega))
              have H_mnm := fq_142.hs (H_mnm.n (by decide)) (by first | decide | (simp; omega))
              have H_mwi := fq_142.hs H_mwi.s (by first | decide | (simp; omega))
              have H_mwo := fq_142.hs (H_mwo.n (by decide)) (by first | decide | (simp; omega))
              have H_mdl := fq_142.hs (H_mdl.n (by decide)) (by first | decide | (simp; omega))
              refine e_if_eq d_X11_laysDeals_145 (fun c_145 => ?_) (fun c_145 => ?_)
              · have hb18 : isS (nm2 ca i j) nc kd cd 18 = false := Bool.eq_false_iff.mpr (bI_0.mp c_145)
                refine e_aloadn d_X11_laysDeals_163 rfl ?_
                refine e_get d_X11_laysDeals_164 f_X11_85 H_md rfl ?_
                refine e_iload d_X11_laysDeals_167 rfl ?_
                refine e_ialdN (k := i) d_X11_laysDeals_169 H_mwo rfl (by omega) (by omega) ?_
                refine e_iastN (k := i) d_X11_laysDeals_170 H_mwo rfl (by omega) (by omega) ?_
                refine e_iincw (w := 1) d_X11_laysDeals_171 rfl (by decide) (by decide) rfl ?_
                refine e_gt d_X11_laysDeals_174 ?_
                refine ih_82 (j + 1) (by omega) (by omega) _ () () () () () _ ?_ ?_ ?_ ?_ ?_ ?_
                · exact (((((h_G.trans (fr_92.mono (by decide))).trans (fq_104.mono (by decide))).up (by decide)).trans (fq_142.mono (by decide))).up (by decide))
                · exact ⟨nms3, H_mnm.n (by decide), hN0⟩
                · exact ⟨_, H_mpi.n (by decide)⟩
                · refine ⟨_, _, H_mwi.n (by decide), Hs.s H_mwo, fun c9 hc9 => ?_, ?_, ?_⟩
                  · rw [va_up_ne _ _ (by omega), va_up_ne _ _ (by omega)]; exact hwa c9 hc9
                  · rw [va_up_self]
                    first
                    | exact bs_T (P := wN ca nc kd cd 17 i) (by omega) hwi (by rw [wN_gt h_x]; exact hb17)
                    | exact bs_F (P := wN ca nc kd cd 17 i) hwi (by rw [wN_gt h_x]; exact hb17)
                  · rw [va_up_self]
                    first
                    | exact bs_T (P := wN ca nc kd cd 18 i) (by omega) hwo (by rw [wN_gt h_x]; exact hb18)
                    | exact bs_F (P := wN ca nc kd cd 18 i) hwo (by rw [wN_gt h_x]; exact hb18)
                · omega
                · exact nI_1 j
              · have hb18 : isS (nm2 ca i j) nc kd cd 18 = true := bI_1.mp (bI_z.resolve_left c_145)
                refine e_aloadn d_X11_laysDeals_148 rfl ?_
                refine e_get d_X11_laysDeals_149 f_X11_85 H_md rfl ?_
                refine e_iload d_X11_laysDeals_152 rfl ?_
                refine e_ialdN (k := i) d_X11_laysDeals_154 H_mwo rfl (by omega) (by omega) ?_
                refine e_iconst (v := 1) d_X11_laysDeals_155 (by decide) ?_
                refine e_iload d_X11_laysDeals_156 rfl ?_
                refine e_ishl d_X11_laysDeals_158 ?_
                refine e_ior d_X11_laysDeals_159 ?_
                refine e_gt d_X11_laysDeals_160 ?_
                refine e_iastN (k := i) d_X11_laysDeals_170 H_mwo rfl (by omega) (by omega) ?_
                refine e_iincw (w := 1) d_X11_laysDeals_171 rfl (by decide) (by decide) rfl ?_
                refine e_gt d_X11_laysDeals_174 ?_
                refine ih_82 (j + 1) (by omega) (by omega) _ () () () () () _ ?_ ?_ ?_ ?_ ?_ ?_
                · exact (((((h_G.trans (fr_92.mono (by decide))).trans (fq_104.mono (by decide))).up (by decide)).trans (fq_142.mono (by decide))).up (by decide))
                · exact ⟨nms3, H_mnm.n (by decide), hN0⟩
                · exact ⟨_, H_mpi.n (by decide)⟩
                · refine ⟨_, _, H_mwi.n (by decide), Hs.s H_mwo, fun c9 hc9 => ?_, ?_, ?_⟩
                  · rw [va_up_ne _ _ (by omega), va_up_ne _ _ (by omega)]; exact hwa c9 hc9
                  · rw [va_up_self]
                    first
                    | exact bs_T (P := wN ca nc kd cd 17 i) (by omega) hwi (by rw [wN_gt h_x]; exact hb17)
                    | exact bs_F (P := wN ca nc kd cd 17 i) hwi (by rw [wN_gt h_x]; exact hb17)
                  · rw [va_up_self]
                    first
                    | exact bs_T (P := wN ca nc kd cd 18 i) (by omega) hwo (by rw [wN_gt h_x]; exact hb18)
                    | exact bs_F (P := wN ca nc kd cd 18 i) hwo (by rw [wN_gt h_x]; exact hb18)
                · omega
                · exact nI_1 j
        exact hA_82 (i + 1) (by omega) _ () () () () () _ (fr47.trans (fq_47.mono (by decide))) (⟨nms1, H_mnm, hn4⟩) (⟨_, H_mpi⟩) (⟨_, _, H_mwi, H_mwo, fun c9 hc9 => by rw [va_up_ne _ _ (by omega), va_up_ne _ _ (by omega)]; exact hwa c9 hc9, by rw [va_up_self, wN_zero]; rfl, by rw [va_up_self, wN_zero]; rfl⟩) (Nat.lt_succ_self i) (nI_1 i)
      · have ho : isS (nm1 ca i) nc kd cd 19 = true := bI_1.mp (bI_z.resolve_left c_50)
        skip
        refine e_iloadn d_X11_laysDeals_53 rfl ?_
        refine e_iconst (v := 1) d_X11_laysDeals_54 (by decide) ?_
        refine e_iload d_X11_laysDeals_55 rfl ?_
        refine e_ishl d_X11_laysDeals_57 ?_
        refine e_ior d_X11_laysDeals_58 ?_
        refine e_gt d_X11_laysDeals_59 ?_
        refine e_istoren d_X11_laysDeals_63 (by decide) rfl ?_
        refine e_iload d_X11_laysDeals_64 rfl ?_
        refine e_aloadn d_X11_laysDeals_66 rfl ?_
        refine e_iload d_X11_laysDeals_67 rfl ?_
        refine e_iconst (v := 1) d_X11_laysDeals_69 (by decide) ?_
        refine e_callVI d_X11_laysDeals_70 l_X11_laysDeals_116 H_md rfl rfl (s_X11_childOf (c := i) (d := 1) H_md H_a rfl rfl (by omega)) rfl rfl (Nat.le_of_ble_eq_true rfl) ?_
        rw [hca4 i 1 c (by decide)]
        refine e_iadd d_X11_laysDeals_73 ?_
        refine e_istore d_X11_laysDeals_74 (by decide) rfl ?_
        refine e_iload d_X11_laysDeals_76 rfl ?_
        refine e_iconst (v := 1) d_X11_laysDeals_78 (by decide) ?_
        refine e_iadd d_X11_laysDeals_79 ?_
        refine e_istore d_X11_laysDeals_80 (by decide) rfl ?_
        have hA_82 : ∀ j, j ≤ N → ∀ (m : AH) (G : Unit) (K : Unit) (p2 : Unit) (V : Unit) (x : Unit) (z : Int32), (Fr [85, 86, 88, 89] h m) → (∃ nms : Nat → Int32, Hs m 85 (aI 11 nms) ∧ ∀ t, t < 4 → nms t = nI (ca i t)) → (∃ pi : Nat → Int64, Hs m 86 (aJ 200 pi)) → (∃ wi wo : Nat → Int32, Hs m 88 (aI 14 wi) ∧ Hs m 89 (aI 14 wo) ∧ (∀ c, c < i → wi c = nI (bs (wN ca nc kd cd 17 c) N) ∧ wo c = nI (bs (wN ca nc kd cd 18 c) N)) ∧ wi i = nI (bs (wN ca nc kd cd 17 i) j) ∧ wo i = nI (bs (wN ca nc kd cd 18 i) j)) → (i < j) → (z = nI j) → E M_X11_laysDeals (0, 0) (rV (fun h' => Hs h' 66 (oMd mtp mfl mfa mup mlo mln mat mtk mso mto mwr mwp mop mfs mws mst mnc mnk mnr (nI (DLs ca N nc kd cd many near).length) mgu mgl) ∧ (∃ dl : Nat → Int32, Hs h' 87 (aI 16384 dl) ∧ RwL dl (DLs ca N nc kd cd many near)) ∧ MdR h' ∧ Fr [66, 85, 86, 87, 88, 89] h h')) 82 (m) [some (.ref 66), some (.int (nI tp)), some (.int (nI N)), some (.int (nI (bs (fun c => isS (nm1 ca c) nc kd cd 19) i) ||| 1 <<< (nI i &&& 31))), some (.int (nI (wS ca 16383 i) + nI (ca i 1))), some (.int (nI i)), some (.int z), none] [] := by
          refine loop_ind (n := N) ?_
          intro j hi_j ih_82 m G K p2 V x z h_G h_K h_p2 h_V h_x h_z
          subst h_z
          have H_md := h_G.hs G_md (by decide)
          have H_a := h_G.hs G_a (by decide)
          have H_mdl := h_G.hs G_mdl (by decide)
          have hT := hT0.fr h_G (by decide)
          obtain ⟨nms, H_mnm, hn0⟩ := id h_K
          obtain ⟨pi, H_mpi⟩ := id h_p2
          obtain ⟨wi, wo, H_mwi, H_mwo, hwa, hwi, hwo⟩ := id h_V
          refine e_iload d_X11_laysDeals_82 rfl ?_
          refine e_iloadn d_X11_laysDeals_84 rfl ?_
          refine e_icmp_ge d_X11_laysDeals_85 (fun c2 => ?_) (fun c2 => ?_)
          · have c2 := i_le (by omega) (by omega) c2
            obtain rfl : N = j := by omega
            refine e_iincw (w := 1) d_X11_laysDeals_177 rfl (by decide) (by decide) rfl ?_
            refine e_gt d_X11_laysDeals_180 ?_
            refine e_drop1 6 ?_
            refine ih_15 (i + 1) (by omega) (by omega) _ () () () () _ _ _ ?_ ?_ ?_ ?_ ?_ ?_ ?_
            · exact h_G
            · exact h_K.elim fun n q => ⟨n, q.1⟩
            · exact h_p2
            · obtain ⟨wi2, wo2, q1, q2, q3, q4, q5⟩ := h_V
              exact ⟨wi2, wo2, q1, q2, fun c9 hc9 => by
                by_cases e9 : c9 = i
                · subst e9; exact ⟨q4, q5⟩
                · exact q3 c9 (by omega)⟩
            · first | exact bs_T (P := fun c => isS (nm1 ca c) nc kd cd 19) (by omega) rfl ho | exact bs_F (P := fun c => isS (nm1 ca c) nc kd cd 19) rfl ho
            · rw [wS, bt_all i (by omega), if_pos rfl, nI_add]
            · exact nI_1 i
          · have c2 := i_nle (by omega) (by omega) c2
            refine e_aloadn d_X11_laysDeals_88 rfl ?_
            refine e_iconst (v := 4) d_X11_laysDeals_89 (by decide) ?_
            refine e_iload d_X11_laysDeals_90 rfl ?_
            refine e_callRVV d_X11_laysDeals_92 l_X11_laysDeals_333 H_md rfl rfl (s_X11_names (o := 4) (C := j) H_md H_a ha0 hN hca hca4 H_mnm (by omega) (by decide)) rfl rfl (Nat.le_of_ble_eq_true rfl) (fun h_92 q_92 s_92 => ?_)
            obtain ⟨nms3, H_mnm, hn_92, hm_92, fr_92⟩ := q_92
            have H_md := fr_92.hs H_md (by first | decide | (simp; omega))
            have H_a := fr_92.hs H_a (by first | decide | (simp; omega))
            have H_mpi := fr_92.hs H_mpi (by first | decide | (simp; omega))
            have H_mwi := fr_92.hs H_mwi (by first | decide | (simp; omega))
            have H_mwo := fr_92.hs H_mwo (by first | decide | (simp; omega))
            have H_mdl := fr_92.hs H_mdl (by first | decide | (simp; omega))
            have hN0 : ∀ t, t < 4 → nms3 t = nI (ca i t) := fun t ht => (hm_92 t (Or.inl ht)).trans (hn0 t ht)
            have fr104 := fr_92
            refine e_aloadn d_X11_laysDeals_95 rfl ?_
            refine e_get d_X11_laysDeals_96 f_X11_82 H_md rfl ?_
            refine e_iload d_X11_laysDeals_99 rfl ?_
            refine e_aloadn d_X11_laysDeals_101 rfl ?_
            refine e_iloadn d_X11_laysDeals_102 rfl ?_
            refine e_iconst (v := 3) d_X11_laysDeals_103 (by decide) ?_
            refine e_callRVI d_X11_laysDeals_104 l_X11_laysDeals_336 H_md rfl rfl (s_X11_isSome (kk := 17) (nm := nm2 ca i j) H_md (hT.fr fr104 (by decide)) H_mnm H_mpi (by decide) (fun m hm hk => ⟨fun t ht ht2 => (nm2_ok hca (by omega) c2 hN0 hn_92 ((hok m hm).1 (by omega) t ht ht2)), okC_ty (hok m hm) (by omega)⟩)) rfl rfl (Nat.le_of_ble_eq_true rfl) (fun x_104 h_104 q_104 s_104 => ?_)
            obtain ⟨rfl, ⟨pi_104, H_mpi⟩, fq_104⟩ := q_104
            have H_md := fq_104.hs H_md (by first | decide | (simp; omega))
            have H_a := fq_104.hs H_a (by first | decide | (simp; omega))
            have H_mnm := fq_104.hs H_mnm (by first | decide | (simp; omega))
            have H_mwi := fq_104.hs H_mwi (by first | decide | (simp; omega))
            have H_mwo := fq_104.hs H_mwo (by first | decide | (simp; omega))
            have H_mdl := fq_104.hs H_mdl (by first | decide | (simp; omega))
            refine e_if_eq d_X11_laysDeals_107 (fun c_107 => ?_) (fun c_107 => ?_)
            · have hb17 : isS (nm2 ca i j) nc kd cd 17 = false := Bool.eq_false_iff.mpr (bI_0.mp c_107)
              refine e_aloadn d_X11_laysDeals_125 rfl ?_
              refine e_get d_X11_laysDeals_126 f_X11_82 H_md rfl ?_
              refine e_iload d_X11_laysDeals_129 rfl ?_
              refine e_ialdN (k := i) d_X11_laysDeals_131 H_mwi rfl (by omega) (by omega) ?_
              refine e_iastN (k := i) d_X11_laysDeals_132 H_mwi rfl (by omega) (by omega) ?_
              refine e_aloadn d_X11_laysDeals_133 rfl ?_
              refine e_get d_X11_laysDeals_134 f_X11_85 (H_md.n (by decide)) rfl ?_
              refine e_iload d_X11_laysDeals_137 rfl ?_
              refine e_aloadn d_X11_laysDeals_139 rfl ?_
              refine e_iloadn d_X11_laysDeals_140 rfl ?_
              refine e_iconst (v := 4) d_X11_laysDeals_141 (by decide) ?_
              refine e_callRVI d_X11_laysDeals_142 l_X11_laysDeals_336 (H_md.n (by decide)) rfl rfl (s_X11_isSome (kk := 18) (nm := nm2 ca i j) (H_md.n (by decide)) (hT.fr (((fr_92.mono (T := [85, 86, 88]) (by decide)).trans (fq_104.mono (by decide))).up (k := 88) (by decide)) (by decide)) (H_mnm.n (by decide)) (H_mpi.n (by decide)) (by decide) (fun m hm hk => ⟨fun t ht ht2 => (nm2_ok hca (by omega) c2 hN0 hn_92 ((hok m hm).1 (by omega) t ht ht2)), okC_ty (hok m hm) (by omega)⟩)) rfl rfl (Nat.le_of_ble_eq_true rfl) (fun x_142 h_142 q_142 s_142 => ?_)
              obtain ⟨rfl, ⟨pi_142, H_mpi⟩, fq_142⟩ := q_142
              have H_md := fq_142.hs (H_md.n (by decide)) (by first | decide | (simp; omega))
              have H_a := fq_142.hs (H_a.n (by decide)) (by first | decide | (simp; omega))
              have H_mnm := fq_142.hs (H_mnm.n (by decide)) (by first | decide | (simp; omega))
              have H_mwi := fq_142.hs H_mwi.s (by first | decide | (simp; omega))
              have H_mwo := fq_142.hs (H_mwo.n (by decide)) (by first | decide | (simp; omega))
              have H_mdl := fq_142.hs (H_mdl.n (by decide)) (by first | decide | (simp; omega))
              refine e_if_eq d_X11_laysDeals_145 (fun c_145 => ?_) (fun c_145 => ?_)
              · have hb18 : isS (nm2 ca i j) nc kd cd 18 = false := Bool.eq_false_iff.mpr (bI_0.mp c_145)
                refine e_aloadn d_X11_laysDeals_163 rfl ?_
                refine e_get d_X11_laysDeals_164 f_X11_85 H_md rfl ?_
                refine e_iload d_X11_laysDeals_167 rfl ?_
                refine e_ialdN (k := i) d_X11_laysDeals_169 H_mwo rfl (by omega) (by omega) ?_
                refine e_iastN (k := i) d_X11_laysDeals_170 H_mwo rfl (by omega) (by omega) ?_
                refine e_iincw (w := 1) d_X11_laysDeals_171 rfl (by decide) (by decide) rfl ?_
                refine e_gt d_X11_laysDeals_174 ?_
                refine ih_82 (j + 1) (by omega) (by omega) _ () () () () () _ ?_ ?_ ?_ ?_ ?_ ?_
                · exact (((((h_G.trans (fr_92.mono (by decide))).trans (fq_104.mono (by decide))).up (by decide)).trans (fq_142.mono (by decide))).up (by decide))
                · exact ⟨nms3, H_mnm.n (by decide), hN0⟩
                · exact ⟨_, H_mpi.n (by decide)⟩
                · refine ⟨_, _, H_mwi.n (by decide), Hs.s H_mwo, fun c9 hc9 => ?_, ?_, ?_⟩
                  · rw [va_up_ne _ _ (by omega), va_up_ne _ _ (by omega)]; exact hwa c9 hc9
                  · rw [va_up_self]
                    first
                    | exact bs_T (P := wN ca nc kd cd 17 i) (by omega) hwi (by rw [wN_gt h_x]; exact hb17)
                    | exact bs_F (P := wN ca nc kd cd 17 i) hwi (by rw [wN_gt h_x]; exact hb17)
                  · rw [va_up_self]
                    first
                    | exact bs_T (P := wN ca nc kd cd 18 i) (by omega) hwo (by rw [wN_gt h_x]; exact hb18)
                    | exact bs_F (P := wN ca nc kd cd 18 i) hwo (by rw [wN_gt h_x]; exact hb18)
                · omega
                · exact nI_1 j
              · have hb18 : isS (nm2 ca i j) nc kd cd 18 = true := bI_1.mp (bI_z.resolve_left c_145)
                refine e_aloadn d_X11_laysDeals_148 rfl ?_
                refine e_get d_X11_laysDeals_149 f_X11_85 H_md rfl ?_
                refine e_iload d_X11_laysDeals_152 rfl ?_
                refine e_ialdN (k := i) d_X11_laysDeals_154 H_mwo rfl (by omega) (by omega) ?_
                refine e_iconst (v := 1) d_X11_laysDeals_155 (by decide) ?_
                refine e_iload d_X11_laysDeals_156 rfl ?_
                refine e_ishl d_X11_laysDeals_158 ?_
                refine e_ior d_X11_laysDeals_159 ?_
                refine e_gt d_X11_laysDeals_160 ?_
                refine e_iastN (k := i) d_X11_laysDeals_170 H_mwo rfl (by omega) (by omega) ?_
                refine e_iincw (w := 1) d_X11_laysDeals_171 rfl (by decide) (by decide) rfl ?_
                refine e_gt d_X11_laysDeals_174 ?_
                refine ih_82 (j + 1) (by omega) (by omega) _ () () () () () _ ?_ ?_ ?_ ?_ ?_ ?_
                · exact (((((h_G.trans (fr_92.mono (by decide))).trans (fq_104.mono (by decide))).up (by decide)).trans (fq_142.mono (by decide))).up (by decide))
                · exact ⟨nms3, H_mnm.n (by decide), hN0⟩
                · exact ⟨_, H_mpi.n (by decide)⟩
                · refine ⟨_, _, H_mwi.n (by decide), Hs.s H_mwo, fun c9 hc9 => ?_, ?_, ?_⟩
                  · rw [va_up_ne _ _ (by omega), va_up_ne _ _ (by omega)]; exact hwa c9 hc9
                  · rw [va_up_self]
                    first
                    | exact bs_T (P := wN ca nc kd cd 17 i) (by omega) hwi (by rw [wN_gt h_x]; exact hb17)
                    | exact bs_F (P := wN ca nc kd cd 17 i) hwi (by rw [wN_gt h_x]; exact hb17)
                  · rw [va_up_self]
                    first
                    | exact bs_T (P := wN ca nc kd cd 18 i) (by omega) hwo (by rw [wN_gt h_x]; exact hb18)
                    | exact bs_F (P := wN ca nc kd cd 18 i) hwo (by rw [wN_gt h_x]; exact hb18)
                · omega
                · exact nI_1 j
            · have hb17 : isS (nm2 ca i j) nc kd cd 17 = true := bI_1.mp (bI_z.resolve_left c_107)
              refine e_aloadn d_X11_laysDeals_110 rfl ?_
              refine e_get d_X11_laysDeals_111 f_X11_82 H_md rfl ?_
              refine e_iload d_X11_laysDeals_114 rfl ?_
              refine e_ialdN (k := i) d_X11_laysDeals_116 H_mwi rfl (by omega) (by omega) ?_
              refine e_iconst (v := 1) d_X11_laysDeals_117 (by decide) ?_
              refine e_iload d_X11_laysDeals_118 rfl ?_
              refine e_ishl d_X11_laysDeals_120 ?_
              refine e_ior d_X11_laysDeals_121 ?_
              refine e_gt d_X11_laysDeals_122 ?_
              refine e_iastN (k := i) d_X11_laysDeals_132 H_mwi rfl (by omega) (by omega) ?_
              refine e_aloadn d_X11_laysDeals_133 rfl ?_
              refine e_get d_X11_laysDeals_134 f_X11_85 (H_md.n (by decide)) rfl ?_
              refine e_iload d_X11_laysDeals_137 rfl ?_
              refine e_aloadn d_X11_laysDeals_139 rfl ?_
              refine e_iloadn d_X11_laysDeals_140 rfl ?_
              refine e_iconst (v := 4) d_X11_laysDeals_141 (by decide) ?_
              refine e_callRVI d_X11_laysDeals_142 l_X11_laysDeals_336 (H_md.n (by decide)) rfl rfl (s_X11_isSome (kk := 18) (nm := nm2 ca i j) (H_md.n (by decide)) (hT.fr (((fr_92.mono (T := [85, 86, 88]) (by decide)).trans (fq_104.mono (by decide))).up (k := 88) (by decide)) (by decide)) (H_mnm.n (by decide)) (H_mpi.n (by decide)) (by decide) (fun m hm hk => ⟨fun t ht ht2 => (nm2_ok hca (by omega) c2 hN0 hn_92 ((hok m hm).1 (by omega) t ht ht2)), okC_ty (hok m hm) (by omega)⟩)) rfl rfl (Nat.le_of_ble_eq_true rfl) (fun x_142 h_142 q_142 s_142 => ?_)
              obtain ⟨rfl, ⟨pi_142, H_mpi⟩, fq_142⟩ := q_142
              have H_md := fq_142.hs (H_md.n (by decide)) (by first | decide | (simp; omega))
              have H_a := fq_142.hs (H_a.n (by decide)) (by first | decide | (simp; omega))
              have H_mnm := fq_142.hs (H_mnm.n (by decide)) (by first | decide | (simp; omega))
              have H_mwi := fq_142.hs H_mwi.s (by first | decide | (simp; omega))
              have H_mwo := fq_142.hs (H_mwo.n (by decide)) (by first | decide | (simp; omega))
              have H_mdl := fq_142.hs (H_mdl.n (by decide)) (by first | decide | (simp; omega))
              refine e_if_eq d_X11_laysDeals_145 (fun c_145 => ?_) (fun c_145 => ?_)
              · have hb18 : isS (nm2 ca i j) nc kd cd 18 = false := Bool.eq_false_iff.mpr (bI_0.mp c_145)
                refine e_aloadn d_X11_laysDeals_163 rfl ?_
                refine e_get d_X11_laysDeals_164 f_X11_85 H_md rfl ?_
                refine e_iload d_X11_laysDeals_167 rfl ?_
                refine e_ialdN (k := i) d_X11_laysDeals_169 H_mwo rfl (by omega) (by omega) ?_
                refine e_iastN (k := i) d_X11_laysDeals_170 H_mwo rfl (by omega) (by omega) ?_
                refine e_iincw (w := 1) d_X11_laysDeals_171 rfl (by decide) (by decide) rfl ?_
                refine e_gt d_X11_laysDeals_174 ?_
                refine ih_82 (j + 1) (by omega) (by omega) _ () () () () () _ ?_ ?_ ?_ ?_ ?_ ?_
                · exact (((((h_G.trans (fr_92.mono (by decide))).trans (fq_104.mono (by decide))).up (by decide)).trans (fq_142.mono (by decide))).up (by decide))
                · exact ⟨nms3, H_mnm.n (by decide), hN0⟩
                · exact ⟨_, H_mpi.n (by decide)⟩
                · refine ⟨_, _, H_mwi.n (by decide), Hs.s H_mwo, fun c9 hc9 => ?_, ?_, ?_⟩
                  · rw [va_up_ne _ _ (by omega), va_up_ne _ _ (by omega)]; exact hwa c9 hc9
                  · rw [va_up_self]
                    first
                    | exact bs_T (P := wN ca nc kd cd 17 i) (by omega) hwi (by rw [wN_gt h_x]; exact hb17)
                    | exact bs_F (P := wN ca nc kd cd 17 i) hwi (by rw [wN_gt h_x]; exact hb17)
                  · rw [va_up_self]
                    first
                    | exact bs_T (P := wN ca nc kd cd 18 i) (by omega) hwo (by rw [wN_gt h_x]; exact hb18)
                    | exact bs_F (P := wN ca nc kd cd 18 i) hwo (by rw [wN_gt h_x]; exact hb18)
                · omega
                · exact nI_1 j
              · have hb18 : isS (nm2 ca i j) nc kd cd 18 = true := bI_1.mp (bI_z.resolve_left c_145)
                refine e_aloadn d_X11_laysDeals_148 rfl ?_
                refine e_get d_X11_laysDeals_149 f_X11_85 H_md rfl ?_
                refine e_iload d_X11_laysDeals_152 rfl ?_
                refine e_ialdN (k := i) d_X11_laysDeals_154 H_mwo rfl (by omega) (by omega) ?_
                refine e_iconst (v := 1) d_X11_laysDeals_155 (by decide) ?_
                refine e_iload d_X11_laysDeals_156 rfl ?_
                refine e_ishl d_X11_laysDeals_158 ?_
                refine e_ior d_X11_laysDeals_159 ?_
                refine e_gt d_X11_laysDeals_160 ?_
                refine e_iastN (k := i) d_X11_laysDeals_170 H_mwo rfl (by omega) (by omega) ?_
                refine e_iincw (w := 1) d_X11_laysDeals_171 rfl (by decide) (by decide) rfl ?_
                refine e_gt d_X11_laysDeals_174 ?_
                refine ih_82 (j + 1) (by omega) (by omega) _ () () () () () _ ?_ ?_ ?_ ?_ ?_ ?_
                · exact (((((h_G.trans (fr_92.mono (by decide))).trans (fq_104.mono (by decide))).up (by decide)).trans (fq_142.mono (by decide))).up (by decide))
                · exact ⟨nms3, H_mnm.n (by decide), hN0⟩
                · exact ⟨_, H_mpi.n (by decide)⟩
                · refine ⟨_, _, H_mwi.n (by decide), Hs.s H_mwo, fun c9 hc9 => ?_, ?_, ?_⟩
                  · rw [va_up_ne _ _ (by omega), va_up_ne _ _ (by omega)]; exact hwa c9 hc9
                  · rw [va_up_self]
                    first
                    | exact bs_T (P := wN ca nc kd cd 17 i) (by omega) hwi (by rw [wN_gt h_x]; exact hb17)
                    | exact bs_F (P := wN ca nc kd cd 17 i) hwi (by rw [wN_gt h_x]; exact hb17)
                  · rw [va_up_self]
                    first
                    | exact bs_T (P := wN ca nc kd cd 18 i) (by omega) hwo (by rw [wN_gt h_x]; exact hb18)
                    | exact bs_F (P := wN ca nc kd cd 18 i) hwo (by rw [wN_gt h_x]; exact hb18)
                · omega
                · exact nI_1 j
        exact hA_82 (i + 1) (by omega) _ () () () () () _ (fr47.trans (fq_47.mono (by decide))) (⟨nms1, H_mnm, hn4⟩) (⟨_, H_mpi⟩) (⟨_, _, H_mwi, H_mwo, fun c9 hc9 => by rw [va_up_ne _ _ (by omega), va_up_ne _ _ (by omega)]; exact hwa c9 hc9, by rw [va_up_self, wN_zero]; rfl, by rw [va_up_self, wN_zero]; rfl⟩) (Nat.lt_succ_self i) (nI_1 i)
  exact hA_15 0 (by omega) _ () () () () _ _ _ (Fr.refl _ _) (⟨_, H_mnm⟩) (⟨_, H_mpi⟩) (⟨_, _, H_mwi, H_mwo, fun c hc => absurd hc (by omega)⟩) (rfl) (rfl) (rfl)
