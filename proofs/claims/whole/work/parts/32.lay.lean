/-! ROWS MADE, FRAMES BELOW 93; Dealings.deal -/
section NEWR
variable {M : MD} {κ κ' : Nat × Nat} {Q : Option Value → AH → Prop} {pc pc2 N : Nat} {h : AH} {ls : List (Option Value)} {st : List Value} {nn : Int32}
theorem nn_of (hn : nn = nI N) (hN : N ≤ 100000) : (¬ nn < 0) ∧ nn.toNatClampNeg = N := by rw [hn]; exact ⟨fun z => absurd (i_lt (b := 0) (by omega) (by decide) z) (by omega), nI_clamp (by omega)⟩
theorem e_newI (hd : decode M.2.1 pc = .ok (.newarray .int, 2) ∧ pc2 = pc + 2) (hn : nn = nI N) (hN : N ≤ 100000) (h1 : κ.1 = κ'.1 + 1) (h2 : κ.2 = κ'.2 + N) (kk : E M κ' Q pc2 (pu h (aI N (fun _ => 0))) ls (.ref h.2.1 :: st)) : E M κ Q pc h ls (.int nn :: st) :=
  e_newarr hd rfl (lw_in 145 (by decide +kernel) rfl) (fun g c => rfl) (fun U c hc => hc) (nn_of hn hN).1 (nn_of hn hN).2 (by show N * 4 ≤ _; omega) h1 h2 kk
theorem e_newZ (hd : decode M.2.1 pc = .ok (.newarray .boolean, 2) ∧ pc2 = pc + 2) (hn : nn = nI N) (hN : N ≤ 100000) (h1 : κ.1 = κ'.1 + 1) (h2 : κ.2 = κ'.2 + N) (kk : E M κ' Q pc2 (pu h (aZ N (fun _ => 0))) ls (.ref h.2.1 :: st)) : E M κ Q pc h ls (.int nn :: st) :=
  e_newarr hd rfl (lw_in 178 (by decide +kernel) rfl) (fun g c => rfl) (fun U c hc => hc) (nn_of hn hN).1 (nn_of hn hN).2 (by show N * 1 ≤ _; omega) h1 h2 kk
theorem e_newB (hd : decode M.2.1 pc = .ok (.newarray .byte, 2) ∧ pc2 = pc + 2) (hn : nn = nI N) (hN : N ≤ 100000) (h1 : κ.1 = κ'.1 + 1) (h2 : κ.2 = κ'.2 + N) (kk : E M κ' Q pc2 (pu h (aB N (fun _ => 0))) ls (.ref h.2.1 :: st)) : E M κ Q pc h ls (.int nn :: st) :=
  e_newarr hd rfl (lw_in 736 (by decide +kernel) rfl) (fun g c => rfl) (fun U c hc => hc) (nn_of hn hN).1 (nn_of hn hN).2 (by show N * 1 ≤ _; omega) h1 h2 kk
theorem e_newJ (hd : decode M.2.1 pc = .ok (.newarray .long, 2) ∧ pc2 = pc + 2) (hn : nn = nI N) (hN : N ≤ 100000) (h1 : κ.1 = κ'.1 + 1) (h2 : κ.2 = κ'.2 + N) (kk : E M κ' Q pc2 (pu h (aJ N (fun _ => 0))) ls (.ref h.2.1 :: st)) : E M κ Q pc h ls (.int nn :: st) :=
  e_newarr hd rfl (lw_in 1140 (by decide +kernel) rfl) (fun g c => rfl) (fun U c hc => hc) (nn_of hn hN).1 (nn_of hn hN).2 (by show N * 8 ≤ _; omega) h1 h2 kk
end NEWR
/-- what stands but for the places of S, of the first 93 cells -/
def Fz (S : List Nat) (h h' : AH) : Prop := h'.1 = h.1 ∧ h.2.1 ≤ h'.2.1 ∧ ∀ k, k ≤ 92 → k < h.2.1 → k ∉ S → h'.2.2 k = h.2.2 k
theorem Fz.hs {S : List Nat} {h h' : AH} {k : Nat} {c : AC} (F : Fz S h h') (H : Hs h k c) (hk : k ∉ S ∧ k ≤ 92) : Hs h' k c := ⟨Nat.lt_of_lt_of_le H.1 F.2.1, (F.2.2 k hk.2 H.1 hk.1).trans H.2⟩
theorem Fz.refl (S : List Nat) (h : AH) : Fz S h h := ⟨rfl, Nat.le_refl _, fun _ _ _ _ => rfl⟩
theorem Fz.trans {S : List Nat} {h h1 h2 : AH} (F : Fz S h h1) (G : Fz S h1 h2) : Fz S h h2 := ⟨G.1.trans F.1, Nat.le_trans F.2.1 G.2.1, fun k h9 hk hS => (G.2.2 k h9 (Nat.lt_of_lt_of_le hk F.2.1) hS).trans (F.2.2 k h9 hk hS)⟩
theorem Fz.mono {S T : List Nat} {h h' : AH} (F : Fz S h h') (hT : ∀ k, k ∈ S → k ∈ T) : Fz T h h' := ⟨F.1, F.2.1, fun k h9 hk hS => F.2.2 k h9 hk (fun z => hS (hT k z))⟩
theorem Fz.up {S : List Nat} {h h' : AH} {k : Nat} {c : AC} (F : Fz S h h') (hk : k ∈ S ∨ 92 < k) : Fz S h (up h' k c) := ⟨F.1, F.2.1, fun j h9 hj hS => (va_up_ne _ _ (fun z => by subst z; rcases hk with q | q; exact hS q; omega)).trans (F.2.2 j h9 hj hS)⟩
theorem Fz.pu {S : List Nat} {h h' : AH} {c : AC} (F : Fz S h h') : Fz S h (pu h' c) := ⟨F.1, Nat.le_succ_of_le F.2.1, fun j h9 hj hS => (va_up_ne _ _ (Nat.ne_of_lt (Nat.lt_of_lt_of_le hj F.2.1))).trans (F.2.2 j h9 hj hS)⟩
theorem Fr.z {S : List Nat} {h h' : AH} (F : Fr S h h') : Fz S h h' := ⟨F.1, F.2.1, fun k _ hk hS => F.2.2 k hk hS⟩
theorem TxC.fz {S : List Nat} {h h' : AH} {tp nc : Nat} {kd : Nat → Nat} {cd : Nat → List Nat} {many near : Int32} (T : TxC h tp nc kd cd many near) (F : Fz S h h') (hS : (∀ k, k ∈ S → k < 42) ∧ tp < 6) : TxC h' tp nc kd cd many near := by
  obtain ⟨h0, a, b, c, h1, h2, h3, h4, h5⟩ := T
  exact ⟨h0, a, b, c, F.hs h1 ⟨fun z => by have := hS.1 _ z; omega, by omega⟩, F.hs h2 ⟨fun z => by have := hS.1 _ z; omega, by omega⟩, F.hs h3 ⟨fun z => by have := hS.1 _ z; omega, by omega⟩, F.hs h4 ⟨fun z => by have := hS.1 _ z; omega, by omega⟩, h5⟩
theorem JuC.fz {S : List Nat} {h h' : AH} {nms : Nat → Int32} (T : JuC h nms) (F : Fz S h h') (hS : 24 ∉ S ∧ 25 ∉ S ∧ 26 ∉ S) : JuC h' nms := ⟨F.hs T.1 ⟨hS.1, by decide⟩, F.hs T.2.1 ⟨hS.2.1, by decide⟩, T.2.2.elim fun s q => ⟨s, F.hs q ⟨hS.2.2, by decide⟩⟩⟩
theorem ChC.fz {S : List Nat} {h h' : AH} {N : Nat} {ca : Nat → Nat → Nat} {co ha : Int32} (T : ChC h N ca co ha) (F : Fz S h h') (hS : 1 ∉ S ∧ 2 ∉ S ∧ 3 ∉ S ∧ 4 ∉ S ∧ 5 ∉ S) : ChC h' N ca co ha := by
  obtain ⟨h0, h9, a, b, c, d, h1, h2, h3, h4, h5, h6⟩ := T
  exact ⟨h0, h9, a, b, c, d, F.hs h1 ⟨hS.1, by decide⟩, F.hs h2 ⟨hS.2.1, by decide⟩, F.hs h3 ⟨hS.2.2.1, by decide⟩, F.hs h4 ⟨hS.2.2.2.1, by decide⟩, F.hs h5 ⟨hS.2.2.2.2, by decide⟩, h6⟩
theorem TaOK.fz {S : List Nat} {h h' : AH} (T : TaOK h) (F : Fz S h h') (hS : 31 ∉ S ∧ 32 ∉ S ∧ 33 ∉ S ∧ 34 ∉ S) : TaOK h' := by
  obtain ⟨w, g1, g2, g3, a, b, c, d, e, f⟩ := T
  exact ⟨w, g1, g2, g3, F.hs a ⟨hS.1, by decide⟩, F.hs b ⟨hS.2.1, by decide⟩, F.hs c ⟨hS.2.2.1, by decide⟩, F.hs d ⟨hS.2.2.2, by decide⟩, e, f⟩
theorem TbOK.fz {S : List Nat} {h h' : AH} (T : TbOK h) (F : Fz S h h') (hS : 35 ∉ S ∧ 36 ∉ S ∧ 37 ∉ S ∧ 38 ∉ S) : TbOK h' := by
  obtain ⟨w, g1, g2, g3, a, b, c, d, e, f⟩ := T
  exact ⟨w, g1, g2, g3, F.hs a ⟨hS.1, by decide⟩, F.hs b ⟨hS.2.1, by decide⟩, F.hs c ⟨hS.2.2.1, by decide⟩, F.hs d ⟨hS.2.2.2, by decide⟩, e, f⟩
theorem DL_t {fit : Nat → Bool} {over n : Nat} (h : fit n = true) : DL fit over (n + 1) = DL fit over n ++ [sd n over] := by rw [DL_succ, if_pos h]
theorem DL_f {fit : Nat → Bool} {over n : Nat} (h : fit n = false) : DL fit over (n + 1) = DL fit over n := by rw [DL_succ, if_neg (by rw [h]; decide), List.append_nil]
theorem i32_div {a b : Int} (ha : -2000000000 ≤ a ∧ a ≤ 2000000000) (hb : -2000000000 ≤ b ∧ b ≤ 2000000000) : Int32.ofInt a / Int32.ofInt b = Int32.ofInt (a.tdiv b) := by
  refine (Int32.ofInt_tdiv ?_ ?_ ?_ ?_).symm <;> simp [Int32.minValue, Int32.maxValue] <;> omega
/-- D really in thousandths -/
def thC (ans less : Nat → Int32) (A T S0 : Nat) : Int := if dN (cF ans T A) S0 14 * dM (cF ans T A) S0 14 = 0 then -1000000 else (dU (cF ans T A) (cV ans less T) S0 14 * 1000).tdiv ((dN (cF ans T A) S0 14 * dM (cF ans T A) S0 14 : Nat) : Int)

theorem s_X1_deal {h : AH} {κ : Nat × Nat} {tp nc : Nat} {kd : Nat → Nat} {cd : Nat → List Nat} {many near : Int32} {nms : Nat → Int32} {N : Nat} {ca : Nat → Nat → Nat} {co ha : Int32} {dtext : Int32} {drn : Nat} {L0 : List Nat} (hC : ChC h N ca co ha) (hT : TxC h tp nc kd cd many near) (hJ : JuC h nms) (hok : okT nc kd cd) (hD : DeX h dtext drn L0) (htp : tp < 6) (hsz : 92 < h.2.1) (hκ : drn < 2 ^ N → 1 ≤ κ.1 ∧ 2 ^ N ≤ κ.2) : Sp M_X1_deal κ h [.ref 27, .ref (42 + 4 * tp), .ref 1, .ref 24] (rV (fun h' => (∃ nms', JuC h' nms') ∧ DeX h' dtext (max drn (2 ^ N)) (DLs ca N nc kd cd many near) ∧ Fz [25, 26, 27, 28, 29, 30] h h')) := by
  refine ⟨Nat.le_of_ble_eq_true rfl, ?_⟩
  show E _ _ _ 0 h [some (.ref 27), some (.ref (42 + 4 * tp)), some (.ref 1), some (.ref 24), none, none, none] []
  have hC9 := hC
  obtain ⟨hN, hca, sexes, wits, homes, works, H_ch, H_sx, H_wt, H_hm, H_wk, hc4⟩ := hC9
  have H_ju := hJ.1
  obtain ⟨-, tkinds, tedges, tcode, H_tx, -⟩ := id hT
  obtain ⟨drow, row0, w0, a0, H_de, H_dw, H_da, H_dr, hdr, hL1, hL2, hdrn, hRw, hLs⟩ := hD
  have hp := pw_31 N hN
  have hpp := Nat.two_pow_pos N
  refine e_aloadn d_X1_deal_0 rfl ?_
  refine e_aloadn d_X1_deal_1 rfl ?_
  refine e_aloadn d_X1_deal_2 rfl ?_
  refine e_aloadn d_X1_deal_3 rfl ?_
  refine e_callRVV d_X1_deal_4 l_X1_deal_25 H_de rfl rfl (s_X1_bind hC hT hJ hok H_de H_dw H_da) rfl rfl (Nat.le_of_ble_eq_true rfl) (fun h_4 q_4 s_4 => ?_)
  obtain ⟨hJ4, fr4, w, a, H_dw, H_da, hwa⟩ := q_4
  have H_ch := fr4.hs H_ch (by first | decide | (simp; omega))
  have H_sx := fr4.hs H_sx (by first | decide | (simp; omega))
  have H_wt := fr4.hs H_wt (by first | decide | (simp; omega))
  have H_hm := fr4.hs H_hm (by first | decide | (simp; omega))
  have H_wk := fr4.hs H_wk (by first | decide | (simp; omega))
  have H_de := fr4.hs H_de (by first | decide | (simp; omega))
  have H_ju := fr4.hs H_ju (by first | decide | (simp; omega))
  have H_dr := fr4.hs H_dr (by first | decide | (simp; omega))
  have H_tx := fr4.hs H_tx (by first | decide | (simp; omega))
  obtain ⟨nms4, hJ4⟩ := hJ4
  refine e_aloadn d_X1_deal_7 rfl ?_
  refine e_aloadn d_X1_deal_8 rfl ?_
  refine e_aloadn d_X1_deal_9 rfl ?_
  refine e_callRSI d_X1_deal_10 l_X1_deal_29 (s_X1_over (hC.fr fr4 (by decide)) (hT.fr fr4 (by decide)) hJ4 hok) rfl rfl (Nat.le_of_ble_eq_true rfl) (fun x_10 h_10 q_10 s_10 => ?_)
  obtain ⟨rfl, ⟨nms10, hJ10⟩, fr10⟩ := q_10
  have H_ch := fr10.hs H_ch (by first | decide | (simp; omega))
  have H_sx := fr10.hs H_sx (by first | decide | (simp; omega))
  have H_wt := fr10.hs H_wt (by first | decide | (simp; omega))
  have H_hm := fr10.hs H_hm (by first | decide | (simp; omega))
  have H_wk := fr10.hs H_wk (by first | decide | (simp; omega))
  have H_de := fr10.hs H_de (by first | decide | (simp; omega))
  have H_dw := fr10.hs H_dw (by first | decide | (simp; omega))
  have H_da := fr10.hs H_da (by first | decide | (simp; omega))
  have H_ju := fr10.hs H_ju (by first | decide | (simp; omega))
  have H_dr := fr10.hs H_dr (by first | decide | (simp; omega))
  have H_tx := fr10.hs H_tx (by first | decide | (simp; omega))
  have fz10 : Fz [25, 26, 27, 28, 29, 30] h h_10 := (fr4.z.mono (by decide)).trans (fr10.z.mono (by decide))
  have hs10 : 92 < h_10.2.1 := Nat.lt_of_lt_of_le hsz fz10.2.1
  refine e_istore d_X1_deal_13 (by decide) rfl ?_
  refine e_iconst (v := 1) d_X1_deal_15 (by decide) ?_
  refine e_aloadn d_X1_deal_16 rfl ?_
  refine e_get d_X1_deal_17 f_X1_33 H_ch rfl ?_
  refine e_ishl d_X1_deal_20 ?_
  rw [pw14 N hN]
  refine e_istore d_X1_deal_21 (by decide) rfl ?_
  by_cases hb : 2 ^ N ≤ drn
  · refine e_aloadn d_X1_deal_23 rfl ?_
    refine e_get d_X1_deal_24 f_X1_18 H_de rfl ?_
    refine e_alenI d_X1_deal_27 H_dr ?_
    refine e_iload d_X1_deal_28 rfl ?_
    refine e_icmp_ge d_X1_deal_30 (fun _ => ?_) (fun z => by first | exact absurd ((nI_leI (by omega) (by omega)).mpr hb) z | exact absurd z ((nI_leI (by omega) (by omega)).mpr hb))
    refine e_aloadn d_X1_deal_41 rfl ?_
    refine e_iconst (v := 0) d_X1_deal_42 (by decide) ?_
    refine e_puti d_X1_deal_43 f_X1_38 H_de (Nat.le_of_ble_eq_true rfl) ?_
    refine e_iconst (v := 0) d_X1_deal_46 (by decide) ?_
    refine e_istore d_X1_deal_47 (by decide) rfl ?_
    have hA_49 : ∀ i, i ≤ (2 ^ N) → ∀ (k : AH) (F : Unit) (C : Unit) (X : Unit) (J : Unit) (w9 : Unit) (a9 : Unit) (D : Unit) (R : Unit) (y : Int32), (Fz [25, 26, 27, 28, 29, 30] h k) → (ChC k N ca co ha) → (TxC k tp nc kd cd many near) → (∃ nms, JuC k nms) → (Hs k 28 (aI 14 w)) → (Hs k 29 (aI 14 a)) → (Hs k 27 (oDe drow (nI (DL (fitB ca N nc kd cd many near) (ovN ca N nc kd cd) i).length) dtext)) → (∃ row, Hs k drow (aI drn row) ∧ RwL row (DL (fitB ca N nc kd cd many near) (ovN ca N nc kd cd) i)) → (y = nI i) → E M_X1_deal κ (rV (fun h' => (∃ nms', JuC h' nms') ∧ DeX h' dtext (max drn (2 ^ N)) (DLs ca N nc kd cd many near) ∧ Fz [25, 26, 27, 28, 29, 30] h h')) 49 (k) [some (.ref 27), some (.ref (42 + 4 * tp)), some (.ref 1), some (.ref 24), some (.int (nI (ovN ca N nc kd cd))), some (.int (nI (2 ^ N))), some (.int y)] [] := by
      refine loop_ind (n := (2 ^ N)) ?_
      intro i hi_i ih_49 k F C X J w9 a9 D R y h_F h_C h_X h_J h_w9 h_a9 h_D h_R h_y
      subst h_y
      have hC9 := h_C
      obtain ⟨-, -, sexes, wits, homes, works, H_ch, H_sx, H_wt, H_hm, H_wk, hc4⟩ := hC9
      have hX9 := h_X
      obtain ⟨-, tkinds, tedges, tcode, H_tx, -⟩ := hX9
      have H_de := h_D
      have H_dw := h_w9
      have H_da := h_a9
      obtain ⟨row, H_dr, h_R9⟩ := h_R
      have hlen := DL_len (fit := fitB ca N nc kd cd many near) (over := ovN ca N nc kd cd) i
      refine e_iload d_X1_deal_49 rfl ?_
      refine e_iload d_X1_deal_51 rfl ?_
      refine e_icmp_ge d_X1_deal_53 (fun c => ?_) (fun c => ?_)
      · have c := i_le (by omega) (by omega) c
        obtain rfl : (2 ^ N) = i := by omega
        exact e_vret d_X1_deal_111 rfl (⟨rfl, h_J, (by rw [show max drn (2 ^ N) = drn from Nat.max_eq_left hb]; exact ⟨_, row, w, a, h_D, h_w9, h_a9, H_dr, hdr, Nat.le_trans hlen hb, Nat.le_trans hlen hp, hdrn, h_R9, fun x hx => by have := DL_lt x hx; omega⟩), h_F⟩)
      · have c := i_nle (by omega) (by omega) c
        refine e_aloadn d_X1_deal_56 rfl ?_
        refine e_iload d_X1_deal_57 rfl ?_
        refine e_aloadn d_X1_deal_59 rfl ?_
        refine e_aloadn d_X1_deal_60 rfl ?_
        refine e_callVI d_X1_deal_61 l_X1_deal_39 H_de rfl rfl (s_X1_fits h_C H_tx H_de H_dw H_da (by omega) hwa) rfl rfl (Nat.le_of_ble_eq_true rfl) ?_
        refine e_if_eq d_X1_deal_64 (fun c_64 => ?_) (fun c_64 => ?_)
        · have hf : fitB ca N nc kd cd many near i = false := Bool.eq_false_iff.mpr (bI_0.mp c_64)
          refine e_iincw (w := 1) d_X1_deal_105 rfl (by decide) (by decide) rfl ?_
          refine e_gt d_X1_deal_108 ?_
          refine ih_49 (i + 1) (by omega) (by omega) _ () () () () () () () () _ ?_ ?_ ?_ ?_ ?_ ?_ ?_ ?_ ?_
          · first
            | exact h_F
            | exact (h_F.up (by simp; omega)).up (by decide)
          · first
            | exact h_C
            | exact ChC.fz h_C (((Fz.refl [27, 30] k).up (by simp; omega)).up (by decide)) (by decide)
          · first
            | exact h_X
            | exact TxC.fz h_X (((Fz.refl [27, 30] k).up (by simp; omega)).up (by decide)) ⟨by simp, htp⟩
          · first
            | exact h_J
            | exact h_J.elim fun nms q => ⟨nms, JuC.fz q (((Fz.refl [27, 30] k).up (by simp; omega)).up (by decide)) (by decide)⟩
          · first
            | exact h_w9
            | exact (Hs.n (Hs.n h_w9 (by omega)) (by decide))
          · first
            | exact h_a9
            | exact (Hs.n (Hs.n h_a9 (by omega)) (by decide))
          · first
            | (rw [DL_f hf]; exact h_D)
            | (rw [DL_t hf, List.length_append, List.length_singleton, ← nI_1]; exact Hs.s (Hs.n H_de (by omega)))
          · first
            | (rw [DL_f hf]; exact ⟨row, H_dr, h_R9⟩)
            | (rw [DL_t hf]; exact ⟨_, Hs.n (Hs.s H_dr) (by omega), h_R9.push rfl⟩)
          · exact nI_1 i
        · have hf : fitB ca N nc kd cd many near i = true := bI_1.mp (bI_z.resolve_left c_64)
          refine e_aloadn d_X1_deal_67 rfl ?_
          refine e_get d_X1_deal_68 f_X1_38 H_de rfl ?_
          refine e_aloadn d_X1_deal_71 rfl ?_
          refine e_get d_X1_deal_72 f_X1_18 H_de rfl ?_
          refine e_alenI d_X1_deal_75 H_dr ?_
          refine e_icmp_ge d_X1_deal_76 (fun z => by first | exact absurd (fun z => absurd (i_le (by omega) (by omega) z) (by omega)) z | exact absurd z (fun z => absurd (i_le (by omega) (by omega) z) (by omega))) (fun _ => ?_)
          refine e_aloadn d_X1_deal_79 rfl ?_
          refine e_get d_X1_deal_80 f_X1_18 H_de rfl ?_
          refine e_aloadn d_X1_deal_83 rfl ?_
          refine e_get d_X1_deal_84 f_X1_38 H_de rfl ?_
          refine e_iload d_X1_deal_87 rfl ?_
          refine e_iload d_X1_deal_89 rfl ?_
          refine e_iconst (v := -1) d_X1_deal_91 (by decide) ?_
          refine e_ixor d_X1_deal_92 ?_
          refine e_iand d_X1_deal_93 ?_
          rw [nI_sdx]
          refine e_iastN (k := (DL (fitB ca N nc kd cd many near) (ovN ca N nc kd cd) i).length) d_X1_deal_94 H_dr rfl (by omega) (by omega) ?_
          refine e_aloadn d_X1_deal_95 rfl ?_
          refine e_dup d_X1_deal_96 rfl ?_
          refine e_get d_X1_deal_97 f_X1_38 (H_de.n (by omega)) rfl ?_
          refine e_iconst (v := 1) d_X1_deal_100 (by decide) ?_
          refine e_iadd d_X1_deal_101 ?_
          refine e_puti d_X1_deal_102 f_X1_38 (H_de.n (by omega)) (Nat.le_of_ble_eq_true rfl) ?_
          refine e_iincw (w := 1) d_X1_deal_105 rfl (by decide) (by decide) rfl ?_
          refine e_gt d_X1_deal_108 ?_
          refine ih_49 (i + 1) (by omega) (by omega) _ () () () () () () () () _ ?_ ?_ ?_ ?_ ?_ ?_ ?_ ?_ ?_
          · first
            | exact h_F
            | exact (h_F.up (by simp; omega)).up (by decide)
          · first
            | exact h_C
            | exact ChC.fz h_C (((Fz.refl [27, 30] k).up (by simp; omega)).up (by decide)) (by decide)
          · first
            | exact h_X
            | exact TxC.fz h_X (((Fz.refl [27, 30] k).up (by simp; omega)).up (by decide)) ⟨by simp, htp⟩
          · first
            | exact h_J
            | exact h_J.elim fun nms q => ⟨nms, JuC.fz q (((Fz.refl [27, 30] k).up (by simp; omega)).up (by decide)) (by decide)⟩
          · first
            | exact h_w9
            | exact (Hs.n (Hs.n h_w9 (by omega)) (by decide))
          · first
            | exact h_a9
            | exact (Hs.n (Hs.n h_a9 (by omega)) (by decide))
          · first
            | (rw [DL_f hf]; exact h_D)
            | (rw [DL_t hf, List.length_append, List.length_singleton, ← nI_1]; exact Hs.s (Hs.n H_de (by omega)))
          · first
            | (rw [DL_f hf]; exact ⟨row, H_dr, h_R9⟩)
            | (rw [DL_t hf]; exact ⟨_, Hs.n (Hs.s H_dr) (by omega), h_R9.push rfl⟩)
          · exact nI_1 i
    exact hA_49 0 (by omega) _ () () () () () () () () _ (fz10.up (by decide)) (ChC.fz (ChC.fz hC fz10 (by decide)) ((Fz.refl [27] h_10).up (by decide)) (by decide)) (TxC.fz (TxC.fz hT fz10 ⟨by decide, htp⟩) ((Fz.refl [27] h_10).up (by decide)) ⟨by decide, htp⟩) (⟨_, JuC.fz hJ10 ((Fz.refl [27] h_10).up (by decide)) (by decide)⟩) ((H_dw.n (by decide))) ((H_da.n (by decide))) (H_de.s) (⟨_, (H_dr.n (by omega)), fun j v hj => by simp [DL] at hj⟩) (rfl)
  · refine e_aloadn d_X1_deal_23 rfl ?_
    refine e_get d_X1_deal_24 f_X1_18 H_de rfl ?_
    refine e_alenI d_X1_deal_27 H_dr ?_
    refine e_iload d_X1_deal_28 rfl ?_
    obtain ⟨hk1, hk2⟩ := hκ (by omega)
    refine e_icmp_ge d_X1_deal_30 (fun z => by first | exact absurd (fun z => hb (i_le (by omega) (by omega) z)) z | exact absurd z (fun z => hb (i_le (by omega) (by omega) z))) (fun _ => ?_)
    refine e_aloadn d_X1_deal_33 rfl ?_
    refine e_iload d_X1_deal_34 rfl ?_
    refine e_newI (κ' := (κ.1 - 1, κ.2 - 2 ^ N)) (N := 2 ^ N) d_X1_deal_36 rfl (by omega) (by dsimp only; omega) (by dsimp only; omega) ?_
    refine e_puta d_X1_deal_38 f_X1_18 H_de.p (Nat.le_of_ble_eq_true rfl) ?_
    refine e_aloadn d_X1_deal_41 rfl ?_
    refine e_iconst (v := 0) d_X1_deal_42 (by decide) ?_
    refine e_puti d_X1_deal_43 f_X1_38 H_de.p.s (Nat.le_of_ble_eq_true rfl) ?_
    refine e_iconst (v := 0) d_X1_deal_46 (by decide) ?_
    refine e_istore d_X1_deal_47 (by decide) rfl ?_
    have hA_49 : ∀ i, i ≤ (2 ^ N) → ∀ (k : AH) (F : Unit) (C : Unit) (X : Unit) (J : Unit) (w9 : Unit) (a9 : Unit) (D : Unit) (R : Unit) (y : Int32), (Fz [25, 26, 27, 28, 29, 30] h k) → (ChC k N ca co ha) → (TxC k tp nc kd cd many near) → (∃ nms, JuC k nms) → (Hs k 28 (aI 14 w)) → (Hs k 29 (aI 14 a)) → (Hs k 27 (oDe h_10.2.1 (nI (DL (fitB ca N nc kd cd many near) (ovN ca N nc kd cd) i).length) dtext)) → (∃ row, Hs k h_10.2.1 (aI (2 ^ N) row) ∧ RwL row (DL (fitB ca N nc kd cd many near) (ovN ca N nc kd cd) i)) → (y = nI i) → E M_X1_deal (κ.1 - 1, κ.2 - 2 ^ N) (rV (fun h' => (∃ nms', JuC h' nms') ∧ DeX h' dtext (max drn (2 ^ N)) (DLs ca N nc kd cd many near) ∧ Fz [25, 26, 27, 28, 29, 30] h h')) 49 (k) [some (.ref 27), some (.ref (42 + 4 * tp)), some (.ref 1), some (.ref 24), some (.int (nI (ovN ca N nc kd cd))), some (.int (nI (2 ^ N))), some (.int y)] [] := by
      refine loop_ind (n := (2 ^ N)) ?_
      intro i hi_i ih_49 k F C X J w9 a9 D R y h_F h_C h_X h_J h_w9 h_a9 h_D h_R h_y
      subst h_y
      have hC9 := h_C
      obtain ⟨-, -, sexes, wits, homes, works, H_ch, H_sx, H_wt, H_hm, H_wk, hc4⟩ := hC9
      have hX9 := h_X
      obtain ⟨-, tkinds, tedges, tcode, H_tx, -⟩ := hX9
      have H_de := h_D
      have H_dw := h_w9
      have H_da := h_a9
      obtain ⟨row, H_dr, h_R9⟩ := h_R
      have hlen := DL_len (fit := fitB ca N nc kd cd many near) (over := ovN ca N nc kd cd) i
      refine e_iload d_X1_deal_49 rfl ?_
      refine e_iload d_X1_deal_51 rfl ?_
      refine e_icmp_ge d_X1_deal_53 (fun c => ?_) (fun c => ?_)
      · have c := i_le (by omega) (by omega) c
        obtain rfl : (2 ^ N) = i := by omega
        exact e_vret d_X1_deal_111 rfl (⟨rfl, h_J, (by rw [show max drn (2 ^ N) = 2 ^ N from Nat.max_eq_right (by omega)]; exact ⟨_, row, w, a, h_D, h_w9, h_a9, H_dr, Or.inr hs10, hlen, Nat.le_trans hlen hp, hp, h_R9, fun x hx => by have := DL_lt x hx; omega⟩), h_F⟩)
      · have c := i_nle (by omega) (by omega) c
        refine e_aloadn d_X1_deal_56 rfl ?_
        refine e_iload d_X1_deal_57 rfl ?_
        refine e_aloadn d_X1_deal_59 rfl ?_
        refine e_aloadn d_X1_deal_60 rfl ?_
        refine e_callVI d_X1_deal_61 l_X1_deal_39 H_de rfl rfl (s_X1_fits h_C H_tx H_de H_dw H_da (by omega) hwa) rfl rfl (Nat.le_of_ble_eq_true rfl) ?_
        refine e_if_eq d_X1_deal_64 (fun c_64 => ?_) (fun c_64 => ?_)
        · have hf : fitB ca N nc kd cd many near i = false := Bool.eq_false_iff.mpr (bI_0.mp c_64)
          refine e_iincw (w := 1) d_X1_deal_105 rfl (by decide) (by decide) rfl ?_
          refine e_gt d_X1_deal_108 ?_
          refine ih_49 (i + 1) (by omega) (by omega) _ () () () () () () () () _ ?_ ?_ ?_ ?_ ?_ ?_ ?_ ?_ ?_
          · first
            | exact h_F
            | exact (h_F.up (by simp; omega)).up (by decide)
          · first
            | exact h_C
            | exact ChC.fz h_C (((Fz.refl [27, 30] k).up (by simp; omega)).up (by decide)) (by decide)
          · first
            | exact h_X
            | exact TxC.fz h_X (((Fz.refl [27, 30] k).up (by simp; omega)).up (by decide)) ⟨by simp, htp⟩
          · first
            | exact h_J
            | exact h_J.elim fun nms q => ⟨nms, JuC.fz q (((Fz.refl [27, 30] k).up (by simp; omega)).up (by decide)) (by decide)⟩
          · first
            | exact h_w9
            | exact (Hs.n (Hs.n h_w9 (by omega)) (by decide))
          · first
            | exact h_a9
            | exact (Hs.n (Hs.n h_a9 (by omega)) (by decide))
          · first
            | (rw [DL_f hf]; exact h_D)
            | (rw [DL_t hf, List.length_append, List.length_singleton, ← nI_1]; exact Hs.s (Hs.n H_de (by omega)))
          · first
            | (rw [DL_f hf]; exact ⟨row, H_dr, h_R9⟩)
            | (rw [DL_t hf]; exact ⟨_, Hs.n (Hs.s H_dr) (by omega), h_R9.push rfl⟩)
          · exact nI_1 i
        · have hf : fitB ca N nc kd cd many near i = true := bI_1.mp (bI_z.resolve_left c_64)
          refine e_aloadn d_X1_deal_67 rfl ?_
          refine e_get d_X1_deal_68 f_X1_38 H_de rfl ?_
          refine e_aloadn d_X1_deal_71 rfl ?_
          refine e_get d_X1_deal_72 f_X1_18 H_de rfl ?_
          refine e_alenI d_X1_deal_75 H_dr ?_
          refine e_icmp_ge d_X1_deal_76 (fun z => by first | exact absurd (fun z => absurd (i_le (by omega) (by omega) z) (by omega)) z | exact absurd z (fun z => absurd (i_le (by omega) (by omega) z) (by omega))) (fun _ => ?_)
          refine e_aloadn d_X1_deal_79 rfl ?_
          refine e_get d_X1_deal_80 f_X1_18 H_de rfl ?_
          refine e_aloadn d_X1_deal_83 rfl ?_
          refine e_get d_X1_deal_84 f_X1_38 H_de rfl ?_
          refine e_iload d_X1_deal_87 rfl ?_
          refine e_iload d_X1_deal_89 rfl ?_
          refine e_iconst (v := -1) d_X1_deal_91 (by decide) ?_
          refine e_ixor d_X1_deal_92 ?_
          refine e_iand d_X1_deal_93 ?_
          rw [nI_sdx]
          refine e_iastN (k := (DL (fitB ca N nc kd cd many near) (ovN ca N nc kd cd) i).length) d_X1_deal_94 H_dr rfl (by omega) (by omega) ?_
          refine e_aloadn d_X1_deal_95 rfl ?_
          refine e_dup d_X1_deal_96 rfl ?_
          refine e_get d_X1_deal_97 f_X1_38 (H_de.n (by omega)) rfl ?_
          refine e_iconst (v := 1) d_X1_deal_100 (by decide) ?_
          refine e_iadd d_X1_deal_101 ?_
          refine e_puti d_X1_deal_102 f_X1_38 (H_de.n (by omega)) (Nat.le_of_ble_eq_true rfl) ?_
          refine e_iincw (w := 1) d_X1_deal_105 rfl (by decide) (by decide) rfl ?_
          refine e_gt d_X1_deal_108 ?_
          refine ih_49 (i + 1) (by omega) (by omega) _ () () () () () () () () _ ?_ ?_ ?_ ?_ ?_ ?_ ?_ ?_ ?_
          · first
            | exact h_F
            | exact (h_F.up (by simp; omega)).up (by decide)
          · first
            | exact h_C
            | exact ChC.fz h_C (((Fz.refl [27, 30] k).up (by simp; omega)).up (by decide)) (by decide)
          · first
            | exact h_X
            | exact TxC.fz h_X (((Fz.refl [27, 30] k).up (by simp; omega)).up (by decide)) ⟨by simp, htp⟩
          · first
            | exact h_J
            | exact h_J.elim fun nms q => ⟨nms, JuC.fz q (((Fz.refl [27, 30] k).up (by simp; omega)).up (by decide)) (by decide)⟩
          · first
            | exact h_w9
            | exact (Hs.n (Hs.n h_w9 (by omega)) (by decide))
          · first
            | exact h_a9
            | exact (Hs.n (Hs.n h_a9 (by omega)) (by decide))
          · first
            | (rw [DL_f hf]; exact h_D)
            | (rw [DL_t hf, List.length_append, List.length_singleton, ← nI_1]; exact Hs.s (Hs.n H_de (by omega)))
          · first
            | (rw [DL_f hf]; exact ⟨row, H_dr, h_R9⟩)
            | (rw [DL_t hf]; exact ⟨_, Hs.n (Hs.s H_dr) (by omega), h_R9.push rfl⟩)
          · exact nI_1 i
    exact hA_49 0 (by omega) _ () () () () () () () () _ (((fz10.pu).up (by decide)).up (by decide)) (ChC.fz (ChC.fz hC fz10 (by decide)) (((Fz.pu (Fz.refl [27] h_10)).up (by decide)).up (by decide)) (by decide)) (TxC.fz (TxC.fz hT fz10 ⟨by decide, htp⟩) (((Fz.pu (Fz.refl [27] h_10)).up (by decide)).up (by decide)) ⟨by decide, htp⟩) (⟨_, JuC.fz hJ10 (((Fz.pu (Fz.refl [27] h_10)).up (by decide)).up (by decide)) (by decide)⟩) (((H_dw.p.n (by decide)).n (by decide))) (((H_da.p.n (by decide)).n (by decide))) (H_de.p.s.s) (⟨_, (((Hs.new _ _).n (by omega)).n (by omega)), fun j v hj => by simp [DL] at hj⟩) (rfl)

theorem s_X10_deal {h : AH} {κ : Nat × Nat} {tp nc : Nat} {kd : Nat → Nat} {cd : Nat → List Nat} {many near : Int32} {nms : Nat → Int32} {N : Nat} {ca : Nat → Nat → Nat} {co ha : Int32} {tc tl lf lp cost dtext : Int32} {texts : Nat → Option Nat} {drn : Nat} {L0 : List Nat} (H_mc : Hs h 0 (oMC tc tl lf lp cost)) (H_txs : Hs h 20 (aT 6 texts)) (htx : ∀ t, t < 6 → texts t = some (42 + 4 * t)) (hC : ChC h N ca co ha) (hT : TxC h tp nc kd cd many near) (hJ : JuC h nms) (hok : okT nc kd cd) (hD : DeX h dtext drn L0) (hL0 : dtext = nI tp → L0 = (DLs ca N nc kd cd many near)) (htp : tp < 6) (hsz : 92 < h.2.1) (hκ : ¬ dtext = nI tp → drn < 2 ^ N → 1 ≤ κ.1 ∧ 2 ^ N ≤ κ.2) : Sp M_X10_deal κ h [.ref 0, .int (nI tp)] (rV (fun h' => (∃ nms', JuC h' nms') ∧ DeX h' (nI tp) (if dtext = nI tp then drn else max drn (2 ^ N)) (DLs ca N nc kd cd many near) ∧ Fz [25, 26, 27, 28, 29, 30] h h')) := by
  refine ⟨Nat.le_of_ble_eq_true rfl, ?_⟩
  show E _ _ _ 0 h [some (.ref 0), some (.int (nI tp))] []
  obtain ⟨drow, row0, w0, a0, H_de, -⟩ := id hD
  obtain ⟨-, -, sexes, wits, homes, works, H_ch, -⟩ := id hC
  obtain ⟨-, tkinds, tedges, tcode, H_tx, -⟩ := id hT
  have H_ju := hJ.1
  refine e_aloadn d_X10_deal_0 rfl ?_
  refine e_get d_X10_deal_1 f_X10_74 H_mc rfl ?_
  refine e_get d_X10_deal_4 f_X10_310 H_de rfl ?_
  refine e_iloadn d_X10_deal_7 rfl ?_
  refine e_icmp_eq d_X10_deal_8 (fun c_8 => ?_) (fun c_8 => ?_)
  · have e0 := c_8
    exact e_vret d_X10_deal_40 rfl (⟨rfl, ⟨_, hJ⟩, by subst c_8; rw [if_pos rfl, ← hL0 rfl]; exact hD, Fz.refl _ _⟩)
  · refine e_aloadn d_X10_deal_11 rfl ?_
    refine e_get d_X10_deal_12 f_X10_74 H_mc rfl ?_
    refine e_aloadn d_X10_deal_15 rfl ?_
    refine e_get d_X10_deal_16 f_X10_39 H_mc rfl ?_
    refine e_iloadn d_X10_deal_19 rfl ?_
    refine e_taldN (k := tp) d_X10_deal_20 H_txs rfl (by omega) (by omega) ?_
    rw [htx tp htp]
    refine e_aloadn d_X10_deal_21 rfl ?_
    refine e_get d_X10_deal_22 f_X10_10 H_mc rfl ?_
    refine e_aloadn d_X10_deal_25 rfl ?_
    refine e_get d_X10_deal_26 f_X10_67 H_mc rfl ?_
    refine e_callKVV d_X10_deal_29 l_X10_deal_313 H_de rfl rfl (s_X1_deal hC hT hJ hok hD htp hsz (hκ c_8)) rfl rfl (Nat.le_of_ble_eq_true rfl) (fun h_29 q_29 s_29 => ?_)
    obtain ⟨hJ9, hD9, fz9⟩ := q_29
    have H_mc := fz9.hs H_mc (by decide)
    obtain ⟨drow9, row9, w9, a9, H_de, H_dw, H_da, H_dr, hD9⟩ := hD9
    refine e_aloadn d_X10_deal_32 rfl ?_
    refine e_get d_X10_deal_33 f_X10_74 H_mc rfl ?_
    refine e_iloadn d_X10_deal_36 rfl ?_
    refine e_puti d_X10_deal_37 f_X10_310 H_de (Nat.le_of_ble_eq_true rfl) ?_
    exact e_vret d_X10_deal_40 rfl (⟨rfl, hJ9.elim fun nm9 q => ⟨nm9, JuC.fz q ((Fz.refl [27] h_29).up (by decide)) (by decide)⟩, by rw [if_neg c_8]; exact ⟨drow9, row9, w9, a9, H_de.s, H_dw.n (by decide), H_da.n (by decide), H_dr.n (by omega), hD9⟩, fz9.up (by decide)⟩)

theorem s_X10_thousandths {h : AH} {tc tl lf lp cost co : Int32} {less ans : Nat → Int32} {T N S0 n : Nat} (H_mc : Hs h 0 (oMC tc tl lf lp cost)) (H_ch : Hs h 1 (oCh (nI N) co (nI S0))) (H_th : Hs h 6 (oTh (nI n))) (H_tl_ : Hs h 9 (aZ 12 less)) (H_an : Hs h 11 (aI 168 ans)) (hTa : TaOK h) (hT : T < n) (hN : N ≤ 14) (hn : n ≤ 12) (hS0 : S0 < 16384) (hV : ∀ c, c < 14 → ans (T * 14 + c) = -1 ∨ ∃ v, v ≤ 99 ∧ ans (T * 14 + c) = nI v) : Sp M_X10_thousandths (0, 0) h [.ref 0, .int (nI T)] (rI (fun x h' => x = Int32.ofInt (thC ans less (2 ^ N - 1) T S0) ∧ TaOK h' ∧ Fr [31, 32, 33, 34] h h')) := by
  refine ⟨Nat.le_of_ble_eq_true rfl, ?_⟩
  show E _ _ _ 0 h [some (.ref 0), some (.int (nI T)), none] []
  obtain ⟨wta, q1, q2, q3, H_ta, H_al, H_ah, H_am, h_l, h_h⟩ := hTa
  have hA2 : 2 ^ N - 1 < 2 ^ 31 := by have := Nat.pow_le_pow_right (n := 2) (by decide) hN; omega
  refine e_aloadn d_X10_thousandths_0 rfl ?_
  refine e_get d_X10_thousandths_1 f_X10_81 H_mc rfl ?_
  refine e_aloadn d_X10_thousandths_4 rfl ?_
  refine e_get d_X10_thousandths_5 f_X10_19 H_mc rfl ?_
  refine e_iloadn d_X10_thousandths_8 rfl ?_
  refine e_aloadn d_X10_thousandths_9 rfl ?_
  refine e_get d_X10_thousandths_10 f_X10_10 H_mc rfl ?_
  refine e_callVI d_X10_thousandths_13 l_X10_thousandths_134 H_ch rfl rfl (s_X0_all2 H_ch ) rfl rfl (Nat.le_of_ble_eq_true rfl) ?_
  rw [al_14 N hN]
  refine e_callRVV d_X10_thousandths_16 l_X10_thousandths_142 H_ta rfl rfl (s_X7_load_a H_th H_tl_ H_an H_ta H_al H_ah h_l h_h hT hn hA2 hV) rfl rfl (Nat.le_of_ble_eq_true rfl) (fun h1 q1 s1 => ?_)
  obtain ⟨g1, g2, rfl, hTB⟩ := q1
  refine e_aloadn d_X10_thousandths_19 rfl ?_
  refine e_get d_X10_thousandths_20 f_X10_81 (((H_mc.n (by decide)).n (by decide)).n (by decide)) rfl ?_
  refine e_aloadn d_X10_thousandths_23 rfl ?_
  refine e_get d_X10_thousandths_24 f_X10_10 (((H_mc.n (by decide)).n (by decide)).n (by decide)) rfl ?_
  refine e_get d_X10_thousandths_27 f_X10_117 (((H_ch.n (by decide)).n (by decide)).n (by decide)) rfl ?_
  refine e_callVI d_X10_thousandths_30 l_X10_thousandths_146 (((H_ta.n (by decide)).n (by decide)).s) rfl rfl (s_X7_lower_a (((H_ta.n (by decide)).n (by decide)).s) ((H_al.s.n (by decide)).n (by decide)) (((H_ah.n (by decide)).s).n (by decide)) hTB hS0 hV) rfl rfl (Nat.le_of_ble_eq_true rfl) ?_
  refine e_istoren d_X10_thousandths_33 (by decide) rfl ?_
  refine e_iloadn d_X10_thousandths_34 rfl ?_
  have hbU := dU_bnd (F := (cF ans T (2 ^ N - 1))) (V := cV ans less T) (S := S0) (k := 14) (by decide) (cV_99 hV)
  have hbL := dNM_mul (F := (cF ans T (2 ^ N - 1))) (S := S0) (k := 14) (by decide)
  refine e_if_ne d_X10_thousandths_35 (fun c_35 => ?_) (fun c_35 => ?_)
  · have hz : ¬ dN (cF ans T (2 ^ N - 1)) S0 14 * dM (cF ans T (2 ^ N - 1)) S0 14 = 0 := fun z => c_35 (by rw [z]; rfl)
    refine e_aloadn d_X10_thousandths_43 rfl ?_
    refine e_get d_X10_thousandths_44 f_X10_81 (((H_mc.n (by decide)).n (by decide)).n (by decide)) rfl ?_
    refine e_aloadn d_X10_thousandths_47 rfl ?_
    refine e_get d_X10_thousandths_48 f_X10_10 (((H_mc.n (by decide)).n (by decide)).n (by decide)) rfl ?_
    refine e_get d_X10_thousandths_51 f_X10_117 (((H_ch.n (by decide)).n (by decide)).n (by decide)) rfl ?_
    refine e_callVI d_X10_thousandths_54 l_X10_thousandths_149 (((H_ta.n (by decide)).n (by decide)).s) rfl rfl (s_X7_upper_a (((H_ta.n (by decide)).n (by decide)).s) ((H_al.s.n (by decide)).n (by decide)) (((H_ah.n (by decide)).s).n (by decide)) hTB hS0 hV) rfl rfl (Nat.le_of_ble_eq_true rfl) ?_
    refine e_sipush (v := 1000) d_X10_thousandths_57 (by decide) ?_
    refine e_imul d_X10_thousandths_60 ?_
    refine e_iloadn d_X10_thousandths_61 rfl ?_
    refine e_idiv d_X10_thousandths_62 (fun z => hz ((nI_eq (b := 0) (by omega) (by decide)).mp z)) ?_
    exact e_iret d_X10_thousandths_63 rfl (rfl) (⟨_, rfl, by first | (rw [thC, if_neg hz, ← i32_div (by omega) (by omega), Int32.ofInt_mul]; rfl) | (rw [thC, if_pos hz]; rfl), ⟨_, g1, g2, q3, (((H_ta.n (by decide)).n (by decide)).s), ((H_al.s.n (by decide)).n (by decide)), (((H_ah.n (by decide)).s).n (by decide)), (((H_am.n (by decide)).n (by decide)).n (by decide)), (TB_0 hTB).1, (TB_0 hTB).2⟩, (((Fr.refl _ _).up (by decide)).up (by decide)).up (by decide)⟩)
  · have hz : dN (cF ans T (2 ^ N - 1)) S0 14 * dM (cF ans T (2 ^ N - 1)) S0 14 = 0 := (nI_eq (b := 0) (by omega) (by decide)).mp c_35
    refine e_ldc d_X10_thousandths_38 v_X10_133 ?_
    refine e_gt d_X10_thousandths_40 ?_
    exact e_iret d_X10_thousandths_63 rfl (rfl) (⟨_, rfl, by first | (rw [thC, if_neg hz, ← i32_div (by omega) (by omega), Int32.ofInt_mul]; rfl) | (rw [thC, if_pos hz]; rfl), ⟨_, g1, g2, q3, (((H_ta.n (by decide)).n (by decide)).s), ((H_al.s.n (by decide)).n (by decide)), (((H_ah.n (by decide)).s).n (by decide)), (((H_am.n (by decide)).n (by decide)).n (by decide)), (TB_0 hTB).1, (TB_0 hTB).2⟩, (((Fr.refl _ _).up (by decide)).up (by decide)).up (by decide)⟩)

theorem gl_64 {n : Nat} (h : n ≤ 49) : (nI n).toInt64 = Int64.ofInt (n : Int) := i64_of32 (z := (n : Int)) (by omega) (by omega)
theorem abs_64 {x : Int} (h : -1000000000000000 ≤ x ∧ x ≤ 1000000000000000) : (if Int64.ofInt x < 0 then -(Int64.ofInt x) else Int64.ofInt x) = Int64.ofInt (x.natAbs : Int) := by
  have q : Int64.ofInt x < 0 ↔ x < 0 := i64_lt (a := x) (b := 0) h (by omega)
  by_cases hx : x < 0
  · rw [if_pos (q.mpr hx), ← Int64.ofInt_neg]; congr 1; omega
  · rw [if_neg (fun z => hx (q.mp z))]; congr 1; omega
theorem mul_in {a b : Int} (ha : -4851 ≤ a ∧ a ≤ 4851) (hb : 0 ≤ b ∧ b ≤ 49) : -237699 ≤ a * b ∧ a * b ≤ 237699 := by
  have h1 : a.natAbs * b.natAbs ≤ 4851 * 49 := Nat.mul_le_mul (by omega) (by omega)
  rw [← Int.natAbs_mul] at h1
  omega

theorem s_X10_gapUpper {h : AH} {tc tl lf lp cost : Int32} {g1 g2 k1 k2 ans less : Nat → Int32} {T A B S : Nat} (H_mc : Hs h 0 (oMC tc tl lf lp cost)) (H_ta : Hs h 31 (oTa 31 (nI (pS (own ans less T A) 14 16383)))) (H_al : Hs h 32 (aI 128 g1)) (H_ah : Hs h 33 (aI 128 g2)) (hTA : TB g1 g2 (own ans less T A)) (H_tb : Hs h 35 (oTa 35 (nI (pS (own ans less T B) 14 16383)))) (H_bl : Hs h 36 (aI 128 k1)) (H_bh : Hs h 37 (aI 128 k2)) (hTB : TB k1 k2 (own ans less T B)) (hS : S < 16384) (hV : ∀ c, c < 14 → ans (T * 14 + c) = -1 ∨ ∃ v, v ≤ 99 ∧ ans (T * 14 + c) = nI v) : Sp M_X10_gapUpper (0, 0) h [.ref 0, .int (nI S)] (pJ (Int64.ofInt (((dU (cF ans T A) (cV ans less T) S 14) * ((dN (cF ans T B) S 14 * dM (cF ans T B) S 14 : Nat) : Int) - (dU (cF ans T B) (cV ans less T) S 14) * ((dN (cF ans T A) S 14 * dM (cF ans T A) S 14 : Nat) : Int)).natAbs : Int)) h) := by
  refine ⟨Nat.le_of_ble_eq_true rfl, ?_⟩
  show E _ _ _ 0 h [some (.ref 0), some (.int (nI S)), none, none, none, none] []
  have hUa := dU_bnd (F := cF ans T A) (V := cV ans less T) (S := S) (k := 14) (by decide) (cV_99 hV)
  have hLa := dNM_mul (F := cF ans T A) (S := S) (k := 14) (by decide)
  have hUb := dU_bnd (F := cF ans T B) (V := cV ans less T) (S := S) (k := 14) (by decide) (cV_99 hV)
  have hLb := dNM_mul (F := cF ans T B) (S := S) (k := 14) (by decide)
  have hab := mul_in hUa (b := ((dN (cF ans T B) S 14 * dM (cF ans T B) S 14 : Nat) : Int)) (by omega)
  have hba := mul_in hUb (b := ((dN (cF ans T A) S 14 * dM (cF ans T A) S 14 : Nat) : Int)) (by omega)
  refine e_aloadn d_X10_gapUpper_0 rfl ?_
  refine e_get d_X10_gapUpper_1 f_X10_81 H_mc rfl ?_
  refine e_iloadn d_X10_gapUpper_4 rfl ?_
  refine e_callVI d_X10_gapUpper_5 l_X10_gapUpper_149 H_ta rfl rfl (s_X7_upper_a H_ta H_al H_ah hTA hS hV) rfl rfl (Nat.le_of_ble_eq_true rfl) ?_
  refine e_i2l d_X10_gapUpper_8 ?_
  refine e_aloadn d_X10_gapUpper_9 rfl ?_
  refine e_get d_X10_gapUpper_10 f_X10_85 H_mc rfl ?_
  refine e_iloadn d_X10_gapUpper_13 rfl ?_
  refine e_callVI d_X10_gapUpper_14 l_X10_gapUpper_146 H_tb rfl rfl (s_X7_lower_b H_tb H_bl H_bh hTB hS hV) rfl rfl (Nat.le_of_ble_eq_true rfl) ?_
  refine e_i2l d_X10_gapUpper_17 ?_
  refine e_lmul d_X10_gapUpper_18 ?_
  rw [i64_of32 (by omega) (by omega), gl_64 (by omega), ← Int64.ofInt_mul]
  refine e_lstoren d_X10_gapUpper_19 (by decide) rfl ?_
  refine e_aloadn d_X10_gapUpper_20 rfl ?_
  refine e_get d_X10_gapUpper_21 f_X10_85 H_mc rfl ?_
  refine e_iloadn d_X10_gapUpper_24 rfl ?_
  refine e_callVI d_X10_gapUpper_25 l_X10_gapUpper_149 H_tb rfl rfl (s_X7_upper_b H_tb H_bl H_bh hTB hS hV) rfl rfl (Nat.le_of_ble_eq_true rfl) ?_
  refine e_i2l d_X10_gapUpper_28 ?_
  refine e_aloadn d_X10_gapUpper_29 rfl ?_
  refine e_get d_X10_gapUpper_30 f_X10_81 H_mc rfl ?_
  refine e_iloadn d_X10_gapUpper_33 rfl ?_
  refine e_callVI d_X10_gapUpper_34 l_X10_gapUpper_146 H_ta rfl rfl (s_X7_lower_a H_ta H_al H_ah hTA hS hV) rfl rfl (Nat.le_of_ble_eq_true rfl) ?_
  refine e_i2l d_X10_gapUpper_37 ?_
  refine e_lmul d_X10_gapUpper_38 ?_
  rw [i64_of32 (by omega) (by omega), gl_64 (by omega), ← Int64.ofInt_mul]
  refine e_lstore d_X10_gapUpper_39 (by decide) rfl ?_
  refine e_lloadn d_X10_gapUpper_41 rfl ?_
  refine e_lload d_X10_gapUpper_42 rfl ?_
  refine e_lsub d_X10_gapUpper_44 ?_
  rw [← Int64.ofInt_sub]
  refine e_callSJ d_X10_gapUpper_45 l_X10_gapUpper_319 (s_J9_abs_067f4) rfl rfl (Nat.le_of_ble_eq_true rfl) ?_
  rw [abs_64 (by omega)]
  exact e_lret d_X10_gapUpper_48 rfl (⟨rfl, rfl⟩)

theorem s_X10_gapLower {h : AH} {tc tl lf lp cost : Int32} {g1 g2 k1 k2 ans less : Nat → Int32} {T A B S : Nat} (H_mc : Hs h 0 (oMC tc tl lf lp cost)) (H_ta : Hs h 31 (oTa 31 (nI (pS (own ans less T A) 14 16383)))) (H_al : Hs h 32 (aI 128 g1)) (H_ah : Hs h 33 (aI 128 g2)) (hTA : TB g1 g2 (own ans less T A)) (H_tb : Hs h 35 (oTa 35 (nI (pS (own ans less T B) 14 16383)))) (H_bl : Hs h 36 (aI 128 k1)) (H_bh : Hs h 37 (aI 128 k2)) (hTB : TB k1 k2 (own ans less T B)) (hS : S < 16384) (hV : ∀ c, c < 14 → ans (T * 14 + c) = -1 ∨ ∃ v, v ≤ 99 ∧ ans (T * 14 + c) = nI v) : Sp M_X10_gapLower (0, 0) h [.ref 0, .int (nI S)] (pJ (Int64.ofInt (((dN (cF ans T A) S 14 * dM (cF ans T A) S 14 : Nat) : Int) * ((dN (cF ans T B) S 14 * dM (cF ans T B) S 14 : Nat) : Int))) h) := by
  refine ⟨Nat.le_of_ble_eq_true rfl, ?_⟩
  show E _ _ _ 0 h [some (.ref 0), some (.int (nI S))] []
  have hUa := dU_bnd (F := cF ans T A) (V := cV ans less T) (S := S) (k := 14) (by decide) (cV_99 hV)
  have hLa := dNM_mul (F := cF ans T A) (S := S) (k := 14) (by decide)
  have hUb := dU_bnd (F := cF ans T B) (V := cV ans less T) (S := S) (k := 14) (by decide) (cV_99 hV)
  have hLb := dNM_mul (F := cF ans T B) (S := S) (k := 14) (by decide)
  have hab := mul_in hUa (b := ((dN (cF ans T B) S 14 * dM (cF ans T B) S 14 : Nat) : Int)) (by omega)
  have hba := mul_in hUb (b := ((dN (cF ans T A) S 14 * dM (cF ans T A) S 14 : Nat) : Int)) (by omega)
  refine e_aloadn d_X10_gapLower_0 rfl ?_
  refine e_get d_X10_gapLower_1 f_X10_81 H_mc rfl ?_
  refine e_iloadn d_X10_gapLower_4 rfl ?_
  refine e_callVI d_X10_gapLower_5 l_X10_gapLower_146 H_ta rfl rfl (s_X7_lower_a H_ta H_al H_ah hTA hS hV) rfl rfl (Nat.le_of_ble_eq_true rfl) ?_
  refine e_i2l d_X10_gapLower_8 ?_
  refine e_aloadn d_X10_gapLower_9 rfl ?_
  refine e_get d_X10_gapLower_10 f_X10_85 H_mc rfl ?_
  refine e_iloadn d_X10_gapLower_13 rfl ?_
  refine e_callVI d_X10_gapLower_14 l_X10_gapLower_146 H_tb rfl rfl (s_X7_lower_b H_tb H_bl H_bh hTB hS hV) rfl rfl (Nat.le_of_ble_eq_true rfl) ?_
  refine e_i2l d_X10_gapLower_17 ?_
  refine e_lmul d_X10_gapLower_18 ?_
  rw [gl_64 (by omega), gl_64 (by omega), ← Int64.ofInt_mul]
  exact e_lret d_X10_gapLower_19 rfl (⟨rfl, rfl⟩)
