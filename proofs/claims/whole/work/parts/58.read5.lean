/-! THE READER: a tape -/
theorem s_X6_takeOperator {h : AH} {t n tp nc : Nat} {G : LV} {kd : Nat → Nat} {cdc : Nat → List Nat} {my ne : Int32} {L : Nat} {at_ st : Int32} {c : List Nat} (hT : TxW h tp nc kd cdc my ne) (hR : RdW h tp L at_ st (nI t) 4 (kd (nc - 1)) false (cmB G) (List.replicate n 31 ++ flat G) (nO G + n) (nP G)) (hC : gC 2 G (kd (nc - 1)) c) (h0 : 0 < nc) (hto : tot cdc nc + (List.replicate n 31 ++ flat G).length ≤ 300) (ht : t < 20000) : Sp M_X6_takeOperator (0, 0) h [.ref 22] (rV (fun h' => RCq h' tp L at_ st (nI t) (gOperator t G nc kd (cdA cdc nc (List.replicate n 31)) my ne) ∧ Fr [22, 23, 42 + 4 * tp, 43 + 4 * tp, 44 + 4 * tp, 45 + 4 * tp] h h')) := by
  obtain ⟨h1, h2, h3, h4, h5, h6⟩ := hC
  obtain ⟨hI, hn⟩ : shI (kd (nc - 1)) G ∧ neg G = 0 := by
    rcases h6 with q | q | q
    · omega
    · exact q.2
    · omega
  match G, hI with
  | (f, w) :: r, hI =>
    have hf7 : f ≠ 7 := fun e => by subst e; simp [neg] at hn
    have hPO : ∀ G : LV, nP G ≤ nO G := by
      intro G
      induction G with
      | nil => exact Nat.le_refl _
      | cons p G ih =>
        obtain ⟨f, w⟩ := p
        simp only [nP, nO]
        by_cases e : f = 6
        · rw [if_pos e, if_pos (Or.inl e)]; omega
        · rw [if_neg e]; omega
    have hP9 := hPO ((f, w) :: r)
    rcases hI with ⟨rfl, hw, hr⟩ | ⟨q, -⟩ | ⟨hw, hS⟩
    · exact s_X6_takeOperator_6 hT hR hw hr h3 h0 hto (by omega) (by omega) ht
    · exact absurd q hf7
    · rcases hS with ⟨hk, rfl, rfl⟩ | ⟨hk, hf, hE⟩
      · exact s_X6_takeOperator_1 hT hR hw hk h3 h0 hto (by omega) ht
      · rcases hf with rfl | hf
        · exact s_X6_takeOperator_4 hT (by rw [cm_4 hE, nP_0 hE (by omega)] at hR; exact hR) hw hk hE h3 h0 hto (by omega) ht
        · exact s_X6_takeOperator_c hT (by rw [cm_c hf.1, nP_0 hE (by omega)] at hR; exact hR) hw hk hE hf h3 h0 hto (by omega) ht

/-- the reader at its end: what was read, or the fault -/
def RFin (h : AH) (tp : Nat) (r : Nat × Nat × PS) : Prop := (r.1 = 0 ∧ (∃ (a b c l m n o p d e f : Int32) (x : Value), Hs h 22 (oRe a b c (.ref 21) l m n o p d e f x 0 (-1))) ∧ (∃ wt : Nat → Int32, Hs h 23 (aI 32 wt)) ∧ TxW h tp r.2.2.2.2.1 r.2.2.2.2.2.1 r.2.2.2.2.2.2.1 r.2.2.2.2.2.2.2.1 r.2.2.2.2.2.2.2.2 ∧ ∃ a, gI r.2.2 a ∧ r.2.2.1 = 4) ∨ (r.1 ≠ 0 ∧ RdE h r.1 (nI r.2.1) ∧ TxB h tp)
theorem RC.next {h h' : AH} {tp L a s t a' : Nat} {st tk : Int32} {S : PS} (hC : RC h tp L (nI a) st tk S) (hf : ∃ (wt : Nat → Int32) (ws : List Nat) (op br sta kin : Nat) (sA cm : Bool), True) (F : Fr [22] h h') (g : ∀ (top op br sta kin sas cm : Int32), Hs h 22 (oRe top op br (.ref 21) (nI L) (nI a) st tk sta kin sas cm (.ref (42 + 4 * tp)) 0 (-1)) → Hs h' 22 (oRe top op br (.ref 21) (nI L) (nI a') (nI s) (nI t) sta kin sas cm (.ref (42 + 4 * tp)) 0 (-1))) : RC h' tp L (nI a') (nI s) (nI t) S := by
  obtain ⟨n, kin, op, br, cdc, sA, cm, ws, e, hT, ⟨wt, H_re, H_rw, hwl, hws⟩, h1, h2, h3⟩ := hC
  exact ⟨n, kin, op, br, cdc, sA, cm, ws, e, hT.fr F (by simp), ⟨wt, g _ _ _ _ _ _ _ H_re, F.hs H_rw (by simp), hwl, hws⟩, h1, h2, h3⟩
theorem RC.re {h : AH} {tp L : Nat} {at_ st tk : Int32} {S : PS} (hC : RC h tp L at_ st tk S) : ∃ (a b c d e f : Int32), Hs h 22 (oRe a b c (.ref 21) (nI L) at_ st tk (nI (stN S.1)) d e f (.ref (42 + 4 * tp)) 0 (-1)) := by
  obtain ⟨n, kin, op, br, cdc, sA, cm, ws, e, hT, ⟨wt, H_re, H_rw, hwl, hws⟩, h1, h2, h3⟩ := hC
  exact ⟨_, _, _, _, _, _, H_re⟩
