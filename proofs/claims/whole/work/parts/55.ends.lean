/-! THE READER: operands, operators -/
theorem RC_mk {h : AH} {tp L : Nat} {at_ st tk : Int32} {ph nc : Nat} {G : LV} {kd : Nat → Nat} {cdc : Nat → List Nat} {my ne : Int32} (hT : TxW h tp nc kd cdc my ne) (hph : ph ≤ 1) (hR : RdW h tp L at_ st tk (stN ph) (kd (nc - 1)) (decide (ph = 0)) (cmB G) (flat G) (nO G) (nP G)) : RCq h tp L at_ st tk (0, (ph, G, nc, kd, cdc, my, ne)) :=
  Or.inl ⟨rfl, 0, cdc, cdA_nil.symm, hT, fun _ => rfl, fun h9 => by have h9 : 3 ≤ ph := h9; omega, fun _ => hR⟩
theorem RC_mk4 {h : AH} {tp L : Nat} {at_ st tk : Int32} {nc kin op br : Nat} {sA cm : Bool} {ws : List Nat} {kd : Nat → Nat} {cdc : Nat → List Nat} {my ne : Int32} (hT : TxW h tp nc kd cdc my ne) (hR : RdW h tp L at_ st tk 0 kin sA cm ws op br) : RCq h tp L at_ st tk (0, (4, [], nc, kd, cdc, my, ne)) :=
  Or.inl ⟨rfl, 0, cdc, cdA_nil.symm, hT, fun _ => rfl, fun _ => ⟨_, hR.r, fun h9 => absurd h9 (by simp)⟩, fun h9 => absurd h9 (by simp)⟩
theorem RC_mk2 {h : AH} {tp L : Nat} {at_ st tk : Int32} {nc n : Nat} {G : LV} {kd : Nat → Nat} {cdc : Nat → List Nat} {my ne : Int32} (hT : TxW h tp nc kd cdc my ne) (hR : RdW h tp L at_ st tk 4 (kd (nc - 1)) false (cmB G) (List.replicate n 31 ++ flat G) (nO G + n) (nP G)) : RCq h tp L at_ st tk (0, (2, G, nc, kd, cdA cdc nc (List.replicate n 31), my, ne)) :=
  Or.inl ⟨rfl, n, cdc, rfl, hT, fun h9 => absurd rfl h9, fun h9 => absurd h9 (by simp), fun _ => hR⟩
theorem lft_cm {ph : Nat} {G : LV} : cmB (lft ph G) = cmB G := by
  unfold lft
  split
  · simp [cmB]
  · rfl
theorem opnd_one {h : AH} {tp L t ph nc : Nat} {at_ st : Int32} {G : LV} {kd : Nat → Nat} {cd : Nat → List Nat} {my ne : Int32} (hph : ph = 0 ∨ ph = 1) (hC : gC ph G (kd (nc - 1)) (cd (nc - 1))) (ht : (100 ≤ t ∧ ¬ 9999 < t - 100) ∨ (¬ 100 ≤ t ∧ t < 11 ∧ okN (kd (nc - 1)) t = true)) (hT : TxW h tp nc kd (cdA cd nc [t]) my ne) (hR : RdW h tp L at_ st (nI t) 4 (kd (nc - 1)) false (cmB G) (flat G) (nO G) (nP G)) : RCq h tp L at_ st (nI t) (gOperand t ph G nc kd cd my ne) := by
  have hg : gOperand t ph G nc kd cd my ne = (0, gOne t (lft ph G) nc kd cd my ne) := by
    unfold gOperand
    rcases ht with ⟨h1, h2⟩ | ⟨h1, h2, h3⟩
    · rw [if_pos h1, if_neg h2]
    · rw [if_neg h1, if_pos h2, if_pos h3]
  obtain ⟨g1, g2, g3, g4, g5⟩ := lft_ok hph hC
  obtain ⟨u1, u2, u3, u4, u5, u6, u7⟩ := unn_ok g1
  rw [hg]
  unfold gOne
  rw [show t :: List.replicate (neg (lft ph G)) 31 = [t] ++ List.replicate (neg (lft ph G)) 31 from rfl, ← cdA_app]
  refine RC_mk2 hT ?_
  rw [← u5, u4, u6, u7, g3, g4, g5, lft_cm]
  exact hR
theorem opnd_open {h : AH} {tp L t ph nc : Nat} {at_ st : Int32} {G : LV} {kd : Nat → Nat} {cd : Nat → List Nat} {my ne : Int32} (hph : ph = 0 ∨ ph = 1) (hC : gC ph G (kd (nc - 1)) (cd (nc - 1))) (ht : t = 32 ∨ t = 28) (h8 : nO G < 8) (hT : TxW h tp nc kd cd my ne) (hR : RdW h tp L at_ st (nI t) 3 (kd (nc - 1)) false (cmB G) ((if t = 28 then 31 else t) :: flat G) (nO G + 1) (nP G + (if t = 32 then 1 else 0))) : RCq h tp L at_ st (nI t) (gOperand t ph G nc kd cd my ne) := by
  obtain ⟨g1, g2, g3, g4, g5⟩ := lft_ok hph hC
  rcases ht with rfl | rfl
  · have hg : gOperand 32 ph G nc kd cd my ne = (0, (1, (6, []) :: lft ph G, nc, kd, cd, my, ne)) := by
      unfold gOperand
      rw [if_neg (by omega), if_neg (by omega), if_pos rfl, if_neg (by omega)]
    rw [hg]
    refine RC_mk hT (Nat.le_refl _) ?_
    simp only [cmB, flat, nO, nP, g3, g4, g5, lft_cm]
    rw [Nat.add_comm _ (nO G), Nat.add_comm _ (nP G)]
    exact hR
  · have hg : gOperand 28 ph G nc kd cd my ne = (0, (1, (7, []) :: lft ph G, nc, kd, cd, my, ne)) := by
      unfold gOperand
      rw [if_neg (by omega), if_neg (by omega), if_neg (by omega), if_pos rfl, if_neg (by omega)]
    rw [hg]
    refine RC_mk hT (Nat.le_refl _) ?_
    simp only [cmB, flat, nO, nP, g3, g4, g5, lft_cm]
    rw [Nat.add_comm _ (nO G), Nat.add_comm _ (nP G)]
    exact hR
theorem opnd_not {h : AH} {tp L nc : Nat} {at_ st : Int32} {G : LV} {kd : Nat → Nat} {cd : Nat → List Nat} {my ne : Int32} (h8 : nO G < 8) (hT : TxW h tp nc kd cd my ne) (hR : RdW h tp L at_ st (nI 11) 3 (kd (nc - 1)) true (cmB G) (11 :: flat G) (nO G + 1) (nP G)) : RCq h tp L at_ st (nI 11) (gOperand 11 0 G nc kd cd my ne) := by
  have hg : gOperand 11 0 G nc kd cd my ne = (0, (0, (3, []) :: G, nc, kd, cd, my, ne)) := by
    unfold gOperand
    rw [if_neg (by omega), if_neg (by omega), if_neg (by omega), if_neg (by omega), if_pos ⟨rfl, rfl⟩, if_neg (by omega)]
  rw [hg]
  refine RC_mk hT (Nat.zero_le _) ?_
  simp only [cmB, flat, nO, nP]
  rw [Nat.add_comm _ (nO G), Nat.add_comm _ (nP G)]
  exact hR
theorem opr_1 {h : AH} {tp L t f n nc : Nat} {at_ st : Int32} {w : List Nat} {r : LV} {kd : Nat → Nat} {cdc : Nat → List Nat} {my ne : Int32} (hI : shI (kd (nc - 1)) ((f, w) :: r)) (hf : f ≠ 7) (h1 : 27 ≤ t) (h2 : t ≤ 30) (hT : TxW h tp nc kd (cdA cdc nc (stk (rkc t) (List.replicate n 31 ++ flat ((f, w) :: r)))) my ne) (hR : RdW h tp L at_ st (nI t) 3 (kd (nc - 1)) false (cmB ((f, w) :: r)) (t :: sdr (rkc t) (List.replicate n 31 ++ flat ((f, w) :: r))) (nO ((f, w) :: r) + n - cnO (stk (rkc t) (List.replicate n 31 ++ flat ((f, w) :: r)))) (nP ((f, w) :: r))) : RCq h tp L at_ st (nI t) (gOperator t ((f, w) :: r) nc kd (cdA cdc nc (List.replicate n 31)) my ne) := by
  obtain ⟨e1, e2, e3⟩ := opr_bin (n := n) hI hf h1 h2
  have hg : gOperator t ((f, w) :: r) nc kd (cdA cdc nc (List.replicate n 31)) my ne = (0, (1, (f, t :: sdr (rkc t) w) :: r, nc, kd, cdA cdc nc (List.replicate n 31 ++ stk (rkc t) w), my, ne)) := by
    simp only [gOperator]; rw [if_pos ⟨h1, h2⟩, cdA_app]
  rw [hg]
  rw [e1] at hT hR
  rw [e2, cnO_app, cnO_rep, e3, show nO ((f, w) :: r) + n - (n + 0) = nO ((f, w) :: r) by omega] at hR
  exact RC_mk hT (Nat.le_refl _) hR
theorem opr_2 {h : AH} {tp L n nc : Nat} {at_ st : Int32} {w : List Nat} {r : LV} {kd : Nat → Nat} {cdc : Nat → List Nat} {my ne : Int32} (hw : vS w) (hI : shI (kd (nc - 1)) r) (hT : TxW h tp nc kd (cdA cdc nc (stk 1 (List.replicate n 31 ++ flat ((6, w) :: r)))) my ne) (hR : RdW h tp L at_ st (nI 33) 4 (kd (nc - 1)) false (cmB ((6, w) :: r)) (flat r) (nO ((6, w) :: r) + n - cnO (stk 1 (List.replicate n 31 ++ flat ((6, w) :: r))) - 1) (nP ((6, w) :: r) - 1)) : RCq h tp L at_ st (nI 33) (gOperator 33 ((6, w) :: r) nc kd (cdA cdc nc (List.replicate n 31)) my ne) := by
  obtain ⟨e1, e2, e3⟩ := opr_cls (k := 0) (n := n) (r := r) hw
  have hg : gOperator 33 ((6, w) :: r) nc kd (cdA cdc nc (List.replicate n 31)) my ne = (0, (2, unn r, nc, kd, cdA (cdA cdc nc (List.replicate n 31 ++ w)) nc (List.replicate (neg r) 31), my, ne)) := by
    simp only [gOperator]; rw [if_neg (by omega), if_pos trivial, if_pos trivial, cdA_app, cdA_app, List.append_assoc]
  rw [hg]
  rw [e1] at hT hR
  obtain ⟨u1, u2, u3, u4, u5, u6, u7⟩ := unn_ok hI
  refine RC_mk2 hT ?_
  rw [← u5, u4, u6, u7]
  rw [cnO_app, cnO_rep, e3, show nO ((6, w) :: r) + n - (n + 0) - 1 = nO r by simp [nO] <;> omega, show nP ((6, w) :: r) - 1 = nP r by simp [nP] <;> omega] at hR
  exact hR
theorem opr_3 {h : AH} {tp L t n nc : Nat} {at_ st : Int32} {w : List Nat} {r : LV} {kd : Nat → Nat} {cdc : Nat → List Nat} {my ne : Int32} (hw : vS w) (hE : shE r) (h1 : 21 ≤ t) (h2 : t ≤ 26) (hT : TxW h tp nc kd (cdA cdc nc (stk (rkc t) (List.replicate n 31 ++ flat ((4, w) :: r)))) my ne) (hR : RdW h tp L at_ st (nI t) 3 (kd (nc - 1)) false true (t :: sdr (rkc t) (List.replicate n 31 ++ flat ((4, w) :: r))) (nO ((4, w) :: r) + n - cnO (stk (rkc t) (List.replicate n 31 ++ flat ((4, w) :: r)))) (nP ((4, w) :: r))) : RCq h tp L at_ st (nI t) (gOperator t ((4, w) :: r) nc kd (cdA cdc nc (List.replicate n 31)) my ne) := by
  obtain ⟨e1, e2, e3⟩ := opr_cmp (n := n) hw hE h1 h2
  have hg : gOperator t ((4, w) :: r) nc kd (cdA cdc nc (List.replicate n 31)) my ne = (0, (1, (t, []) :: r, nc, kd, cdA cdc nc (List.replicate n 31 ++ w), my, ne)) := by
    simp only [gOperator]; rw [if_neg (by omega), if_neg (by omega), if_pos trivial, if_pos ⟨h1, h2⟩, cdA_app]
  rw [hg]
  rw [e1] at hT hR
  rw [e2, cnO_app, cnO_rep, e3] at hR
  refine RC_mk hT (Nat.le_refl _) ?_
  have q1 : flat ((t, []) :: r) = t :: flat r := by simp only [flat]; rw [opn_cmp h1]; rfl
  have q2 : cmB ((t, []) :: r) = true := by simp only [cmB]; rw [decide_eq_true h1]; rfl
  have q3 : nO ((t, []) :: r) = nO r := by simp only [nO]; rw [if_neg (by omega), Nat.zero_add]
  have q4 : nP ((t, []) :: r) = nP r := by simp only [nP]; rw [if_neg (by omega), Nat.zero_add]
  rw [q1, q2, q3, q4]
  rw [show nO ((4, w) :: r) + n - (n + 0) = nO r by simp [nO], show nP ((4, w) :: r) = nP r by simp [nP]] at hR
  exact hR
theorem opr_4 {h : AH} {tp L t f n nc : Nat} {at_ st : Int32} {w : List Nat} {r : LV} {kd : Nat → Nat} {cdc : Nat → List Nat} {my ne : Int32} (hw : vS w) (hE : shE r) (hf : 21 ≤ f ∧ f ≤ 26) (ht : t = 12 ∨ t = 13) (hT : TxW h tp nc kd (cdA cdc nc (stk (rkc t) (List.replicate n 31 ++ flat ((f, w) :: r)))) my ne) (hR : RdW h tp L at_ st (nI t) 3 (kd (nc - 1)) true false (t :: sdr (rkc t) (List.replicate n 31 ++ flat ((f, w) :: r))) (nO ((f, w) :: r) + n - cnO (stk (rkc t) (List.replicate n 31 ++ flat ((f, w) :: r)))) (nP ((f, w) :: r))) : RCq h tp L at_ st (nI t) (gOperator t ((f, w) :: r) nc kd (cdA cdc nc (List.replicate n 31)) my ne) := by
  obtain ⟨e, g1, g2, g3, g4, g5, g6, g7⟩ := unt_ok hE
  obtain ⟨e1, e2⟩ := opr_and (n := n) hw hf g5 ht
  have hg : gOperator t ((f, w) :: r) nc kd (cdA cdc nc (List.replicate n 31)) my ne = (0, (0, [(2, t :: sdr (rkc t) e)], nc, kd, cdA cdc nc (List.replicate n 31 ++ (w ++ ([f] ++ (List.replicate (nts r) 11 ++ stk (rkc t) e)))), my, ne)) := by
    simp only [gOperator]; rw [if_neg (by omega), if_neg (by omega), if_neg (by omega), if_neg (by omega)]
    simp only [gAsk, g1]
    rw [if_neg (by omega), if_pos ht, cdA_app]
  rw [hg]
  have hwc : cnO w = 0 := cnO_no (fun x hx => by have := (vS_in hw).1 x hx; omega)
  have hec : cnO (stk (rkc t) e) = 0 := cnO_no (fun x hx => by have := (vE_in g2).1 x (stk_mem hx); omega)
  have hfc : cnO [f] = 0 := by simp only [cnO]; rw [if_neg (by omega)]
  have hn : nO ((f, w) :: r) = nts r := by simp only [nO]; rw [if_neg (by omega), Nat.zero_add, g4]
  have hp : nP ((f, w) :: r) = 0 := by simp only [nP]; rw [if_neg (by omega), g6]
  rw [e1] at hT hR
  rw [e2, cnO_app, cnO_app, cnO_app, cnO_app, cnO_rep, cnO_rep11, hwc, hec, hfc, hn, hp, show nts r + n - (n + (0 + (0 + (nts r + 0)))) = 0 by omega] at hR
  refine RC_mk hT (Nat.zero_le _) ?_
  have q1 : flat [(2, t :: sdr (rkc t) e)] = t :: sdr (rkc t) e := by simp [flat, opn]
  rw [q1]
  exact hR
theorem opr_5 {h : AH} {tp L n nc kin op br : Nat} {at_ st : Int32} {sA cm : Bool} {ws : List Nat} {G : LV} {kd : Nat → Nat} {cdc : Nat → List Nat} {my ne : Int32} (hS : shS (kd (nc - 1)) G) (hf4 : ∀ w r, G ≠ (4, w) :: r) (hT : TxW h tp nc kd (cdA cdc nc (stk 1 (List.replicate n 31 ++ flat G))) my ne) (hR : RdW h tp L at_ st (nI 34) 0 kin sA cm ws op br) : RCq h tp L at_ st (nI 34) (gOperator 34 G nc kd (cdA cdc nc (List.replicate n 31)) my ne) := by
  have e1 := (opr_stop (n := n) hS).1
  match G, hS with
  | (f, w) :: r, hS =>
    have hg : gOperator 34 ((f, w) :: r) nc kd (cdA cdc nc (List.replicate n 31)) my ne = (0, (4, [], nc, kd, cdA cdc nc (List.replicate n 31 ++ flat ((f, w) :: r)), my, ne)) := by
      rcases hS.2 with ⟨h1, rfl, rfl⟩ | ⟨h1, hf, hE⟩
      · simp only [gOperator]; rw [if_neg (by omega), if_neg (by omega), if_neg (by omega), if_pos trivial, if_pos trivial, cdA_app]
        simp [flat, opn]
      · have hf : 21 ≤ f ∧ f ≤ 26 := hf.resolve_left (fun z => hf4 w r (by rw [z]))
        obtain ⟨e, g1, g2, g3, g4, g5, g6, g7⟩ := unt_ok hE
        simp only [gOperator]; rw [if_neg (by omega), if_neg (by omega), if_neg (by omega), if_neg (by omega)]
        simp only [gAsk, g1]
        rw [if_pos trivial, cdA_app]
        simp only [flat]
        rw [opn_cmp hf.1, g5]
    rw [hg]
    rw [e1] at hT
    exact RC_mk4 hT hR
