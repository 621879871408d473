set_option maxRecDepth 100000 in
set_option maxHeartbeats 4000000 in
theorem q_B411 (L : Nat) (xs : Nat → Int32) (hL : L ≤ 6) (h6 : 6 ≤ L) (n18 : Nat) (v3 : Int32) (i0 : v3.toInt = 0) : okP (f_L_law_B411 L xs (f_L_law_L18 L xs (n18 + 1)) v3 0 1 1 0 0 0 0 0 0 0 0 0 0 0 0 0 jSet jFar7 (fun _ => 0) iCur (fun _ => 0) iDep (fun _ => 0) (fun _ => 0) (fun _ => 0) (fun _ => 0) (fun _ => 0) (fun _ => 0) (fun _ => 0) (fun _ => 0) (fun _ => 0) (fun _ => 0) (fun _ => 0) (fun _ => 0) (fun _ => 0) (fun _ => 0) (fun _ => 0) (fun _ => 0) (fun _ => 0) (fun _ => 0) (fun _ => 0) jLan (fun _ => 0) (fun _ => 0) (fun _ => 0) 0 (fun _ => 0) 0 0 iSet iFar7 (fun _ => 0) iCur (fun _ => 0) iDep iFars (fun _ => 0) (fun _ => 0) (fun _ => 0) (fun _ => 0) (fun _ => 0) (fun _ => 0) (fun _ => 0) 0 (fun _ => 0) iKnown 0 0 (fun _ => 0) (fun _ => 0) (fun _ => 0) (fun _ => 0) 0 0 iSet iFar7 (fun _ => 0) iCur (fun _ => 0) iDep iFars (fun _ => 0) (fun _ => 0) (fun _ => 0) (fun _ => 0) (fun _ => 0) (fun _ => 0) (fun _ => 0) 1 0 0 0 0 0 0 (-1) (-1) 0 0 0 (fun _ => 0) (fun _ => 0) (fun _ => 0) (fun _ => 0) (fun _ => 0) (fun _ => 0) (fun _ => 0) (fun _ => 0) 1 0 0 0 0 0 0 (-1) (-1) 0 0 0 (fun _ => 0) (fun _ => 0) (fun _ => 0) (fun _ => 0) (fun _ => 0) (fun _ => 0) (fun _ => 0) (fun _ => 0) (fun _ => (-1)) (fun _ => 0) (fun _ _ => 0)) (fun u : Int32 => u = 1) := by
  unfold f_L_law_B411
  have a1 : (v3 + 1).toInt = v3.toInt + (1 : Int) := i_add2 rfl rfl (by omega) (by omega)
  have a2 : (v3 + 2).toInt = v3.toInt + (2 : Int) := i_add2 rfl rfl (by omega) (by omega)
  have a3 : (v3 + 3).toInt = v3.toInt + (3 : Int) := i_add2 rfl rfl (by omega) (by omega)
  have a4 : (v3 + 4).toInt = v3.toInt + (4 : Int) := i_add2 rfl rfl (by omega) (by omega)
  have a5 : (v3 + 5).toInt = v3.toInt + (5 : Int) := i_add2 rfl rfl (by omega) (by omega)
  have ix_1 : ¬ ((v3 + 1) < 0 ∨ L ≤ (v3 + 1).toNatClampNeg) := ix (show 0 ≤ (v3 + 1).toInt by omega) (show (v3 + 1).toInt < (L : Nat) by omega)
  refine ok_chk ix_1 ?_
  have ix_2 : ¬ ((v3 + 2) < 0 ∨ L ≤ (v3 + 2).toNatClampNeg) := ix (show 0 ≤ (v3 + 2).toInt by omega) (show (v3 + 2).toInt < (L : Nat) by omega)
  refine ok_chk ix_2 ?_
  refine ok_bd22 ((fun (x1 : Int32) (x2 : Int32) (_ : Int32) (_ : Nat → Int32) (_ : Nat → Int32) (_ : Nat → Int32) (_ : Nat → Int32) (_ : Int32) (_ : Int32) (_ : Int32) (_ : Int32) (_ : Int32) (_ : Int32) (_ : Int64) (_ : Int32) (_ : Int32) (_ : Int32) (_ : Int32) (_ : Int32) (_ : Nat → Int32) (_ : Nat → Int32) (_ : Nat → Int32) (_ : Nat → Int32) (_ : Nat → Int32) (_ : Nat → Int64) (_ : Nat → Int32) (_ : Nat → Int32) => v_X6_may x1 x2) (xs (v3 + 1).toNatClampNeg) (xs (v3 + 2).toNatClampNeg) 1 iSet iFar7 ((fun _ => 0) : Nat → Int32) iFars 1 0 0 0 0 0 0 (-1) (-1) 0 0 0 ((fun _ => 0) : Nat → Int32) ((fun _ => 0) : Nat → Int32) ((fun _ => 0) : Nat → Int32) ((fun _ => 0) : Nat → Int32) ((fun _ => 0) : Nat → Int32) ((fun _ => 0) : Nat → Int64) ((fun _ => 0) : Nat → Int32) ((fun _ => 0) : Nat → Int32)) (fun r_3 w_4 w_5 w_6 w_7 w_8 w_9 w_10 w_11 w_12 w_13 w_14 w_15 w_16 w_17 w_18 w_19 w_20 w_21 w_22 w_23 w_24 q_25 => ?_)
  replace q_25 : (¬ (0 ≤ (xs (v3 + 1).toNatClampNeg).toInt ∧ (xs (v3 + 1).toNatClampNeg).toInt ≤ 6 ∧ 0 ≤ (xs (v3 + 2).toNatClampNeg).toInt ∧ (xs (v3 + 2).toNatClampNeg).toInt ≤ 9) ∧ r_3.toInt = -1) ∨ ((0 ≤ (xs (v3 + 1).toNatClampNeg).toInt ∧ (xs (v3 + 1).toNatClampNeg).toInt ≤ 6 ∧ 0 ≤ (xs (v3 + 2).toNatClampNeg).toInt ∧ (xs (v3 + 2).toNatClampNeg).toInt ≤ 9) ∧ r_3 = SEf (10 * (xs (v3 + 1).toNatClampNeg).toInt.toNat + (xs (v3 + 2).toNatClampNeg).toInt.toNat)) := q_25
  refine ok_chk ix_1 ?_
  refine ok_chk ix_2 ?_
  refine ok_bd13 ((fun (x1 : Int32) (x2 : Int32) (_ : Int32) (_ : Int32) (_ : Int32) (_ : Int32) (_ : Nat → Int32) (_ : Nat → Int32) (_ : Nat → Int32) (_ : Nat → Int32) (_ : Nat → Int32) (_ : Nat → Int32) (_ : Nat → Int32) (_ : Nat → Int32) (_ : Nat → Int32) (_ : Nat → Int32) (_ : Nat → Int32) => v_X7_may x1 x2) (xs (v3 + 1).toNatClampNeg) (xs (v3 + 2).toNatClampNeg) 0 0 0 0 jSet jFar7 ((fun _ => 0) : Nat → Int32) ((fun _ => 0) : Nat → Int32) ((fun _ => 0) : Nat → Int32) ((fun _ => 0) : Nat → Int32) ((fun _ => 0) : Nat → Int32) ((fun _ => 0) : Nat → Int32) ((fun _ => 0) : Nat → Int32) ((fun _ => 0) : Nat → Int32) ((fun _ => 0) : Nat → Int32)) (fun r_26 w_27 w_28 w_29 w_30 w_31 w_32 w_33 w_34 w_35 w_36 w_37 w_38 q_39 => ?_)
  replace q_39 : (¬ (0 ≤ (xs (v3 + 1).toNatClampNeg).toInt ∧ (xs (v3 + 1).toNatClampNeg).toInt ≤ 6 ∧ 0 ≤ (xs (v3 + 2).toNatClampNeg).toInt ∧ (xs (v3 + 2).toNatClampNeg).toInt ≤ 9) ∧ r_26.toInt = -1) ∨ ((0 ≤ (xs (v3 + 1).toNatClampNeg).toInt ∧ (xs (v3 + 1).toNatClampNeg).toInt ≤ 6 ∧ 0 ≤ (xs (v3 + 2).toNatClampNeg).toInt ∧ (xs (v3 + 2).toNatClampNeg).toInt ≤ 9) ∧ r_26 = SEf (10 * (xs (v3 + 1).toNatClampNeg).toInt.toNat + (xs (v3 + 2).toNatClampNeg).toInt.toNat)) := q_39
  have hr := ansE q_25 q_39
  refine ok_ite (fun c_40 => ?_) (fun c_40 => ?_)
  · skip
    have c_40 : r_3.toInt = r_26.toInt := i_eq.mp c_40
    unfold f_L_law_B1235
    have f6 : (v3 + 6).toInt = v3.toInt + (6 : Int) := i_add2 rfl rfl (by omega) (by omega)
    refine ok_nmi (fun x6 hx6 kx6 => ?_)
    exact q_end L xs hL n18 x6 (by omega) _ _ _ _ _ _ _ _ _ _ _ _ _ _ _ _ _ _ _ _ _ _ _ _ _ _ _ _ _ _ _ _ _ _ _ _ _ _ _ _ _ _ _ _ _ _ _ _ _ _ _ _ _ _ _ _ _ _ _ _ _ _ _ _ _ _ _ _ _ _ _ _ _ _ _ _ _ _ _ _ _ _ _ _ _ _ _ _ _ _ _ _ _ _ _ _ _ _ _ _ _ _ _ _ _ _ _ _ _ _ _ _ _ _ _ _ _ _ _ _ _ _ _ _ _ _ _ _ _ _ _
  · skip
    have c_40 : ¬ r_3.toInt = r_26.toInt := fun z => c_40 (i_eq.mpr z)
    exfalso; omega
set_option maxRecDepth 100000 in
set_option maxHeartbeats 4000000 in
theorem q_B444 (L : Nat) (xs : Nat → Int32) (hL : L ≤ 6) (h6 : 6 ≤ L) (n18 : Nat) (v3 : Int32) (i0 : v3.toInt = 0) : okP (f_L_law_B444 L xs (f_L_law_L18 L xs (n18 + 1)) v3 0 1 1 0 0 0 0 0 0 0 0 0 0 0 0 0 jSet jFar7 (fun _ => 0) iCur (fun _ => 0) iDep (fun _ => 0) (fun _ => 0) (fun _ => 0) (fun _ => 0) (fun _ => 0) (fun _ => 0) (fun _ => 0) (fun _ => 0) (fun _ => 0) (fun _ => 0) (fun _ => 0) (fun _ => 0) (fun _ => 0) (fun _ => 0) (fun _ => 0) (fun _ => 0) (fun _ => 0) (fun _ => 0) (fun _ => 0) jLan (fun _ => 0) (fun _ => 0) (fun _ => 0) 0 (fun _ => 0) 0 0 iSet iFar7 (fun _ => 0) iCur (fun _ => 0) iDep iFars (fun _ => 0) (fun _ => 0) (fun _ => 0) (fun _ => 0) (fun _ => 0) (fun _ => 0) (fun _ => 0) 0 (fun _ => 0) iKnown 0 0 (fun _ => 0) (fun _ => 0) (fun _ => 0) (fun _ => 0) 0 0 iSet iFar7 (fun _ => 0) iCur (fun _ => 0) iDep iFars (fun _ => 0) (fun _ => 0) (fun _ => 0) (fun _ => 0) (fun _ => 0) (fun _ => 0) (fun _ => 0) 1 0 0 0 0 0 0 (-1) (-1) 0 0 0 (fun _ => 0) (fun _ => 0) (fun _ => 0) (fun _ => 0) (fun _ => 0) (fun _ => 0) (fun _ => 0) (fun _ => 0) 1 0 0 0 0 0 0 (-1) (-1) 0 0 0 (fun _ => 0) (fun _ => 0) (fun _ => 0) (fun _ => 0) (fun _ => 0) (fun _ => 0) (fun _ => 0) (fun _ => 0) (fun _ => (-1)) (fun _ => 0) (fun _ _ => 0)) (fun u : Int32 => u = 1) := by
  unfold f_L_law_B444
  have a1 : (v3 + 1).toInt = v3.toInt + (1 : Int) := i_add2 rfl rfl (by omega) (by omega)
  have a2 : (v3 + 2).toInt = v3.toInt + (2 : Int) := i_add2 rfl rfl (by omega) (by omega)
  have a3 : (v3 + 3).toInt = v3.toInt + (3 : Int) := i_add2 rfl rfl (by omega) (by omega)
  have a4 : (v3 + 4).toInt = v3.toInt + (4 : Int) := i_add2 rfl rfl (by omega) (by omega)
  have a5 : (v3 + 5).toInt = v3.toInt + (5 : Int) := i_add2 rfl rfl (by omega) (by omega)
  have ix_1 : ¬ ((v3 + 1) < 0 ∨ L ≤ (v3 + 1).toNatClampNeg) := ix (show 0 ≤ (v3 + 1).toInt by omega) (show (v3 + 1).toInt < (L : Nat) by omega)
  refine ok_chk ix_1 ?_
  have ix_2 : ¬ ((v3 + 2) < 0 ∨ L ≤ (v3 + 2).toNatClampNeg) := ix (show 0 ≤ (v3 + 2).toInt by omega) (show (v3 + 2).toInt < (L : Nat) by omega)
  refine ok_chk ix_2 ?_
  refine ok_bd7 (l_X6_sea (xs (v3 + 1).toNatClampNeg) (xs (v3 + 2).toNatClampNeg) 1 iCur iKnown 0 0 ((fun _ => 0) : Nat → Int32) ((fun _ => 0) : Nat → Int32) (show 0 ≤ (0 : Int) by first | omega | decide) (show (0 : Int) ≤ 60 by first | omega | decide) (by first | with_reducible rfl | exact EqN_ij | exact LaR_0 | exact FarOK_i | exact TapR_0 rfl rfl | exact TRng_0 rfl | exact fun j hj => absurd hj (by omega) | exact CurOK_i | exact PieR_i | exact PieOK_i | exact KnO_i _ _ _ _ _ _ _ _ | exact SetOK_i | exact SetOK_j | exact fun z => absurd rfl z | exact fun j _ => (show 0 ≤ (0 : Int32).toInt ∧ (0 : Int32).toInt ≤ 16 by decide) | exact fun _ _ => rfl | decide)) (fun r_3 w_4 w_5 w_6 w_7 w_8 w_9 q_10 => ?_)
  obtain ⟨q_10_0, q_10_1, q_10_2⟩ : (0 ≤ w_7.toInt) ∧ (w_7.toInt ≤ 60) ∧ ((¬ (0 ≤ (xs (v3 + 1).toNatClampNeg).toInt ∧ (xs (v3 + 1).toNatClampNeg).toInt ≤ 1 ∧ 0 ≤ (xs (v3 + 2).toNatClampNeg).toInt ∧ (xs (v3 + 2).toNatClampNeg).toInt ≤ 9) ∧ r_3.toInt = -1 ∧ w_7.toInt = (0 : Int) ∧ w_5 = iCur) ∨ ((0 ≤ (xs (v3 + 1).toNatClampNeg).toInt ∧ (xs (v3 + 1).toNatClampNeg).toInt ≤ 1 ∧ 0 ≤ (xs (v3 + 2).toNatClampNeg).toInt ∧ (xs (v3 + 2).toNatClampNeg).toInt ≤ 9) ∧ w_7.toInt = 0 ∧ SeaP ((fun _ => 0) : Nat → Int32) (0 : Int) iCur w_5 (100 * (xs (v3 + 1).toNatClampNeg).toInt + 10 * (xs (v3 + 2).toNatClampNeg).toInt) r_3)) := q_10
  refine ok_chk ix_1 ?_
  refine ok_chk ix_2 ?_
  refine ok_bd6 (l_X7_sea (xs (v3 + 1).toNatClampNeg) (xs (v3 + 2).toNatClampNeg) 0 0 0 iCur ((fun _ => 0) : Nat → Int32) ((fun _ => 0) : Nat → Int32) (show 0 ≤ (0 : Int) by first | omega | decide) (show (0 : Int) ≤ 60 by first | omega | decide) (by first | with_reducible rfl | exact EqN_ij | exact LaR_0 | exact FarOK_i | exact TapR_0 rfl rfl | exact TRng_0 rfl | exact fun j hj => absurd hj (by omega) | exact CurOK_i | exact PieR_i | exact PieOK_i | exact KnO_i _ _ _ _ _ _ _ _ | exact SetOK_i | exact SetOK_j | exact fun z => absurd rfl z | exact fun j _ => (show 0 ≤ (0 : Int32).toInt ∧ (0 : Int32).toInt ≤ 16 by decide) | exact fun _ _ => rfl | decide)) (fun r_11 w_12 w_13 w_14 w_15 w_16 q_17 => ?_)
  obtain ⟨q_17_0, q_17_1, q_17_2⟩ : (0 ≤ w_12.toInt) ∧ (w_12.toInt ≤ 60) ∧ ((¬ (0 ≤ (xs (v3 + 1).toNatClampNeg).toInt ∧ (xs (v3 + 1).toNatClampNeg).toInt ≤ 1 ∧ 0 ≤ (xs (v3 + 2).toNatClampNeg).toInt ∧ (xs (v3 + 2).toNatClampNeg).toInt ≤ 9) ∧ r_11.toInt = -1 ∧ w_12.toInt = (0 : Int) ∧ w_15 = iCur) ∨ ((0 ≤ (xs (v3 + 1).toNatClampNeg).toInt ∧ (xs (v3 + 1).toNatClampNeg).toInt ≤ 1 ∧ 0 ≤ (xs (v3 + 2).toNatClampNeg).toInt ∧ (xs (v3 + 2).toNatClampNeg).toInt ≤ 9) ∧ w_12.toInt = 0 ∧ SeaP ((fun _ => 0) : Nat → Int32) (0 : Int) iCur w_15 (100 * (xs (v3 + 1).toNatClampNeg).toInt + 10 * (xs (v3 + 2).toNatClampNeg).toInt) r_11)) := q_17
  obtain ⟨hr, _⟩ := sea_law (len := 0) (taped := 0) (TapR_0 rfl rfl) (TRng_0 rfl) q_10_2 q_17_2 (fun z => by omega)
  refine ok_ite (fun c_18 => ?_) (fun c_18 => ?_)
  · skip
    have c_18 : r_3.toInt = r_11.toInt := i_eq.mp c_18
    unfold f_L_law_B1235
    have f6 : (v3 + 6).toInt = v3.toInt + (6 : Int) := i_add2 rfl rfl (by omega) (by omega)
    refine ok_nmi (fun x6 hx6 kx6 => ?_)
    exact q_end L xs hL n18 x6 (by omega) _ _ _ _ _ _ _ _ _ _ _ _ _ _ _ _ _ _ _ _ _ _ _ _ _ _ _ _ _ _ _ _ _ _ _ _ _ _ _ _ _ _ _ _ _ _ _ _ _ _ _ _ _ _ _ _ _ _ _ _ _ _ _ _ _ _ _ _ _ _ _ _ _ _ _ _ _ _ _ _ _ _ _ _ _ _ _ _ _ _ _ _ _ _ _ _ _ _ _ _ _ _ _ _ _ _ _ _ _ _ _ _ _ _ _ _ _ _ _ _ _ _ _ _ _ _ _ _ _ _ _
  · skip
    have c_18 : ¬ r_3.toInt = r_11.toInt := fun z => c_18 (i_eq.mpr z)
    exfalso; omega
set_option maxRecDepth 100000 in
set_option maxHeartbeats 4000000 in
theorem q_B477 (L : Nat) (xs : Nat → Int32) (hL : L ≤ 6) (h6 : 6 ≤ L) (n18 : Nat) (v3 : Int32) (i0 : v3.toInt = 0) : okP (f_L_law_B477 L xs (f_L_law_L18 L xs (n18 + 1)) v3 0 1 1 0 0 0 0 0 0 0 0 0 0 0 0 0 jSet jFar7 (fun _ => 0) iCur (fun _ => 0) iDep (fun _ => 0) (fun _ => 0) (fun _ => 0) (fun _ => 0) (fun _ => 0) (fun _ => 0) (fun _ => 0) (fun _ => 0) (fun _ => 0) (fun _ => 0) (fun _ => 0) (fun _ => 0) (fun _ => 0) (fun _ => 0) (fun _ => 0) (fun _ => 0) (fun _ => 0) (fun _ => 0) (fun _ => 0) jLan (fun _ => 0) (fun _ => 0) (fun _ => 0) 0 (fun _ => 0) 0 0 iSet iFar7 (fun _ => 0) iCur (fun _ => 0) iDep iFars (fun _ => 0) (fun _ => 0) (fun _ => 0) (fun _ => 0) (fun _ => 0) (fun _ => 0) (fun _ => 0) 0 (fun _ => 0) iKnown 0 0 (fun _ => 0) (fun _ => 0) (fun _ => 0) (fun _ => 0) 0 0 iSet iFar7 (fun _ => 0) iCur (fun _ => 0) iDep iFars (fun _ => 0) (fun _ => 0) (fun _ => 0) (fun _ => 0) (fun _ => 0) (fun _ => 0) (fun _ => 0) 1 0 0 0 0 0 0 (-1) (-1) 0 0 0 (fun _ => 0) (fun _ => 0) (fun _ => 0) (fun _ => 0) (fun _ => 0) (fun _ => 0) (fun _ => 0) (fun _ => 0) 1 0 0 0 0 0 0 (-1) (-1) 0 0 0 (fun _ => 0) (fun _ => 0) (fun _ => 0) (fun _ => 0) (fun _ => 0) (fun _ => 0) (fun _ => 0) (fun _ => 0) (fun _ => (-1)) (fun _ => 0) (fun _ _ => 0)) (fun u : Int32 => u = 1) := by
  unfold f_L_law_B477
  have a1 : (v3 + 1).toInt = v3.toInt + (1 : Int) := i_add2 rfl rfl (by omega) (by omega)
  have a2 : (v3 + 2).toInt = v3.toInt + (2 : Int) := i_add2 rfl rfl (by omega) (by omega)
  have a3 : (v3 + 3).toInt = v3.toInt + (3 : Int) := i_add2 rfl rfl (by omega) (by omega)
  have a4 : (v3 + 4).toInt = v3.toInt + (4 : Int) := i_add2 rfl rfl (by omega) (by omega)
  have a5 : (v3 + 5).toInt = v3.toInt + (5 : Int) := i_add2 rfl rfl (by omega) (by omega)
  have ix_1 : ¬ ((v3 + 1) < 0 ∨ L ≤ (v3 + 1).toNatClampNeg) := ix (show 0 ≤ (v3 + 1).toInt by omega) (show (v3 + 1).toInt < (L : Nat) by omega)
  refine ok_chk ix_1 ?_
  have ix_2 : ¬ ((v3 + 2) < 0 ∨ L ≤ (v3 + 2).toNatClampNeg) := ix (show 0 ≤ (v3 + 2).toInt by omega) (show (v3 + 2).toInt < (L : Nat) by omega)
  refine ok_chk ix_2 ?_
  have ix_3 : ¬ ((v3 + 3) < 0 ∨ L ≤ (v3 + 3).toNatClampNeg) := ix (show 0 ≤ (v3 + 3).toInt by omega) (show (v3 + 3).toInt < (L : Nat) by omega)
  refine ok_chk ix_3 ?_
  have ix_4 : ¬ ((v3 + 4) < 0 ∨ L ≤ (v3 + 4).toNatClampNeg) := ix (show 0 ≤ (v3 + 4).toInt by omega) (show (v3 + 4).toInt < (L : Nat) by omega)
  refine ok_chk ix_4 ?_
  refine ok_bd5 (s_X6_cell (xs (v3 + 1).toNatClampNeg) (xs (v3 + 2).toNatClampNeg) (xs (v3 + 3).toNatClampNeg) (xs (v3 + 4).toNatClampNeg) 1 iCur ((fun _ => 0) : Nat → Int32) iKnown) (fun r_5 w_6 w_7 w_8 w_9 q_10 => ?_)
  replace q_10 : (¬ (0 ≤ (xs (v3 + 1).toNatClampNeg).toInt ∧ (xs (v3 + 1).toNatClampNeg).toInt ≤ 1 ∧ 0 ≤ (xs (v3 + 2).toNatClampNeg).toInt ∧ (xs (v3 + 2).toNatClampNeg).toInt < 100 ∧ 0 ≤ (xs (v3 + 3).toNatClampNeg).toInt ∧ (xs (v3 + 3).toNatClampNeg).toInt ≤ 1 ∧ 0 ≤ (xs (v3 + 4).toNatClampNeg).toInt ∧ ((xs (v3 + 3).toNatClampNeg).toInt = 0 → (xs (v3 + 4).toNatClampNeg).toInt ≤ 8) ∧ ((xs (v3 + 3).toNatClampNeg).toInt = 1 → (xs (v3 + 4).toNatClampNeg).toInt ≤ 9)) ∧ r_5.toInt = -1 ∧ w_7 = iCur ∧ w_8 = ((fun _ => 0) : Nat → Int32)) ∨ ((0 ≤ (xs (v3 + 1).toNatClampNeg).toInt ∧ (xs (v3 + 1).toNatClampNeg).toInt ≤ 1 ∧ 0 ≤ (xs (v3 + 2).toNatClampNeg).toInt ∧ (xs (v3 + 2).toNatClampNeg).toInt < 100 ∧ 0 ≤ (xs (v3 + 3).toNatClampNeg).toInt ∧ (xs (v3 + 3).toNatClampNeg).toInt ≤ 1 ∧ 0 ≤ (xs (v3 + 4).toNatClampNeg).toInt ∧ ((xs (v3 + 3).toNatClampNeg).toInt = 0 → (xs (v3 + 4).toNatClampNeg).toInt ≤ 8) ∧ ((xs (v3 + 3).toNatClampNeg).toInt = 1 → (xs (v3 + 4).toNatClampNeg).toInt ≤ 9)) ∧ (xs (v3 + 3).toNatClampNeg).toInt = 0 ∧ r_5 = iCur ((100 * (xs (v3 + 1).toNatClampNeg)) + (xs (v3 + 2).toNatClampNeg)).toNatClampNeg ∧ w_7 = upd iCur ((100 * (xs (v3 + 1).toNatClampNeg)) + (xs (v3 + 2).toNatClampNeg)).toNatClampNeg (xs (v3 + 4).toNatClampNeg) ∧ w_8 = ((fun _ => 0) : Nat → Int32)) ∨ ((0 ≤ (xs (v3 + 1).toNatClampNeg).toInt ∧ (xs (v3 + 1).toNatClampNeg).toInt ≤ 1 ∧ 0 ≤ (xs (v3 + 2).toNatClampNeg).toInt ∧ (xs (v3 + 2).toNatClampNeg).toInt < 100 ∧ 0 ≤ (xs (v3 + 3).toNatClampNeg).toInt ∧ (xs (v3 + 3).toNatClampNeg).toInt ≤ 1 ∧ 0 ≤ (xs (v3 + 4).toNatClampNeg).toInt ∧ ((xs (v3 + 3).toNatClampNeg).toInt = 0 → (xs (v3 + 4).toNatClampNeg).toInt ≤ 8) ∧ ((xs (v3 + 3).toNatClampNeg).toInt = 1 → (xs (v3 + 4).toNatClampNeg).toInt ≤ 9)) ∧ (xs (v3 + 3).toNatClampNeg).toInt = 1 ∧ r_5 = ((fun _ => 0) : Nat → Int32) ((100 * (xs (v3 + 1).toNatClampNeg)) + (xs (v3 + 2).toNatClampNeg)).toNatClampNeg ∧ w_7 = iCur ∧ w_8 = upd ((fun _ => 0) : Nat → Int32) ((100 * (xs (v3 + 1).toNatClampNeg)) + (xs (v3 + 2).toNatClampNeg)).toNatClampNeg (xs (v3 + 4).toNatClampNeg)) := q_10
  refine ok_chk ix_1 ?_
  refine ok_chk ix_2 ?_
  refine ok_chk ix_3 ?_
  refine ok_chk ix_4 ?_
  refine ok_bd3 (s_X7_cell (xs (v3 + 1).toNatClampNeg) (xs (v3 + 2).toNatClampNeg) (xs (v3 + 3).toNatClampNeg) (xs (v3 + 4).toNatClampNeg) iCur ((fun _ => 0) : Nat → Int32)) (fun r_11 w_12 w_13 q_14 => ?_)
  replace q_14 : (¬ (0 ≤ (xs (v3 + 1).toNatClampNeg).toInt ∧ (xs (v3 + 1).toNatClampNeg).toInt ≤ 1 ∧ 0 ≤ (xs (v3 + 2).toNatClampNeg).toInt ∧ (xs (v3 + 2).toNatClampNeg).toInt < 100 ∧ 0 ≤ (xs (v3 + 3).toNatClampNeg).toInt ∧ (xs (v3 + 3).toNatClampNeg).toInt ≤ 1 ∧ 0 ≤ (xs (v3 + 4).toNatClampNeg).toInt ∧ ((xs (v3 + 3).toNatClampNeg).toInt = 0 → (xs (v3 + 4).toNatClampNeg).toInt ≤ 8) ∧ ((xs (v3 + 3).toNatClampNeg).toInt = 1 → (xs (v3 + 4).toNatClampNeg).toInt ≤ 9)) ∧ r_11.toInt = -1 ∧ w_12 = iCur ∧ w_13 = ((fun _ => 0) : Nat → Int32)) ∨ ((0 ≤ (xs (v3 + 1).toNatClampNeg).toInt ∧ (xs (v3 + 1).toNatClampNeg).toInt ≤ 1 ∧ 0 ≤ (xs (v3 + 2).toNatClampNeg).toInt ∧ (xs (v3 + 2).toNatClampNeg).toInt < 100 ∧ 0 ≤ (xs (v3 + 3).toNatClampNeg).toInt ∧ (xs (v3 + 3).toNatClampNeg).toInt ≤ 1 ∧ 0 ≤ (xs (v3 + 4).toNatClampNeg).toInt ∧ ((xs (v3 + 3).toNatClampNeg).toInt = 0 → (xs (v3 + 4).toNatClampNeg).toInt ≤ 8) ∧ ((xs (v3 + 3).toNatClampNeg).toInt = 1 → (xs (v3 + 4).toNatClampNeg).toInt ≤ 9)) ∧ (xs (v3 + 3).toNatClampNeg).toInt = 0 ∧ r_11 = iCur ((100 * (xs (v3 + 1).toNatClampNeg)) + (xs (v3 + 2).toNatClampNeg)).toNatClampNeg ∧ w_12 = upd iCur ((100 * (xs (v3 + 1).toNatClampNeg)) + (xs (v3 + 2).toNatClampNeg)).toNatClampNeg (xs (v3 + 4).toNatClampNeg) ∧ w_13 = ((fun _ => 0) : Nat → Int32)) ∨ ((0 ≤ (xs (v3 + 1).toNatClampNeg).toInt ∧ (xs (v3 + 1).toNatClampNeg).toInt ≤ 1 ∧ 0 ≤ (xs (v3 + 2).toNatClampNeg).toInt ∧ (xs (v3 + 2).toNatClampNeg).toInt < 100 ∧ 0 ≤ (xs (v3 + 3).toNatClampNeg).toInt ∧ (xs (v3 + 3).toNatClampNeg).toInt ≤ 1 ∧ 0 ≤ (xs (v3 + 4).toNatClampNeg).toInt ∧ ((xs (v3 + 3).toNatClampNeg).toInt = 0 → (xs (v3 + 4).toNatClampNeg).toInt ≤ 8) ∧ ((xs (v3 + 3).toNatClampNeg).toInt = 1 → (xs (v3 + 4).toNatClampNeg).toInt ≤ 9)) ∧ (xs (v3 + 3).toNatClampNeg).toInt = 1 ∧ r_11 = ((fun _ => 0) : Nat → Int32) ((100 * (xs (v3 + 1).toNatClampNeg)) + (xs (v3 + 2).toNatClampNeg)).toNatClampNeg ∧ w_12 = iCur ∧ w_13 = upd ((fun _ => 0) : Nat → Int32) ((100 * (xs (v3 + 1).toNatClampNeg)) + (xs (v3 + 2).toNatClampNeg)).toNatClampNeg (xs (v3 + 4).toNatClampNeg)) := q_14
  obtain ⟨hr, _⟩ := cell_same (n := 200) (fun _ _ => rfl) (fun _ _ => rfl) q_10 q_14 (fun z => idx_lt z.1 z.2.1 z.2.2.1 z.2.2.2.1) (fun z1 z2 => by omega)
  refine ok_ite (fun c_15 => ?_) (fun c_15 => ?_)
  · skip
    have c_15 : r_5.toInt = r_11.toInt := i_eq.mp c_15
    unfold f_L_law_B1235
    have f6 : (v3 + 6).toInt = v3.toInt + (6 : Int) := i_add2 rfl rfl (by omega) (by omega)
    refine ok_nmi (fun x6 hx6 kx6 => ?_)
    exact q_end L xs hL n18 x6 (by omega) _ _ _ _ _ _ _ _ _ _ _ _ _ _ _ _ _ _ _ _ _ _ _ _ _ _ _ _ _ _ _ _ _ _ _ _ _ _ _ _ _ _ _ _ _ _ _ _ _ _ _ _ _ _ _ _ _ _ _ _ _ _ _ _ _ _ _ _ _ _ _ _ _ _ _ _ _ _ _ _ _ _ _ _ _ _ _ _ _ _ _ _ _ _ _ _ _ _ _ _ _ _ _ _ _ _ _ _ _ _ _ _ _ _ _ _ _ _ _ _ _ _ _ _ _ _ _ _ _ _ _
  · skip
    have c_15 : ¬ r_5.toInt = r_11.toInt := fun z => c_15 (i_eq.mpr z)
    exfalso; omega
set_option maxRecDepth 100000 in
set_option maxHeartbeats 4000000 in
theorem q_B530 (L : Nat) (xs : Nat → Int32) (hL : L ≤ 6) (h6 : 6 ≤ L) (n18 : Nat) (v3 : Int32) (i0 : v3.toInt = 0) : okP (f_L_law_B530 L xs (f_L_law_L18 L xs (n18 + 1)) v3 0 1 1 0 0 0 0 0 0 0 0 0 0 0 0 0 jSet jFar7 (fun _ => 0) iCur (fun _ => 0) iDep (fun _ => 0) (fun _ => 0) (fun _ => 0) (fun _ => 0) (fun _ => 0) (fun _ => 0) (fun _ => 0) (fun _ => 0) (fun _ => 0) (fun _ => 0) (fun _ => 0) (fun _ => 0) (fun _ => 0) (fun _ => 0) (fun _ => 0) (fun _ => 0) (fun _ => 0) (fun _ => 0) (fun _ => 0) jLan (fun _ => 0) (fun _ => 0) (fun _ => 0) 0 (fun _ => 0) 0 0 iSet iFar7 (fun _ => 0) iCur (fun _ => 0) iDep iFars (fun _ => 0) (fun _ => 0) (fun _ => 0) (fun _ => 0) (fun _ => 0) (fun _ => 0) (fun _ => 0) 0 (fun _ => 0) iKnown 0 0 (fun _ => 0) (fun _ => 0) (fun _ => 0) (fun _ => 0) 0 0 iSet iFar7 (fun _ => 0) iCur (fun _ => 0) iDep iFars (fun _ => 0) (fun _ => 0) (fun _ => 0) (fun _ => 0) (fun _ => 0) (fun _ => 0) (fun _ => 0) 1 0 0 0 0 0 0 (-1) (-1) 0 0 0 (fun _ => 0) (fun _ => 0) (fun _ => 0) (fun _ => 0) (fun _ => 0) (fun _ => 0) (fun _ => 0) (fun _ => 0) 1 0 0 0 0 0 0 (-1) (-1) 0 0 0 (fun _ => 0) (fun _ => 0) (fun _ => 0) (fun _ => 0) (fun _ => 0) (fun _ => 0) (fun _ => 0) (fun _ => 0) (fun _ => (-1)) (fun _ => 0) (fun _ _ => 0)) (fun u : Int32 => u = 1) := by
  unfold f_L_law_B530
  have a1 : (v3 + 1).toInt = v3.toInt + (1 : Int) := i_add2 rfl rfl (by omega) (by omega)
  have a2 : (v3 + 2).toInt = v3.toInt + (2 : Int) := i_add2 rfl rfl (by omega) (by omega)
  have a3 : (v3 + 3).toInt = v3.toInt + (3 : Int) := i_add2 rfl rfl (by omega) (by omega)
  have a4 : (v3 + 4).toInt = v3.toInt + (4 : Int) := i_add2 rfl rfl (by omega) (by omega)
  have a5 : (v3 + 5).toInt = v3.toInt + (5 : Int) := i_add2 rfl rfl (by omega) (by omega)
  have ix_1 : ¬ ((v3 + 1) < 0 ∨ L ≤ (v3 + 1).toNatClampNeg) := ix (show 0 ≤ (v3 + 1).toInt by omega) (show (v3 + 1).toInt < (L : Nat) by omega)
  refine ok_chk ix_1 ?_
  have ix_2 : ¬ ((v3 + 2) < 0 ∨ L ≤ (v3 + 2).toNatClampNeg) := ix (show 0 ≤ (v3 + 2).toInt by omega) (show (v3 + 2).toInt < (L : Nat) by omega)
  refine ok_chk ix_2 ?_
  refine ok_bd2 (s_X6_depth (xs (v3 + 1).toNatClampNeg) (xs (v3 + 2).toNatClampNeg) iDep) (fun r_3 w_4 q_5 => ?_)
  replace q_5 : ((0 ≤ (xs (v3 + 1).toNatClampNeg).toInt ∧ (xs (v3 + 1).toNatClampNeg).toInt < 100 ∧ 1 ≤ (xs (v3 + 2).toNatClampNeg).toInt ∧ (xs (v3 + 2).toNatClampNeg).toInt ≤ 9) ∧ r_3 = iDep (xs (v3 + 1).toNatClampNeg).toNatClampNeg ∧ w_4 = upd iDep (xs (v3 + 1).toNatClampNeg).toNatClampNeg (xs (v3 + 2).toNatClampNeg)) ∨ (¬ (0 ≤ (xs (v3 + 1).toNatClampNeg).toInt ∧ (xs (v3 + 1).toNatClampNeg).toInt < 100 ∧ 1 ≤ (xs (v3 + 2).toNatClampNeg).toInt ∧ (xs (v3 + 2).toNatClampNeg).toInt ≤ 9) ∧ r_3.toInt = -1 ∧ w_4 = iDep) := q_5
  refine ok_chk ix_1 ?_
  refine ok_chk ix_2 ?_
  refine ok_bd2 (s_X7_depth (xs (v3 + 1).toNatClampNeg) (xs (v3 + 2).toNatClampNeg) iDep) (fun r_6 w_7 q_8 => ?_)
  replace q_8 : ((0 ≤ (xs (v3 + 1).toNatClampNeg).toInt ∧ (xs (v3 + 1).toNatClampNeg).toInt < 100 ∧ 1 ≤ (xs (v3 + 2).toNatClampNeg).toInt ∧ (xs (v3 + 2).toNatClampNeg).toInt ≤ 9) ∧ r_6 = iDep (xs (v3 + 1).toNatClampNeg).toNatClampNeg ∧ w_7 = upd iDep (xs (v3 + 1).toNatClampNeg).toNatClampNeg (xs (v3 + 2).toNatClampNeg)) ∨ (¬ (0 ≤ (xs (v3 + 1).toNatClampNeg).toInt ∧ (xs (v3 + 1).toNatClampNeg).toInt < 100 ∧ 1 ≤ (xs (v3 + 2).toNatClampNeg).toInt ∧ (xs (v3 + 2).toNatClampNeg).toInt ≤ 9) ∧ r_6.toInt = -1 ∧ w_7 = iDep) := q_8
  obtain ⟨hr, _⟩ := upd_same (n := 100) (fun _ _ => rfl) q_5 q_8 (fun z => by rw [i_cl]; omega)
  refine ok_ite (fun c_9 => ?_) (fun c_9 => ?_)
  · skip
    have c_9 : r_3.toInt = r_6.toInt := i_eq.mp c_9
    unfold f_L_law_B1235
    have f6 : (v3 + 6).toInt = v3.toInt + (6 : Int) := i_add2 rfl rfl (by omega) (by omega)
    refine ok_nmi (fun x6 hx6 kx6 => ?_)
    exact q_end L xs hL n18 x6 (by omega) _ _ _ _ _ _ _ _ _ _ _ _ _ _ _ _ _ _ _ _ _ _ _ _ _ _ _ _ _ _ _ _ _ _ _ _ _ _ _ _ _ _ _ _ _ _ _ _ _ _ _ _ _ _ _ _ _ _ _ _ _ _ _ _ _ _ _ _ _ _ _ _ _ _ _ _ _ _ _ _ _ _ _ _ _ _ _ _ _ _ _ _ _ _ _ _ _ _ _ _ _ _ _ _ _ _ _ _ _ _ _ _ _ _ _ _ _ _ _ _ _ _ _ _ _ _ _ _ _ _ _
  · skip
    have c_9 : ¬ r_3.toInt = r_6.toInt := fun z => c_9 (i_eq.mpr z)
    exfalso; omega
set_option maxRecDepth 100000 in
set_option maxHeartbeats 4000000 in
theorem q_B563 (L : Nat) (xs : Nat → Int32) (hL : L ≤ 6) (h6 : 6 ≤ L) (n18 : Nat) (v3 : Int32) (i0 : v3.toInt = 0) : okP (f_L_law_B563 L xs (f_L_law_L18 L xs (n18 + 1)) v3 0 1 1 0 0 0 0 0 0 0 0 0 0 0 0 0 jSet jFar7 (fun _ => 0) iCur (fun _ => 0) iDep (fun _ => 0) (fun _ => 0) (fun _ => 0) (fun _ => 0) (fun _ => 0) (fun _ => 0) (fun _ => 0) (fun _ => 0) (fun _ => 0) (fun _ => 0) (fun _ => 0) (fun _ => 0) (fun _ => 0) (fun _ => 0) (fun _ => 0) (fun _ => 0) (fun _ => 0) (fun _ => 0) (fun _ => 0) jLan (fun _ => 0) (fun _ => 0) (fun _ => 0) 0 (fun _ => 0) 0 0 iSet iFar7 (fun _ => 0) iCur (fun _ => 0) iDep iFars (fun _ => 0) (fun _ => 0) (fun _ => 0) (fun _ => 0) (fun _ => 0) (fun _ => 0) (fun _ => 0) 0 (fun _ => 0) iKnown 0 0 (fun _ => 0) (fun _ => 0) (fun _ => 0) (fun _ => 0) 0 0 iSet iFar7 (fun _ => 0) iCur (fun _ => 0) iDep iFars (fun _ => 0) (fun _ => 0) (fun _ => 0) (fun _ => 0) (fun _ => 0) (fun _ => 0) (fun _ => 0) 1 0 0 0 0 0 0 (-1) (-1) 0 0 0 (fun _ => 0) (fun _ => 0) (fun _ => 0) (fun _ => 0) (fun _ => 0) (fun _ => 0) (fun _ => 0) (fun _ => 0) 1 0 0 0 0 0 0 (-1) (-1) 0 0 0 (fun _ => 0) (fun _ => 0) (fun _ => 0) (fun _ => 0) (fun _ => 0) (fun _ => 0) (fun _ => 0) (fun _ => 0) (fun _ => (-1)) (fun _ => 0) (fun _ _ => 0)) (fun u : Int32 => u = 1) := by
  unfold f_L_law_B563
  have a1 : (v3 + 1).toInt = v3.toInt + (1 : Int) := i_add2 rfl rfl (by omega) (by omega)
  have a2 : (v3 + 2).toInt = v3.toInt + (2 : Int) := i_add2 rfl rfl (by omega) (by omega)
  have a3 : (v3 + 3).toInt = v3.toInt + (3 : Int) := i_add2 rfl rfl (by omega) (by omega)
  have a4 : (v3 + 4).toInt = v3.toInt + (4 : Int) := i_add2 rfl rfl (by omega) (by omega)
  have a5 : (v3 + 5).toInt = v3.toInt + (5 : Int) := i_add2 rfl rfl (by omega) (by omega)
  have ix_1 : ¬ ((v3 + 1) < 0 ∨ L ≤ (v3 + 1).toNatClampNeg) := ix (show 0 ≤ (v3 + 1).toInt by omega) (show (v3 + 1).toInt < (L : Nat) by omega)
  refine ok_chk ix_1 ?_
  have ix_2 : ¬ ((v3 + 2) < 0 ∨ L ≤ (v3 + 2).toNatClampNeg) := ix (show 0 ≤ (v3 + 2).toInt by omega) (show (v3 + 2).toInt < (L : Nat) by omega)
  refine ok_chk ix_2 ?_
  have ix_3 : ¬ ((v3 + 3) < 0 ∨ L ≤ (v3 + 3).toNatClampNeg) := ix (show 0 ≤ (v3 + 3).toInt by omega) (show (v3 + 3).toInt < (L : Nat) by omega)
  refine ok_chk ix_3 ?_
  have ix_4 : ¬ ((v3 + 4) < 0 ∨ L ≤ (v3 + 4).toNatClampNeg) := ix (show 0 ≤ (v3 + 4).toInt by omega) (show (v3 + 4).toInt < (L : Nat) by omega)
  refine ok_chk ix_4 ?_
  have ix_5 : ¬ ((v3 + 5) < 0 ∨ L ≤ (v3 + 5).toNatClampNeg) := ix (show 0 ≤ (v3 + 5).toInt by omega) (show (v3 + 5).toInt < (L : Nat) by omega)
  refine ok_chk ix_5 ?_
  refine ok_bd9 (s_X6_piece (xs (v3 + 1).toNatClampNeg) (xs (v3 + 2).toNatClampNeg) (xs (v3 + 3).toNatClampNeg) (xs (v3 + 4).toNatClampNeg) (xs (v3 + 5).toNatClampNeg) 1 0 ((fun _ => 0) : Nat → Int32) ((fun _ => 0) : Nat → Int32) ((fun _ => 0) : Nat → Int32) ((fun _ => 0) : Nat → Int32) ((fun _ => 0) : Nat → Int32) iKnown (show 0 ≤ (0 : Int) by first | omega | decide) (show (0 : Int) ≤ 4 by first | omega | decide)) (fun r_6 w_7 w_8 w_9 w_10 w_11 w_12 w_13 w_14 q_15 => ?_)
  obtain ⟨q_15_0, q_15_1, q_15_2⟩ : (0 ≤ w_8.toInt) ∧ (w_8.toInt ≤ 4) ∧ ((¬ (0 ≤ (xs (v3 + 1).toNatClampNeg).toInt ∧ (xs (v3 + 1).toNatClampNeg).toInt < 100 ∧ 1 ≤ (xs (v3 + 2).toNatClampNeg).toInt ∧ (xs (v3 + 2).toNatClampNeg).toInt ≤ 24 ∧ 0 ≤ (xs (v3 + 3).toNatClampNeg).toInt ∧ (xs (v3 + 3).toNatClampNeg).toInt ≤ 1 ∧ 0 ≤ (xs (v3 + 4).toNatClampNeg).toInt ∧ (xs (v3 + 4).toNatClampNeg).toInt ≤ (xs (v3 + 2).toNatClampNeg).toInt ∧ 0 ≤ (xs (v3 + 5).toNatClampNeg).toInt ∧ (xs (v3 + 5).toNatClampNeg).toInt ≤ 9) ∧ r_6.toInt = -1 ∧ w_8.toInt = (0 : Int)) ∨ ((0 ≤ (xs (v3 + 1).toNatClampNeg).toInt ∧ (xs (v3 + 1).toNatClampNeg).toInt < 100 ∧ 1 ≤ (xs (v3 + 2).toNatClampNeg).toInt ∧ (xs (v3 + 2).toNatClampNeg).toInt ≤ 24 ∧ 0 ≤ (xs (v3 + 3).toNatClampNeg).toInt ∧ (xs (v3 + 3).toNatClampNeg).toInt ≤ 1 ∧ 0 ≤ (xs (v3 + 4).toNatClampNeg).toInt ∧ (xs (v3 + 4).toNatClampNeg).toInt ≤ (xs (v3 + 2).toNatClampNeg).toInt ∧ 0 ≤ (xs (v3 + 5).toNatClampNeg).toInt ∧ (xs (v3 + 5).toNatClampNeg).toInt ≤ 9) ∧ 4 ≤ (0 : Int) ∧ r_6.toInt = -3 ∧ w_8.toInt = (0 : Int)) ∨ ((0 ≤ (xs (v3 + 1).toNatClampNeg).toInt ∧ (xs (v3 + 1).toNatClampNeg).toInt < 100 ∧ 1 ≤ (xs (v3 + 2).toNatClampNeg).toInt ∧ (xs (v3 + 2).toNatClampNeg).toInt ≤ 24 ∧ 0 ≤ (xs (v3 + 3).toNatClampNeg).toInt ∧ (xs (v3 + 3).toNatClampNeg).toInt ≤ 1 ∧ 0 ≤ (xs (v3 + 4).toNatClampNeg).toInt ∧ (xs (v3 + 4).toNatClampNeg).toInt ≤ (xs (v3 + 2).toNatClampNeg).toInt ∧ 0 ≤ (xs (v3 + 5).toNatClampNeg).toInt ∧ (xs (v3 + 5).toNatClampNeg).toInt ≤ 9) ∧ (0 : Int) < 4 ∧ r_6.toInt = (0 : Int) ∧ w_8.toInt = (0 : Int) + 1)) := q_15
  refine ok_chk ix_1 ?_
  refine ok_chk ix_2 ?_
  refine ok_chk ix_3 ?_
  refine ok_chk ix_4 ?_
  refine ok_chk ix_5 ?_
  refine ok_bd3 (s_X7_piece (xs (v3 + 1).toNatClampNeg) (xs (v3 + 2).toNatClampNeg) (xs (v3 + 3).toNatClampNeg) (xs (v3 + 4).toNatClampNeg) (xs (v3 + 5).toNatClampNeg) 0 ((fun _ => 0) : Nat → Int32) (show 0 ≤ (0 : Int) by first | omega | decide) (show (0 : Int) ≤ 4 by first | omega | decide)) (fun r_16 w_17 w_18 q_19 => ?_)
  obtain ⟨q_19_0, q_19_1, q_19_2⟩ : (0 ≤ w_17.toInt) ∧ (w_17.toInt ≤ 4) ∧ ((¬ (0 ≤ (xs (v3 + 1).toNatClampNeg).toInt ∧ (xs (v3 + 1).toNatClampNeg).toInt < 100 ∧ 1 ≤ (xs (v3 + 2).toNatClampNeg).toInt ∧ (xs (v3 + 2).toNatClampNeg).toInt ≤ 24 ∧ 0 ≤ (xs (v3 + 3).toNatClampNeg).toInt ∧ (xs (v3 + 3).toNatClampNeg).toInt ≤ 1 ∧ 0 ≤ (xs (v3 + 4).toNatClampNeg).toInt ∧ (xs (v3 + 4).toNatClampNeg).toInt ≤ (xs (v3 + 2).toNatClampNeg).toInt ∧ 0 ≤ (xs (v3 + 5).toNatClampNeg).toInt ∧ (xs (v3 + 5).toNatClampNeg).toInt ≤ 9) ∧ r_16.toInt = -1 ∧ w_17.toInt = (0 : Int)) ∨ ((0 ≤ (xs (v3 + 1).toNatClampNeg).toInt ∧ (xs (v3 + 1).toNatClampNeg).toInt < 100 ∧ 1 ≤ (xs (v3 + 2).toNatClampNeg).toInt ∧ (xs (v3 + 2).toNatClampNeg).toInt ≤ 24 ∧ 0 ≤ (xs (v3 + 3).toNatClampNeg).toInt ∧ (xs (v3 + 3).toNatClampNeg).toInt ≤ 1 ∧ 0 ≤ (xs (v3 + 4).toNatClampNeg).toInt ∧ (xs (v3 + 4).toNatClampNeg).toInt ≤ (xs (v3 + 2).toNatClampNeg).toInt ∧ 0 ≤ (xs (v3 + 5).toNatClampNeg).toInt ∧ (xs (v3 + 5).toNatClampNeg).toInt ≤ 9) ∧ 4 ≤ (0 : Int) ∧ r_16.toInt = -3 ∧ w_17.toInt = (0 : Int)) ∨ ((0 ≤ (xs (v3 + 1).toNatClampNeg).toInt ∧ (xs (v3 + 1).toNatClampNeg).toInt < 100 ∧ 1 ≤ (xs (v3 + 2).toNatClampNeg).toInt ∧ (xs (v3 + 2).toNatClampNeg).toInt ≤ 24 ∧ 0 ≤ (xs (v3 + 3).toNatClampNeg).toInt ∧ (xs (v3 + 3).toNatClampNeg).toInt ≤ 1 ∧ 0 ≤ (xs (v3 + 4).toNatClampNeg).toInt ∧ (xs (v3 + 4).toNatClampNeg).toInt ≤ (xs (v3 + 2).toNatClampNeg).toInt ∧ 0 ≤ (xs (v3 + 5).toNatClampNeg).toInt ∧ (xs (v3 + 5).toNatClampNeg).toInt ≤ 9) ∧ (0 : Int) < 4 ∧ r_16.toInt = (0 : Int) ∧ w_17.toInt = (0 : Int) + 1)) := q_19
  obtain ⟨hr, _⟩ := cnt_same (a := 0) (b := 0) rfl q_15_2 q_19_2
  refine ok_ite (fun c_20 => ?_) (fun c_20 => ?_)
  · skip
    have c_20 : r_6.toInt = r_16.toInt := i_eq.mp c_20
    unfold f_L_law_B1235
    have f6 : (v3 + 6).toInt = v3.toInt + (6 : Int) := i_add2 rfl rfl (by omega) (by omega)
    refine ok_nmi (fun x6 hx6 kx6 => ?_)
    exact q_end L xs hL n18 x6 (by omega) _ _ _ _ _ _ _ _ _ _ _ _ _ _ _ _ _ _ _ _ _ _ _ _ _ _ _ _ _ _ _ _ _ _ _ _ _ _ _ _ _ _ _ _ _ _ _ _ _ _ _ _ _ _ _ _ _ _ _ _ _ _ _ _ _ _ _ _ _ _ _ _ _ _ _ _ _ _ _ _ _ _ _ _ _ _ _ _ _ _ _ _ _ _ _ _ _ _ _ _ _ _ _ _ _ _ _ _ _ _ _ _ _ _ _ _ _ _ _ _ _ _ _ _ _ _ _ _ _ _ _
  · skip
    have c_20 : ¬ r_6.toInt = r_16.toInt := fun z => c_20 (i_eq.mpr z)
    exfalso; omega
set_option maxRecDepth 100000 in
set_option maxHeartbeats 4000000 in
theorem q_B626 (L : Nat) (xs : Nat → Int32) (hL : L ≤ 6) (h6 : 6 ≤ L) (n18 : Nat) (v3 : Int32) (i0 : v3.toInt = 0) : okP (f_L_law_B626 L xs (f_L_law_L18 L xs (n18 + 1)) v3 0 1 1 0 0 0 0 0 0 0 0 0 0 0 0 0 jSet jFar7 (fun _ => 0) iCur (fun _ => 0) iDep (fun _ => 0) (fun _ => 0) (fun _ => 0) (fun _ => 0) (fun _ => 0) (fun _ => 0) (fun _ => 0) (fun _ => 0) (fun _ => 0) (fun _ => 0) (fun _ => 0) (fun _ => 0) (fun _ => 0) (fun _ => 0) (fun _ => 0) (fun _ => 0) (fun _ => 0) (fun _ => 0) (fun _ => 0) jLan (fun _ => 0) (fun _ => 0) (fun _ => 0) 0 (fun _ => 0) 0 0 iSet iFar7 (fun _ => 0) iCur (fun _ => 0) iDep iFars (fun _ => 0) (fun _ => 0) (fun _ => 0) (fun _ => 0) (fun _ => 0) (fun _ => 0) (fun _ => 0) 0 (fun _ => 0) iKnown 0 0 (fun _ => 0) (fun _ => 0) (fun _ => 0) (fun _ => 0) 0 0 iSet iFar7 (fun _ => 0) iCur (fun _ => 0) iDep iFars (fun _ => 0) (fun _ => 0) (fun _ => 0) (fun _ => 0) (fun _ => 0) (fun _ => 0) (fun _ => 0) 1 0 0 0 0 0 0 (-1) (-1) 0 0 0 (fun _ => 0) (fun _ => 0) (fun _ => 0) (fun _ => 0) (fun _ => 0) (fun _ => 0) (fun _ => 0) (fun _ => 0) 1 0 0 0 0 0 0 (-1) (-1) 0 0 0 (fun _ => 0) (fun _ => 0) (fun _ => 0) (fun _ => 0) (fun _ => 0) (fun _ => 0) (fun _ => 0) (fun _ => 0) (fun _ => (-1)) (fun _ => 0) (fun _ _ => 0)) (fun u : Int32 => u = 1) := by
  unfold f_L_law_B626
  have a1 : (v3 + 1).toInt = v3.toInt + (1 : Int) := i_add2 rfl rfl (by omega) (by omega)
  have a2 : (v3 + 2).toInt = v3.toInt + (2 : Int) := i_add2 rfl rfl (by omega) (by omega)
  have a3 : (v3 + 3).toInt = v3.toInt + (3 : Int) := i_add2 rfl rfl (by omega) (by omega)
  have a4 : (v3 + 4).toInt = v3.toInt + (4 : Int) := i_add2 rfl rfl (by omega) (by omega)
  have a5 : (v3 + 5).toInt = v3.toInt + (5 : Int) := i_add2 rfl rfl (by omega) (by omega)
  have ix_1 : ¬ ((v3 + 1) < 0 ∨ L ≤ (v3 + 1).toNatClampNeg) := ix (show 0 ≤ (v3 + 1).toInt by omega) (show (v3 + 1).toInt < (L : Nat) by omega)
  refine ok_chk ix_1 ?_
  have ix_2 : ¬ ((v3 + 2) < 0 ∨ L ≤ (v3 + 2).toNatClampNeg) := ix (show 0 ≤ (v3 + 2).toInt by omega) (show (v3 + 2).toInt < (L : Nat) by omega)
  refine ok_chk ix_2 ?_
  have ix_3 : ¬ ((v3 + 3) < 0 ∨ L ≤ (v3 + 3).toNatClampNeg) := ix (show 0 ≤ (v3 + 3).toInt by omega) (show (v3 + 3).toInt < (L : Nat) by omega)
  refine ok_chk ix_3 ?_
  refine ok_bd1 (l_X6_drift (xs (v3 + 1).toNatClampNeg) (xs (v3 + 2).toNatClampNeg) (xs (v3 + 3).toNatClampNeg) iSet iCur) (fun r_4 q_5 => ?_)
  replace q_5 : ((0 ≤ (xs (v3 + 1).toNatClampNeg).toInt ∧ (xs (v3 + 1).toNatClampNeg).toInt < 100 ∧ 0 ≤ (xs (v3 + 2).toNatClampNeg).toInt ∧ (xs (v3 + 2).toNatClampNeg).toInt ≤ 24 ∧ 0 ≤ (xs (v3 + 3).toNatClampNeg).toInt ∧ (xs (v3 + 3).toNatClampNeg).toInt ≤ 1) ∧ r_4.toInt = drS iCur (iSet 7).toInt (xs (v3 + 3).toNatClampNeg).toInt (xs (v3 + 1).toNatClampNeg).toInt (xs (v3 + 2).toNatClampNeg).toInt.toNat) ∨ (¬ (0 ≤ (xs (v3 + 1).toNatClampNeg).toInt ∧ (xs (v3 + 1).toNatClampNeg).toInt < 100 ∧ 0 ≤ (xs (v3 + 2).toNatClampNeg).toInt ∧ (xs (v3 + 2).toNatClampNeg).toInt ≤ 24 ∧ 0 ≤ (xs (v3 + 3).toNatClampNeg).toInt ∧ (xs (v3 + 3).toNatClampNeg).toInt ≤ 1) ∧ r_4.toInt = -1) := q_5
  refine ok_chk ix_1 ?_
  refine ok_chk ix_2 ?_
  refine ok_chk ix_3 ?_
  refine ok_bd1 (l_X7_drift (xs (v3 + 1).toNatClampNeg) (xs (v3 + 2).toNatClampNeg) (xs (v3 + 3).toNatClampNeg) jSet iCur (by first | with_reducible rfl | exact EqN_ij | exact LaR_0 | exact FarOK_i | exact TapR_0 rfl rfl | exact TRng_0 rfl | exact fun j hj => absurd hj (by omega) | exact CurOK_i | exact PieR_i | exact PieOK_i | exact KnO_i _ _ _ _ _ _ _ _ | exact SetOK_i | exact SetOK_j | exact fun z => absurd rfl z | exact fun j _ => (show 0 ≤ (0 : Int32).toInt ∧ (0 : Int32).toInt ≤ 16 by decide) | exact fun _ _ => rfl | decide) (by first | with_reducible rfl | exact EqN_ij | exact LaR_0 | exact FarOK_i | exact TapR_0 rfl rfl | exact TRng_0 rfl | exact fun j hj => absurd hj (by omega) | exact CurOK_i | exact PieR_i | exact PieOK_i | exact KnO_i _ _ _ _ _ _ _ _ | exact SetOK_i | exact SetOK_j | exact fun z => absurd rfl z | exact fun j _ => (show 0 ≤ (0 : Int32).toInt ∧ (0 : Int32).toInt ≤ 16 by decide) | exact fun _ _ => rfl | decide)) (fun r_6 q_7 => ?_)
  replace q_7 : ((0 ≤ (xs (v3 + 1).toNatClampNeg).toInt ∧ (xs (v3 + 1).toNatClampNeg).toInt < 100 ∧ 0 ≤ (xs (v3 + 2).toNatClampNeg).toInt ∧ (xs (v3 + 2).toNatClampNeg).toInt ≤ 24 ∧ 0 ≤ (xs (v3 + 3).toNatClampNeg).toInt ∧ (xs (v3 + 3).toNatClampNeg).toInt ≤ 1) ∧ r_6.toInt = drS iCur (jSet 7).toInt (xs (v3 + 3).toNatClampNeg).toInt (xs (v3 + 1).toNatClampNeg).toInt (xs (v3 + 2).toNatClampNeg).toInt.toNat) ∨ (¬ (0 ≤ (xs (v3 + 1).toNatClampNeg).toInt ∧ (xs (v3 + 1).toNatClampNeg).toInt < 100 ∧ 0 ≤ (xs (v3 + 2).toNatClampNeg).toInt ∧ (xs (v3 + 2).toNatClampNeg).toInt ≤ 24 ∧ 0 ≤ (xs (v3 + 3).toNatClampNeg).toInt ∧ (xs (v3 + 3).toNatClampNeg).toInt ≤ 1) ∧ r_6.toInt = -1) := q_7
  have hr := drift_same (show EqN 200 iCur iCur from fun _ _ => rfl) EqN_ij q_5 q_7
  refine ok_ite (fun c_8 => ?_) (fun c_8 => ?_)
  · skip
    have c_8 : r_4.toInt = r_6.toInt := i_eq.mp c_8
    unfold f_L_law_B1235
    have f6 : (v3 + 6).toInt = v3.toInt + (6 : Int) := i_add2 rfl rfl (by omega) (by omega)
    refine ok_nmi (fun x6 hx6 kx6 => ?_)
    exact q_end L xs hL n18 x6 (by omega) _ _ _ _ _ _ _ _ _ _ _ _ _ _ _ _ _ _ _ _ _ _ _ _ _ _ _ _ _ _ _ _ _ _ _ _ _ _ _ _ _ _ _ _ _ _ _ _ _ _ _ _ _ _ _ _ _ _ _ _ _ _ _ _ _ _ _ _ _ _ _ _ _ _ _ _ _ _ _ _ _ _ _ _ _ _ _ _ _ _ _ _ _ _ _ _ _ _ _ _ _ _ _ _ _ _ _ _ _ _ _ _ _ _ _ _ _ _ _ _ _ _ _ _ _ _ _ _ _ _ _
  · skip
    have c_8 : ¬ r_4.toInt = r_6.toInt := fun z => c_8 (i_eq.mpr z)
    exfalso; omega
set_option maxRecDepth 100000 in
set_option maxHeartbeats 4000000 in
theorem q_B669 (L : Nat) (xs : Nat → Int32) (hL : L ≤ 6) (h6 : 6 ≤ L) (n18 : Nat) (v3 : Int32) (i0 : v3.toInt = 0) : okP (f_L_law_B669 L xs (f_L_law_L18 L xs (n18 + 1)) v3 0 1 1 0 0 0 0 0 0 0 0 0 0 0 0 0 jSet jFar7 (fun _ => 0) iCur (fun _ => 0) iDep (fun _ => 0) (fun _ => 0) (fun _ => 0) (fun _ => 0) (fun _ => 0) (fun _ => 0) (fun _ => 0) (fun _ => 0) (fun _ => 0) (fun _ => 0) (fun _ => 0) (fun _ => 0) (fun _ => 0) (fun _ => 0) (fun _ => 0) (fun _ => 0) (fun _ => 0) (fun _ => 0) (fun _ => 0) jLan (fun _ => 0) (fun _ => 0) (fun _ => 0) 0 (fun _ => 0) 0 0 iSet iFar7 (fun _ => 0) iCur (fun _ => 0) iDep iFars (fun _ => 0) (fun _ => 0) (fun _ => 0) (fun _ => 0) (fun _ => 0) (fun _ => 0) (fun _ => 0) 0 (fun _ => 0) iKnown 0 0 (fun _ => 0) (fun _ => 0) (fun _ => 0) (fun _ => 0) 0 0 iSet iFar7 (fun _ => 0) iCur (fun _ => 0) iDep iFars (fun _ => 0) (fun _ => 0) (fun _ => 0) (fun _ => 0) (fun _ => 0) (fun _ => 0) (fun _ => 0) 1 0 0 0 0 0 0 (-1) (-1) 0 0 0 (fun _ => 0) (fun _ => 0) (fun _ => 0) (fun _ => 0) (fun _ => 0) (fun _ => 0) (fun _ => 0) (fun _ => 0) 1 0 0 0 0 0 0 (-1) (-1) 0 0 0 (fun _ => 0) (fun _ => 0) (fun _ => 0) (fun _ => 0) (fun _ => 0) (fun _ => 0) (fun _ => 0) (fun _ => 0) (fun _ => (-1)) (fun _ => 0) (fun _ _ => 0)) (fun u : Int32 => u = 1) := by
  unfold f_L_law_B669
  have a1 : (v3 + 1).toInt = v3.toInt + (1 : Int) := i_add2 rfl rfl (by omega) (by omega)
  have a2 : (v3 + 2).toInt = v3.toInt + (2 : Int) := i_add2 rfl rfl (by omega) (by omega)
  have a3 : (v3 + 3).toInt = v3.toInt + (3 : Int) := i_add2 rfl rfl (by omega) (by omega)
  have a4 : (v3 + 4).toInt = v3.toInt + (4 : Int) := i_add2 rfl rfl (by omega) (by omega)
  have a5 : (v3 + 5).toInt = v3.toInt + (5 : Int) := i_add2 rfl rfl (by omega) (by omega)
  have ix_1 : ¬ ((v3 + 1) < 0 ∨ L ≤ (v3 + 1).toNatClampNeg) := ix (show 0 ≤ (v3 + 1).toInt by omega) (show (v3 + 1).toInt < (L : Nat) by omega)
  refine ok_chk ix_1 ?_
  have ix_2 : ¬ ((v3 + 2) < 0 ∨ L ≤ (v3 + 2).toNatClampNeg) := ix (show 0 ≤ (v3 + 2).toInt by omega) (show (v3 + 2).toInt < (L : Nat) by omega)
  refine ok_chk ix_2 ?_
  refine ok_bd2 (k_X6_fits (xs (v3 + 1).toNatClampNeg) (xs (v3 + 2).toNatClampNeg) 0 iSet iCur ((fun _ => 0) : Nat → Int32) ((fun _ => 0) : Nat → Int32) ((fun _ => 0) : Nat → Int32) ((fun _ => 0) : Nat → Int32) ((fun _ => 0) : Nat → Int32) ((fun _ => 0) : Nat → Int32) iKnown (show 0 ≤ (0 : Int) by first | omega | decide) (show (0 : Int) ≤ 4 by first | omega | decide) (by first | with_reducible rfl | exact EqN_ij | exact LaR_0 | exact FarOK_i | exact TapR_0 rfl rfl | exact TRng_0 rfl | exact fun j hj => absurd hj (by omega) | exact CurOK_i | exact PieR_i | exact PieOK_i | exact KnO_i _ _ _ _ _ _ _ _ | exact SetOK_i | exact SetOK_j | exact fun z => absurd rfl z | exact fun j _ => (show 0 ≤ (0 : Int32).toInt ∧ (0 : Int32).toInt ≤ 16 by decide) | exact fun _ _ => rfl | decide) (by first | with_reducible rfl | exact EqN_ij | exact LaR_0 | exact FarOK_i | exact TapR_0 rfl rfl | exact TRng_0 rfl | exact fun j hj => absurd hj (by omega) | exact CurOK_i | exact PieR_i | exact PieOK_i | exact KnO_i _ _ _ _ _ _ _ _ | exact SetOK_i | exact SetOK_j | exact fun z => absurd rfl z | exact fun j _ => (show 0 ≤ (0 : Int32).toInt ∧ (0 : Int32).toInt ≤ 16 by decide) | exact fun _ _ => rfl | decide)) (fun r_3 w_4 q_5 => ?_)
  obtain ⟨q_5_0, q_5_1⟩ : (((0 ≤ (xs (v3 + 1).toNatClampNeg).toInt ∧ (xs (v3 + 1).toNatClampNeg).toInt < (0 : Int) ∧ 0 ≤ (xs (v3 + 2).toNatClampNeg).toInt ∧ (xs (v3 + 2).toNatClampNeg).toInt < 100) ∧ FitP iCur ((fun _ => 0) : Nat → Int32) (iSet 7).toInt (((fun _ => 0) : Nat → Int32) (xs (v3 + 1).toNatClampNeg).toNatClampNeg).toInt (((fun _ => 0) : Nat → Int32) (xs (v3 + 1).toNatClampNeg).toNatClampNeg).toInt (((fun _ => 0) : Nat → Int32) (xs (v3 + 1).toNatClampNeg).toNatClampNeg).toInt (((fun _ => 0) : Nat → Int32) (xs (v3 + 1).toNatClampNeg).toNatClampNeg).toInt (((fun _ => 0) : Nat → Int32) (xs (v3 + 1).toNatClampNeg).toNatClampNeg).toInt (xs (v3 + 2).toNatClampNeg).toInt r_3.toInt) ∨ (¬ (0 ≤ (xs (v3 + 1).toNatClampNeg).toInt ∧ (xs (v3 + 1).toNatClampNeg).toInt < (0 : Int) ∧ 0 ≤ (xs (v3 + 2).toNatClampNeg).toInt ∧ (xs (v3 + 2).toNatClampNeg).toInt < 100) ∧ r_3.toInt = -1)) ∧ (KnO w_4 iSet iCur ((fun _ => 0) : Nat → Int32) ((fun _ => 0) : Nat → Int32) ((fun _ => 0) : Nat → Int32) ((fun _ => 0) : Nat → Int32) ((fun _ => 0) : Nat → Int32) ((fun _ => 0) : Nat → Int32)) := q_5
  refine ok_chk ix_1 ?_
  refine ok_chk ix_2 ?_
  refine ok_bd1 (k_X7_fits (xs (v3 + 1).toNatClampNeg) (xs (v3 + 2).toNatClampNeg) 0 jSet iCur ((fun _ => 0) : Nat → Int32) ((fun _ => 0) : Nat → Int32) (by first | with_reducible rfl | exact EqN_ij | exact LaR_0 | exact FarOK_i | exact TapR_0 rfl rfl | exact TRng_0 rfl | exact fun j hj => absurd hj (by omega) | exact CurOK_i | exact PieR_i | exact PieOK_i | exact KnO_i _ _ _ _ _ _ _ _ | exact SetOK_i | exact SetOK_j | exact fun z => absurd rfl z | exact fun j _ => (show 0 ≤ (0 : Int32).toInt ∧ (0 : Int32).toInt ≤ 16 by decide) | exact fun _ _ => rfl | decide) (show 0 ≤ (0 : Int) by first | omega | decide) (show (0 : Int) ≤ 4 by first | omega | decide) (by first | with_reducible rfl | exact EqN_ij | exact LaR_0 | exact FarOK_i | exact TapR_0 rfl rfl | exact TRng_0 rfl | exact fun j hj => absurd hj (by omega) | exact CurOK_i | exact PieR_i | exact PieOK_i | exact KnO_i _ _ _ _ _ _ _ _ | exact SetOK_i | exact SetOK_j | exact fun z => absurd rfl z | exact fun j _ => (show 0 ≤ (0 : Int32).toInt ∧ (0 : Int32).toInt ≤ 16 by decide) | exact fun _ _ => rfl | decide) (by first | with_reducible rfl | exact EqN_ij | exact LaR_0 | exact FarOK_i | exact TapR_0 rfl rfl | exact TRng_0 rfl | exact fun j hj => absurd hj (by omega) | exact CurOK_i | exact PieR_i | exact PieOK_i | exact KnO_i _ _ _ _ _ _ _ _ | exact SetOK_i | exact SetOK_j | exact fun z => absurd rfl z | exact fun j _ => (show 0 ≤ (0 : Int32).toInt ∧ (0 : Int32).toInt ≤ 16 by decide) | exact fun _ _ => rfl | decide)) (fun r_6 q_7 => ?_)
  replace q_7 : ((0 ≤ (xs (v3 + 1).toNatClampNeg).toInt ∧ (xs (v3 + 1).toNatClampNeg).toInt < (0 : Int) ∧ 0 ≤ (xs (v3 + 2).toNatClampNeg).toInt ∧ (xs (v3 + 2).toNatClampNeg).toInt < 100) ∧ FitP iCur ((fun _ => 0) : Nat → Int32) (jSet 7).toInt (((fun _ => 0) : Nat → Int32) (5 * (xs (v3 + 1).toNatClampNeg).toNatClampNeg)).toInt (((fun _ => 0) : Nat → Int32) (5 * (xs (v3 + 1).toNatClampNeg).toNatClampNeg + 1)).toInt (((fun _ => 0) : Nat → Int32) (5 * (xs (v3 + 1).toNatClampNeg).toNatClampNeg + 2)).toInt (((fun _ => 0) : Nat → Int32) (5 * (xs (v3 + 1).toNatClampNeg).toNatClampNeg + 3)).toInt (((fun _ => 0) : Nat → Int32) (5 * (xs (v3 + 1).toNatClampNeg).toNatClampNeg + 4)).toInt (xs (v3 + 2).toNatClampNeg).toInt r_6.toInt) ∨ (¬ (0 ≤ (xs (v3 + 1).toNatClampNeg).toInt ∧ (xs (v3 + 1).toNatClampNeg).toInt < (0 : Int) ∧ 0 ≤ (xs (v3 + 2).toNatClampNeg).toInt ∧ (xs (v3 + 2).toNatClampNeg).toInt < 100) ∧ r_6.toInt = -1) := q_7
  have hr := fits0 q_5_0 q_7
  refine ok_ite (fun c_8 => ?_) (fun c_8 => ?_)
  · skip
    have c_8 : r_3.toInt = r_6.toInt := i_eq.mp c_8
    unfold f_L_law_B1235
    have f6 : (v3 + 6).toInt = v3.toInt + (6 : Int) := i_add2 rfl rfl (by omega) (by omega)
    refine ok_nmi (fun x6 hx6 kx6 => ?_)
    exact q_end L xs hL n18 x6 (by omega) _ _ _ _ _ _ _ _ _ _ _ _ _ _ _ _ _ _ _ _ _ _ _ _ _ _ _ _ _ _ _ _ _ _ _ _ _ _ _ _ _ _ _ _ _ _ _ _ _ _ _ _ _ _ _ _ _ _ _ _ _ _ _ _ _ _ _ _ _ _ _ _ _ _ _ _ _ _ _ _ _ _ _ _ _ _ _ _ _ _ _ _ _ _ _ _ _ _ _ _ _ _ _ _ _ _ _ _ _ _ _ _ _ _ _ _ _ _ _ _ _ _ _ _ _ _ _ _ _ _ _
  · skip
    have c_8 : ¬ r_3.toInt = r_6.toInt := fun z => c_8 (i_eq.mpr z)
    exfalso; omega
set_option maxRecDepth 100000 in
set_option maxHeartbeats 4000000 in
theorem q_B702 (L : Nat) (xs : Nat → Int32) (hL : L ≤ 6) (h6 : 6 ≤ L) (n18 : Nat) (v3 : Int32) (i0 : v3.toInt = 0) : okP (f_L_law_B702 L xs (f_L_law_L18 L xs (n18 + 1)) v3 0 1 1 0 0 0 0 0 0 0 0 0 0 0 0 0 jSet jFar7 (fun _ => 0) iCur (fun _ => 0) iDep (fun _ => 0) (fun _ => 0) (fun _ => 0) (fun _ => 0) (fun _ => 0) (fun _ => 0) (fun _ => 0) (fun _ => 0) (fun _ => 0) (fun _ => 0) (fun _ => 0) (fun _ => 0) (fun _ => 0) (fun _ => 0) (fun _ => 0) (fun _ => 0) (fun _ => 0) (fun _ => 0) (fun _ => 0) jLan (fun _ => 0) (fun _ => 0) (fun _ => 0) 0 (fun _ => 0) 0 0 iSet iFar7 (fun _ => 0) iCur (fun _ => 0) iDep iFars (fun _ => 0) (fun _ => 0) (fun _ => 0) (fun _ => 0) (fun _ => 0) (fun _ => 0) (fun _ => 0) 0 (fun _ => 0) iKnown 0 0 (fun _ => 0) (fun _ => 0) (fun _ => 0) (fun _ => 0) 0 0 iSet iFar7 (fun _ => 0) iCur (fun _ => 0) iDep iFars (fun _ => 0) (fun _ => 0) (fun _ => 0) (fun _ => 0) (fun _ => 0) (fun _ => 0) (fun _ => 0) 1 0 0 0 0 0 0 (-1) (-1) 0 0 0 (fun _ => 0) (fun _ => 0) (fun _ => 0) (fun _ => 0) (fun _ => 0) (fun _ => 0) (fun _ => 0) (fun _ => 0) 1 0 0 0 0 0 0 (-1) (-1) 0 0 0 (fun _ => 0) (fun _ => 0) (fun _ => 0) (fun _ => 0) (fun _ => 0) (fun _ => 0) (fun _ => 0) (fun _ => 0) (fun _ => (-1)) (fun _ => 0) (fun _ _ => 0)) (fun u : Int32 => u = 1) := by
  unfold f_L_law_B702
  have a1 : (v3 + 1).toInt = v3.toInt + (1 : Int) := i_add2 rfl rfl (by omega) (by omega)
  have a2 : (v3 + 2).toInt = v3.toInt + (2 : Int) := i_add2 rfl rfl (by omega) (by omega)
  have a3 : (v3 + 3).toInt = v3.toInt + (3 : Int) := i_add2 rfl rfl (by omega) (by omega)
  have a4 : (v3 + 4).toInt = v3.toInt + (4 : Int) := i_add2 rfl rfl (by omega) (by omega)
  have a5 : (v3 + 5).toInt = v3.toInt + (5 : Int) := i_add2 rfl rfl (by omega) (by omega)
  have ix_1 : ¬ ((v3 + 1) < 0 ∨ L ≤ (v3 + 1).toNatClampNeg) := ix (show 0 ≤ (v3 + 1).toInt by omega) (show (v3 + 1).toInt < (L : Nat) by omega)
  refine ok_chk ix_1 ?_
  have ix_2 : ¬ ((v3 + 2) < 0 ∨ L ≤ (v3 + 2).toNatClampNeg) := ix (show 0 ≤ (v3 + 2).toInt by omega) (show (v3 + 2).toInt < (L : Nat) by omega)
  refine ok_chk ix_2 ?_
  refine ok_bd5 (s_X6_drag (xs (v3 + 1).toNatClampNeg) (xs (v3 + 2).toNatClampNeg) 1 0 ((fun _ => 0) : Nat → Int32) ((fun _ => 0) : Nat → Int32) (show 0 ≤ (0 : Int) by first | omega | decide) (show (0 : Int) ≤ 4 by first | omega | decide)) (fun r_3 w_4 w_5 w_6 w_7 q_8 => ?_)
  obtain ⟨q_8_0, q_8_1, q_8_2⟩ : (0 ≤ w_5.toInt) ∧ (w_5.toInt ≤ 4) ∧ ((¬ (0 ≤ (xs (v3 + 1).toNatClampNeg).toInt ∧ (xs (v3 + 1).toNatClampNeg).toInt < 100 ∧ 1 ≤ (xs (v3 + 2).toNatClampNeg).toInt ∧ (xs (v3 + 2).toNatClampNeg).toInt ≤ 7) ∧ r_3.toInt = -1 ∧ w_5.toInt = (0 : Int)) ∨ ((0 ≤ (xs (v3 + 1).toNatClampNeg).toInt ∧ (xs (v3 + 1).toNatClampNeg).toInt < 100 ∧ 1 ≤ (xs (v3 + 2).toNatClampNeg).toInt ∧ (xs (v3 + 2).toNatClampNeg).toInt ≤ 7) ∧ 4 ≤ (0 : Int) ∧ r_3.toInt = -3 ∧ w_5.toInt = (0 : Int)) ∨ ((0 ≤ (xs (v3 + 1).toNatClampNeg).toInt ∧ (xs (v3 + 1).toNatClampNeg).toInt < 100 ∧ 1 ≤ (xs (v3 + 2).toNatClampNeg).toInt ∧ (xs (v3 + 2).toNatClampNeg).toInt ≤ 7) ∧ (0 : Int) < 4 ∧ r_3.toInt = (0 : Int) ∧ w_5.toInt = (0 : Int) + 1)) := q_8
  refine ok_chk ix_1 ?_
  refine ok_chk ix_2 ?_
  refine ok_bd4 (s_X7_drag (xs (v3 + 1).toNatClampNeg) (xs (v3 + 2).toNatClampNeg) 0 ((fun _ => 0) : Nat → Int32) ((fun _ => 0) : Nat → Int32) (show 0 ≤ (0 : Int) by first | omega | decide) (show (0 : Int) ≤ 4 by first | omega | decide)) (fun r_9 w_10 w_11 w_12 q_13 => ?_)
  obtain ⟨q_13_0, q_13_1, q_13_2⟩ : (0 ≤ w_10.toInt) ∧ (w_10.toInt ≤ 4) ∧ ((¬ (0 ≤ (xs (v3 + 1).toNatClampNeg).toInt ∧ (xs (v3 + 1).toNatClampNeg).toInt < 100 ∧ 1 ≤ (xs (v3 + 2).toNatClampNeg).toInt ∧ (xs (v3 + 2).toNatClampNeg).toInt ≤ 7) ∧ r_9.toInt = -1 ∧ w_10.toInt = (0 : Int)) ∨ ((0 ≤ (xs (v3 + 1).toNatClampNeg).toInt ∧ (xs (v3 + 1).toNatClampNeg).toInt < 100 ∧ 1 ≤ (xs (v3 + 2).toNatClampNeg).toInt ∧ (xs (v3 + 2).toNatClampNeg).toInt ≤ 7) ∧ 4 ≤ (0 : Int) ∧ r_9.toInt = -3 ∧ w_10.toInt = (0 : Int)) ∨ ((0 ≤ (xs (v3 + 1).toNatClampNeg).toInt ∧ (xs (v3 + 1).toNatClampNeg).toInt < 100 ∧ 1 ≤ (xs (v3 + 2).toNatClampNeg).toInt ∧ (xs (v3 + 2).toNatClampNeg).toInt ≤ 7) ∧ (0 : Int) < 4 ∧ r_9.toInt = (0 : Int) ∧ w_10.toInt = (0 : Int) + 1)) := q_13
  obtain ⟨hr, _⟩ := cnt_same (a := 0) (b := 0) rfl q_8_2 q_13_2
  refine ok_ite (fun c_14 => ?_) (fun c_14 => ?_)
  · skip
    have c_14 : r_3.toInt = r_9.toInt := i_eq.mp c_14
    unfold f_L_law_B1235
    have f6 : (v3 + 6).toInt = v3.toInt + (6 : Int) := i_add2 rfl rfl (by omega) (by omega)
    refine ok_nmi (fun x6 hx6 kx6 => ?_)
    exact q_end L xs hL n18 x6 (by omega) _ _ _ _ _ _ _ _ _ _ _ _ _ _ _ _ _ _ _ _ _ _ _ _ _ _ _ _ _ _ _ _ _ _ _ _ _ _ _ _ _ _ _ _ _ _ _ _ _ _ _ _ _ _ _ _ _ _ _ _ _ _ _ _ _ _ _ _ _ _ _ _ _ _ _ _ _ _ _ _ _ _ _ _ _ _ _ _ _ _ _ _ _ _ _ _ _ _ _ _ _ _ _ _ _ _ _ _ _ _ _ _ _ _ _ _ _ _ _ _ _ _ _ _ _ _ _ _ _ _ _
  · skip
    have c_14 : ¬ r_3.toInt = r_9.toInt := fun z => c_14 (i_eq.mpr z)
    exfalso; omega
