theorem q_end (L : Nat) (xs : Nat → Int32) (hL : L ≤ 6) (n : Nat) (x6 : Int32) (h : x6.toInt = 6) (p1_hasImage : Int32) (p1_walkIsOld : Int32) (p1_endsAreOld : Int32) (p2_taped : Int32) (p2_at : Int32) (p2_wrong : Int32) (p2_level : Int32) (p2_noRings : Int32) (p2_noTones : Int32) (p2_noFuel : Int32) (p2_pieces : Int32) (p2_drags : Int32) (p2_all : Int64) (p2_noPieces : Int32) (p2_noDrags : Int32) (p2_kept : Int32) (p2_sets : Nat → Int32) (p2_ringFar : Nat → Int32) (p2_ringTone : Nat → Int32) (p2_currents : Nat → Int32) (p2_warmths : Nat → Int32) (p2_depths : Nat → Int32) (p2_tape : Nat → Int32) (p2_readFar : Nat → Int32) (p2_readTone : Nat → Int32) (p2_readSea : Nat → Int32) (p2_code : Nat → Int32) (p2_cellAt : Nat → Int32) (p2_courseAt : Nat → Int32) (p2_paceAt : Nat → Int32) (p2_turnsAt : Nat → Int32) (p2_slowAt : Nat → Int32) (p2_fuelAt : Nat → Int32) (p2_ringAt : Nat → Int32) (p2_pieceParts : Nat → Int32) (p2_dragCell : Nat → Int32) (p2_dragBy : Nat → Int32) (p2_sums : Nat → Int64) (p2_shares : Nat → Int32) (p2_keptFar : Nat → Int32) (p2_image : Nat → Int32) (p2_lanes : Nat → Int32) (p2_sizes : Nat → Int32) (p2_items : Nat → Int32) (p2_movedItems : Nat → Int32) (p1_ends_total : Int64) (p1_ends_sums : Nat → Int64) (p1_kept_pieceCount : Int32) (p1_kept_dragCount : Int32) (p1_kept_settings : Nat → Int32) (p1_kept_howFar : Nat → Int32) (p1_kept_tones : Nat → Int32) (p1_kept_currents : Nat → Int32) (p1_kept_warmths : Nat → Int32) (p1_kept_depths : Nat → Int32) (p1_kept_fars : Nat → Int32) (p1_kept_pieceCells : Nat → Int32) (p1_kept_pieceMonths : Nat → Int32) (p1_kept_pieceHighs : Nat → Int32) (p1_kept_pieceAges : Nat → Int32) (p1_kept_pieceNeeds : Nat → Int32) (p1_kept_dragCells : Nat → Int32) (p1_kept_dragEighths : Nat → Int32) (p1_otherEnds_total : Int64) (p1_otherEnds_sums : Nat → Int64) (p1_seas_known : Nat → Int32) (p1_tape_length : Int32) (p1_tape_place : Int32) (p1_tape_bytes : Nat → Int32) (p1_tape_newFar : Nat → Int32) (p1_tape_newTones : Nat → Int32) (p1_tape_newCurrents : Nat → Int32) (p1_told_pieceCount : Int32) (p1_told_dragCount : Int32) (p1_told_settings : Nat → Int32) (p1_told_howFar : Nat → Int32) (p1_told_tones : Nat → Int32) (p1_told_currents : Nat → Int32) (p1_told_warmths : Nat → Int32) (p1_told_depths : Nat → Int32) (p1_told_fars : Nat → Int32) (p1_told_pieceCells : Nat → Int32) (p1_told_pieceMonths : Nat → Int32) (p1_told_pieceHighs : Nat → Int32) (p1_told_pieceAges : Nat → Int32) (p1_told_pieceNeeds : Nat → Int32) (p1_told_dragCells : Nat → Int32) (p1_told_dragEighths : Nat → Int32) (p1_trial_last : Int32) (p1_trial_turnsLet : Int32) (p1_trial_slowsLet : Int32) (p1_trial_fuel : Int32) (p1_trial_glide : Int32) (p1_trial_count : Int32) (p1_trial_weightSum : Int64) (p1_trial_toPass : Int32) (p1_trial_foundNumber : Int32) (p1_trial_foundWeight : Int32) (p1_trial_foundTurns : Int32) (p1_trial_foundSlowed : Int32) (p1_trial_howFar : Nat → Int32) (p1_trial_tones : Nat → Int32) (p1_trial_only : Nat → Int32) (p1_trial_fars : Nat → Int32) (p1_trial_cellAt : Nat → Int32) (p1_trial_ends : Nat → Int64) (p1_trial_seen : Nat → Int32) (p1_trial_begun : Nat → Int32) (p1_walk_last : Int32) (p1_walk_turnsLet : Int32) (p1_walk_slowsLet : Int32) (p1_walk_fuel : Int32) (p1_walk_glide : Int32) (p1_walk_count : Int32) (p1_walk_weightSum : Int64) (p1_walk_toPass : Int32) (p1_walk_foundNumber : Int32) (p1_walk_foundWeight : Int32) (p1_walk_foundTurns : Int32) (p1_walk_foundSlowed : Int32) (p1_walk_howFar : Nat → Int32) (p1_walk_tones : Nat → Int32) (p1_walk_only : Nat → Int32) (p1_walk_fars : Nat → Int32) (p1_walk_cellAt : Nat → Int32) (p1_walk_ends : Nat → Int64) (p1_walk_seen : Nat → Int32) (p1_walk_begun : Nat → Int32) (sh_lane : Nat → Int32) (sh_size : Nat → Int32) (sh_items : Nat → Nat → Int32) : okP (f_L_law_L18 L xs (n + 1) x6 p1_hasImage p1_walkIsOld p1_endsAreOld p2_taped p2_at p2_wrong p2_level p2_noRings p2_noTones p2_noFuel p2_pieces p2_drags p2_all p2_noPieces p2_noDrags p2_kept p2_sets p2_ringFar p2_ringTone p2_currents p2_warmths p2_depths p2_tape p2_readFar p2_readTone p2_readSea p2_code p2_cellAt p2_courseAt p2_paceAt p2_turnsAt p2_slowAt p2_fuelAt p2_ringAt p2_pieceParts p2_dragCell p2_dragBy p2_sums p2_shares p2_keptFar p2_image p2_lanes p2_sizes p2_items p2_movedItems p1_ends_total p1_ends_sums p1_kept_pieceCount p1_kept_dragCount p1_kept_settings p1_kept_howFar p1_kept_tones p1_kept_currents p1_kept_warmths p1_kept_depths p1_kept_fars p1_kept_pieceCells p1_kept_pieceMonths p1_kept_pieceHighs p1_kept_pieceAges p1_kept_pieceNeeds p1_kept_dragCells p1_kept_dragEighths p1_otherEnds_total p1_otherEnds_sums p1_seas_known p1_tape_length p1_tape_place p1_tape_bytes p1_tape_newFar p1_tape_newTones p1_tape_newCurrents p1_told_pieceCount p1_told_dragCount p1_told_settings p1_told_howFar p1_told_tones p1_told_currents p1_told_warmths p1_told_depths p1_told_fars p1_told_pieceCells p1_told_pieceMonths p1_told_pieceHighs p1_told_pieceAges p1_told_pieceNeeds p1_told_dragCells p1_told_dragEighths p1_trial_last p1_trial_turnsLet p1_trial_slowsLet p1_trial_fuel p1_trial_glide p1_trial_count p1_trial_weightSum p1_trial_toPass p1_trial_foundNumber p1_trial_foundWeight p1_trial_foundTurns p1_trial_foundSlowed p1_trial_howFar p1_trial_tones p1_trial_only p1_trial_fars p1_trial_cellAt p1_trial_ends p1_trial_seen p1_trial_begun p1_walk_last p1_walk_turnsLet p1_walk_slowsLet p1_walk_fuel p1_walk_glide p1_walk_count p1_walk_weightSum p1_walk_toPass p1_walk_foundNumber p1_walk_foundWeight p1_walk_foundTurns p1_walk_foundSlowed p1_walk_howFar p1_walk_tones p1_walk_only p1_walk_fars p1_walk_cellAt p1_walk_ends p1_walk_seen p1_walk_begun sh_lane sh_size sh_items) (fun u : Int32 => u = 1) := by
  show okP (f_L_law_L18b L xs (f_L_law_L18 L xs n) x6 p1_hasImage p1_walkIsOld p1_endsAreOld p2_taped p2_at p2_wrong p2_level p2_noRings p2_noTones p2_noFuel p2_pieces p2_drags p2_all p2_noPieces p2_noDrags p2_kept p2_sets p2_ringFar p2_ringTone p2_currents p2_warmths p2_depths p2_tape p2_readFar p2_readTone p2_readSea p2_code p2_cellAt p2_courseAt p2_paceAt p2_turnsAt p2_slowAt p2_fuelAt p2_ringAt p2_pieceParts p2_dragCell p2_dragBy p2_sums p2_shares p2_keptFar p2_image p2_lanes p2_sizes p2_items p2_movedItems p1_ends_total p1_ends_sums p1_kept_pieceCount p1_kept_dragCount p1_kept_settings p1_kept_howFar p1_kept_tones p1_kept_currents p1_kept_warmths p1_kept_depths p1_kept_fars p1_kept_pieceCells p1_kept_pieceMonths p1_kept_pieceHighs p1_kept_pieceAges p1_kept_pieceNeeds p1_kept_dragCells p1_kept_dragEighths p1_otherEnds_total p1_otherEnds_sums p1_seas_known p1_tape_length p1_tape_place p1_tape_bytes p1_tape_newFar p1_tape_newTones p1_tape_newCurrents p1_told_pieceCount p1_told_dragCount p1_told_settings p1_told_howFar p1_told_tones p1_told_currents p1_told_warmths p1_told_depths p1_told_fars p1_told_pieceCells p1_told_pieceMonths p1_told_pieceHighs p1_told_pieceAges p1_told_pieceNeeds p1_told_dragCells p1_told_dragEighths p1_trial_last p1_trial_turnsLet p1_trial_slowsLet p1_trial_fuel p1_trial_glide p1_trial_count p1_trial_weightSum p1_trial_toPass p1_trial_foundNumber p1_trial_foundWeight p1_trial_foundTurns p1_trial_foundSlowed p1_trial_howFar p1_trial_tones p1_trial_only p1_trial_fars p1_trial_cellAt p1_trial_ends p1_trial_seen p1_trial_begun p1_walk_last p1_walk_turnsLet p1_walk_slowsLet p1_walk_fuel p1_walk_glide p1_walk_count p1_walk_weightSum p1_walk_toPass p1_walk_foundNumber p1_walk_foundWeight p1_walk_foundTurns p1_walk_foundSlowed p1_walk_howFar p1_walk_tones p1_walk_only p1_walk_fars p1_walk_cellAt p1_walk_ends p1_walk_seen p1_walk_begun sh_lane sh_size sh_items) _
  have hN : (Int32.ofNat L).toInt = (L : Int) := Int32.toInt_ofNat_of_lt (by omega)
  have f0 : (Int32.ofNat L - 6).toInt = (Int32.ofNat L).toInt - (6 : Int) := i_sub2 rfl rfl (by omega) (by omega)
  unfold f_L_law_L18b
  refine ok_ite (fun c => ok_some rfl) (fun c => ?_)
  have c1 : ¬ (Int32.ofNat L - 6).toInt < x6.toInt := fun z => c (i_lt.mpr z)
  omega
set_option maxRecDepth 100000 in
set_option maxHeartbeats 4000000 in
theorem q_B176 (L : Nat) (xs : Nat → Int32) (hL : L ≤ 6) (h6 : 6 ≤ L) (n18 : Nat) (v3 : Int32) (i0 : v3.toInt = 0) : okP (f_L_law_B176 L xs (f_L_law_L18 L xs (n18 + 1)) v3 0 1 1 0 0 0 0 0 0 0 0 0 0 0 0 0 jSet jFar7 (fun _ => 0) iCur (fun _ => 0) iDep (fun _ => 0) (fun _ => 0) (fun _ => 0) (fun _ => 0) (fun _ => 0) (fun _ => 0) (fun _ => 0) (fun _ => 0) (fun _ => 0) (fun _ => 0) (fun _ => 0) (fun _ => 0) (fun _ => 0) (fun _ => 0) (fun _ => 0) (fun _ => 0) (fun _ => 0) (fun _ => 0) (fun _ => 0) jLan (fun _ => 0) (fun _ => 0) (fun _ => 0) 0 (fun _ => 0) 0 0 iSet iFar7 (fun _ => 0) iCur (fun _ => 0) iDep iFars (fun _ => 0) (fun _ => 0) (fun _ => 0) (fun _ => 0) (fun _ => 0) (fun _ => 0) (fun _ => 0) 0 (fun _ => 0) iKnown 0 0 (fun _ => 0) (fun _ => 0) (fun _ => 0) (fun _ => 0) 0 0 iSet iFar7 (fun _ => 0) iCur (fun _ => 0) iDep iFars (fun _ => 0) (fun _ => 0) (fun _ => 0) (fun _ => 0) (fun _ => 0) (fun _ => 0) (fun _ => 0) 1 0 0 0 0 0 0 (-1) (-1) 0 0 0 (fun _ => 0) (fun _ => 0) (fun _ => 0) (fun _ => 0) (fun _ => 0) (fun _ => 0) (fun _ => 0) (fun _ => 0) 1 0 0 0 0 0 0 (-1) (-1) 0 0 0 (fun _ => 0) (fun _ => 0) (fun _ => 0) (fun _ => 0) (fun _ => 0) (fun _ => 0) (fun _ => 0) (fun _ => 0) (fun _ => (-1)) (fun _ => 0) (fun _ _ => 0)) (fun u : Int32 => u = 1) := by
  unfold f_L_law_B176
  have a1 : (v3 + 1).toInt = v3.toInt + (1 : Int) := i_add2 rfl rfl (by omega) (by omega)
  have a2 : (v3 + 2).toInt = v3.toInt + (2 : Int) := i_add2 rfl rfl (by omega) (by omega)
  have a3 : (v3 + 3).toInt = v3.toInt + (3 : Int) := i_add2 rfl rfl (by omega) (by omega)
  have a4 : (v3 + 4).toInt = v3.toInt + (4 : Int) := i_add2 rfl rfl (by omega) (by omega)
  have a5 : (v3 + 5).toInt = v3.toInt + (5 : Int) := i_add2 rfl rfl (by omega) (by omega)
  have ix_1 : ¬ ((v3 + 1) < 0 ∨ L ≤ (v3 + 1).toNatClampNeg) := ix (show 0 ≤ (v3 + 1).toInt by omega) (show (v3 + 1).toInt < (L : Nat) by omega)
  refine ok_chk ix_1 ?_
  have ix_2 : ¬ ((v3 + 2) < 0 ∨ L ≤ (v3 + 2).toNatClampNeg) := ix (show 0 ≤ (v3 + 2).toInt by omega) (show (v3 + 2).toInt < (L : Nat) by omega)
  refine ok_chk ix_2 ?_
  refine ok_bd6 (s_X6_set (xs (v3 + 1).toNatClampNeg) (xs (v3 + 2).toNatClampNeg) 1 1 iSet iFars iKnown (by first | with_reducible rfl | exact EqN_ij | exact LaR_0 | exact FarOK_i | exact TapR_0 rfl rfl | exact TRng_0 rfl | exact fun j hj => absurd hj (by omega) | exact CurOK_i | exact PieR_i | exact PieOK_i | exact KnO_i _ _ _ _ _ _ _ _ | exact SetOK_i | exact SetOK_j | exact fun z => absurd rfl z | exact fun j _ => (show 0 ≤ (0 : Int32).toInt ∧ (0 : Int32).toInt ≤ 16 by decide) | exact fun _ _ => rfl | decide)) (fun r_3 w_4 w_5 w_6 w_7 w_8 q_9 => ?_)
  obtain ⟨q_9_0, q_9_1, q_9_2⟩ : (SetOK w_6) ∧ ((SetV (xs (v3 + 1).toNatClampNeg).toInt (xs (v3 + 2).toNatClampNeg).toInt ∧ r_3 = iSet (xs (v3 + 1).toNatClampNeg).toNatClampNeg ∧ w_6 = upd iSet (xs (v3 + 1).toNatClampNeg).toNatClampNeg (xs (v3 + 2).toNatClampNeg)) ∨ (¬ SetV (xs (v3 + 1).toNatClampNeg).toInt (xs (v3 + 2).toNatClampNeg).toInt ∧ r_3.toInt = -1 ∧ w_6 = iSet)) ∧ (FarOK iSet iFars → FarOK w_6 w_7) := q_9
  refine ok_chk ix_1 ?_
  refine ok_chk ix_2 ?_
  refine ok_bd2 (s_X7_set (xs (v3 + 1).toNatClampNeg) (xs (v3 + 2).toNatClampNeg) jSet (by first | with_reducible rfl | exact EqN_ij | exact LaR_0 | exact FarOK_i | exact TapR_0 rfl rfl | exact TRng_0 rfl | exact fun j hj => absurd hj (by omega) | exact CurOK_i | exact PieR_i | exact PieOK_i | exact KnO_i _ _ _ _ _ _ _ _ | exact SetOK_i | exact SetOK_j | exact fun z => absurd rfl z | exact fun j _ => (show 0 ≤ (0 : Int32).toInt ∧ (0 : Int32).toInt ≤ 16 by decide) | exact fun _ _ => rfl | decide)) (fun r_10 w_11 q_12 => ?_)
  obtain ⟨q_12_0, q_12_1⟩ : (SetOK w_11) ∧ ((SetV (xs (v3 + 1).toNatClampNeg).toInt (xs (v3 + 2).toNatClampNeg).toInt ∧ r_10 = jSet (xs (v3 + 1).toNatClampNeg).toNatClampNeg ∧ w_11 = upd jSet (xs (v3 + 1).toNatClampNeg).toNatClampNeg (xs (v3 + 2).toNatClampNeg)) ∨ (¬ SetV (xs (v3 + 1).toNatClampNeg).toInt (xs (v3 + 2).toNatClampNeg).toInt ∧ r_10.toInt = -1 ∧ w_11 = jSet)) := q_12
  obtain ⟨hr, _⟩ := set_same EqN_ij q_9_1 q_12_1
  refine ok_ite (fun c_13 => ?_) (fun c_13 => ?_)
  · skip
    have c_13 : r_3.toInt = r_10.toInt := i_eq.mp c_13
    unfold f_L_law_B1235
    have f6 : (v3 + 6).toInt = v3.toInt + (6 : Int) := i_add2 rfl rfl (by omega) (by omega)
    refine ok_nmi (fun x6 hx6 kx6 => ?_)
    exact q_end L xs hL n18 x6 (by omega) _ _ _ _ _ _ _ _ _ _ _ _ _ _ _ _ _ _ _ _ _ _ _ _ _ _ _ _ _ _ _ _ _ _ _ _ _ _ _ _ _ _ _ _ _ _ _ _ _ _ _ _ _ _ _ _ _ _ _ _ _ _ _ _ _ _ _ _ _ _ _ _ _ _ _ _ _ _ _ _ _ _ _ _ _ _ _ _ _ _ _ _ _ _ _ _ _ _ _ _ _ _ _ _ _ _ _ _ _ _ _ _ _ _ _ _ _ _ _ _ _ _ _ _ _ _ _ _ _ _ _
  · skip
    have c_13 : ¬ r_3.toInt = r_10.toInt := fun z => c_13 (i_eq.mpr z)
    exfalso; omega
set_option maxRecDepth 100000 in
set_option maxHeartbeats 4000000 in
theorem q_B209 (L : Nat) (xs : Nat → Int32) (hL : L ≤ 6) (h6 : 6 ≤ L) (n18 : Nat) (v3 : Int32) (i0 : v3.toInt = 0) : okP (f_L_law_B209 L xs (f_L_law_L18 L xs (n18 + 1)) v3 0 1 1 0 0 0 0 0 0 0 0 0 0 0 0 0 jSet jFar7 (fun _ => 0) iCur (fun _ => 0) iDep (fun _ => 0) (fun _ => 0) (fun _ => 0) (fun _ => 0) (fun _ => 0) (fun _ => 0) (fun _ => 0) (fun _ => 0) (fun _ => 0) (fun _ => 0) (fun _ => 0) (fun _ => 0) (fun _ => 0) (fun _ => 0) (fun _ => 0) (fun _ => 0) (fun _ => 0) (fun _ => 0) (fun _ => 0) jLan (fun _ => 0) (fun _ => 0) (fun _ => 0) 0 (fun _ => 0) 0 0 iSet iFar7 (fun _ => 0) iCur (fun _ => 0) iDep iFars (fun _ => 0) (fun _ => 0) (fun _ => 0) (fun _ => 0) (fun _ => 0) (fun _ => 0) (fun _ => 0) 0 (fun _ => 0) iKnown 0 0 (fun _ => 0) (fun _ => 0) (fun _ => 0) (fun _ => 0) 0 0 iSet iFar7 (fun _ => 0) iCur (fun _ => 0) iDep iFars (fun _ => 0) (fun _ => 0) (fun _ => 0) (fun _ => 0) (fun _ => 0) (fun _ => 0) (fun _ => 0) 1 0 0 0 0 0 0 (-1) (-1) 0 0 0 (fun _ => 0) (fun _ => 0) (fun _ => 0) (fun _ => 0) (fun _ => 0) (fun _ => 0) (fun _ => 0) (fun _ => 0) 1 0 0 0 0 0 0 (-1) (-1) 0 0 0 (fun _ => 0) (fun _ => 0) (fun _ => 0) (fun _ => 0) (fun _ => 0) (fun _ => 0) (fun _ => 0) (fun _ => 0) (fun _ => (-1)) (fun _ => 0) (fun _ _ => 0)) (fun u : Int32 => u = 1) := by
  unfold f_L_law_B209
  have a1 : (v3 + 1).toInt = v3.toInt + (1 : Int) := i_add2 rfl rfl (by omega) (by omega)
  have a2 : (v3 + 2).toInt = v3.toInt + (2 : Int) := i_add2 rfl rfl (by omega) (by omega)
  have a3 : (v3 + 3).toInt = v3.toInt + (3 : Int) := i_add2 rfl rfl (by omega) (by omega)
  have a4 : (v3 + 4).toInt = v3.toInt + (4 : Int) := i_add2 rfl rfl (by omega) (by omega)
  have a5 : (v3 + 5).toInt = v3.toInt + (5 : Int) := i_add2 rfl rfl (by omega) (by omega)
  have ix_1 : ¬ ((v3 + 1) < 0 ∨ L ≤ (v3 + 1).toNatClampNeg) := ix (show 0 ≤ (v3 + 1).toInt by omega) (show (v3 + 1).toInt < (L : Nat) by omega)
  refine ok_chk ix_1 ?_
  refine ok_bd1 (s_X6_far (xs (v3 + 1).toNatClampNeg) iFars) (fun r_2 q_3 => ?_)
  replace q_3 : ((0 ≤ (xs (v3 + 1).toNatClampNeg).toInt ∧ (xs (v3 + 1).toNatClampNeg).toInt < 100) ∧ r_2 = iFars (xs (v3 + 1).toNatClampNeg).toNatClampNeg) ∨ (¬ (0 ≤ (xs (v3 + 1).toNatClampNeg).toInt ∧ (xs (v3 + 1).toNatClampNeg).toInt < 100) ∧ r_2.toInt = -1) := q_3
  refine ok_chk ix_1 ?_
  refine ok_bd1 (s_X7_far (xs (v3 + 1).toNatClampNeg) jSet (by first | with_reducible rfl | exact EqN_ij | exact LaR_0 | exact FarOK_i | exact TapR_0 rfl rfl | exact TRng_0 rfl | exact fun j hj => absurd hj (by omega) | exact CurOK_i | exact PieR_i | exact PieOK_i | exact KnO_i _ _ _ _ _ _ _ _ | exact SetOK_i | exact SetOK_j | exact fun z => absurd rfl z | exact fun j _ => (show 0 ≤ (0 : Int32).toInt ∧ (0 : Int32).toInt ≤ 16 by decide) | exact fun _ _ => rfl | decide)) (fun r_4 q_5 => ?_)
  replace q_5 : ((0 ≤ (xs (v3 + 1).toNatClampNeg).toInt ∧ (xs (v3 + 1).toNatClampNeg).toInt < 100) ∧ r_4 = nI (rt (sqd (jSet 0).toInt.toNat (xs (v3 + 1).toNatClampNeg).toNatClampNeg))) ∨ (¬ (0 ≤ (xs (v3 + 1).toNatClampNeg).toInt ∧ (xs (v3 + 1).toNatClampNeg).toInt < 100) ∧ r_4.toInt = -1) := q_5
  have hr := far_same FarOK_i EqN_ij q_3 q_5
  refine ok_ite (fun c_6 => ?_) (fun c_6 => ?_)
  · skip
    have c_6 : r_2.toInt = r_4.toInt := i_eq.mp c_6
    unfold f_L_law_B1235
    have f6 : (v3 + 6).toInt = v3.toInt + (6 : Int) := i_add2 rfl rfl (by omega) (by omega)
    refine ok_nmi (fun x6 hx6 kx6 => ?_)
    exact q_end L xs hL n18 x6 (by omega) _ _ _ _ _ _ _ _ _ _ _ _ _ _ _ _ _ _ _ _ _ _ _ _ _ _ _ _ _ _ _ _ _ _ _ _ _ _ _ _ _ _ _ _ _ _ _ _ _ _ _ _ _ _ _ _ _ _ _ _ _ _ _ _ _ _ _ _ _ _ _ _ _ _ _ _ _ _ _ _ _ _ _ _ _ _ _ _ _ _ _ _ _ _ _ _ _ _ _ _ _ _ _ _ _ _ _ _ _ _ _ _ _ _ _ _ _ _ _ _ _ _ _ _ _ _ _ _ _ _ _
  · skip
    have c_6 : ¬ r_2.toInt = r_4.toInt := fun z => c_6 (i_eq.mpr z)
    exfalso; omega
set_option maxRecDepth 100000 in
set_option maxHeartbeats 4000000 in
theorem q_B232 (L : Nat) (xs : Nat → Int32) (hL : L ≤ 6) (h6 : 6 ≤ L) (n18 : Nat) (v3 : Int32) (i0 : v3.toInt = 0) : okP (f_L_law_B232 L xs (f_L_law_L18 L xs (n18 + 1)) v3 0 1 1 0 0 0 0 0 0 0 0 0 0 0 0 0 jSet jFar7 (fun _ => 0) iCur (fun _ => 0) iDep (fun _ => 0) (fun _ => 0) (fun _ => 0) (fun _ => 0) (fun _ => 0) (fun _ => 0) (fun _ => 0) (fun _ => 0) (fun _ => 0) (fun _ => 0) (fun _ => 0) (fun _ => 0) (fun _ => 0) (fun _ => 0) (fun _ => 0) (fun _ => 0) (fun _ => 0) (fun _ => 0) (fun _ => 0) jLan (fun _ => 0) (fun _ => 0) (fun _ => 0) 0 (fun _ => 0) 0 0 iSet iFar7 (fun _ => 0) iCur (fun _ => 0) iDep iFars (fun _ => 0) (fun _ => 0) (fun _ => 0) (fun _ => 0) (fun _ => 0) (fun _ => 0) (fun _ => 0) 0 (fun _ => 0) iKnown 0 0 (fun _ => 0) (fun _ => 0) (fun _ => 0) (fun _ => 0) 0 0 iSet iFar7 (fun _ => 0) iCur (fun _ => 0) iDep iFars (fun _ => 0) (fun _ => 0) (fun _ => 0) (fun _ => 0) (fun _ => 0) (fun _ => 0) (fun _ => 0) 1 0 0 0 0 0 0 (-1) (-1) 0 0 0 (fun _ => 0) (fun _ => 0) (fun _ => 0) (fun _ => 0) (fun _ => 0) (fun _ => 0) (fun _ => 0) (fun _ => 0) 1 0 0 0 0 0 0 (-1) (-1) 0 0 0 (fun _ => 0) (fun _ => 0) (fun _ => 0) (fun _ => 0) (fun _ => 0) (fun _ => 0) (fun _ => 0) (fun _ => 0) (fun _ => (-1)) (fun _ => 0) (fun _ _ => 0)) (fun u : Int32 => u = 1) := by
  unfold f_L_law_B232
  have a1 : (v3 + 1).toInt = v3.toInt + (1 : Int) := i_add2 rfl rfl (by omega) (by omega)
  have a2 : (v3 + 2).toInt = v3.toInt + (2 : Int) := i_add2 rfl rfl (by omega) (by omega)
  have a3 : (v3 + 3).toInt = v3.toInt + (3 : Int) := i_add2 rfl rfl (by omega) (by omega)
  have a4 : (v3 + 4).toInt = v3.toInt + (4 : Int) := i_add2 rfl rfl (by omega) (by omega)
  have a5 : (v3 + 5).toInt = v3.toInt + (5 : Int) := i_add2 rfl rfl (by omega) (by omega)
  have ix_1 : ¬ ((v3 + 1) < 0 ∨ L ≤ (v3 + 1).toNatClampNeg) := ix (show 0 ≤ (v3 + 1).toInt by omega) (show (v3 + 1).toInt < (L : Nat) by omega)
  refine ok_chk ix_1 ?_
  have ix_2 : ¬ ((v3 + 2) < 0 ∨ L ≤ (v3 + 2).toNatClampNeg) := ix (show 0 ≤ (v3 + 2).toInt by omega) (show (v3 + 2).toInt < (L : Nat) by omega)
  refine ok_chk ix_2 ?_
  have ix_3 : ¬ ((v3 + 3) < 0 ∨ L ≤ (v3 + 3).toNatClampNeg) := ix (show 0 ≤ (v3 + 3).toInt by omega) (show (v3 + 3).toInt < (L : Nat) by omega)
  refine ok_chk ix_3 ?_
  refine ok_bd5 ((fun (x1 : Int32) (x2 : Int32) (x3 : Int32) (_ : Int32) (_ : Int32) (_ : Nat → Int32) (_ : Nat → Int32) => v_X6_ring x1 x2 x3) (xs (v3 + 1).toNatClampNeg) (xs (v3 + 2).toNatClampNeg) (xs (v3 + 3).toNatClampNeg) 1 1 iFar7 ((fun _ => 0) : Nat → Int32)) (fun r_4 w_5 w_6 w_7 w_8 q_9 => ?_)
  replace q_9 : (¬ RgV (xs (v3 + 1).toNatClampNeg).toInt (xs (v3 + 2).toNatClampNeg).toInt (xs (v3 + 3).toNatClampNeg).toInt ∧ r_4.toInt = -1) ∨ (RgV (xs (v3 + 1).toNatClampNeg).toInt (xs (v3 + 2).toNatClampNeg).toInt (xs (v3 + 3).toNatClampNeg).toInt ∧ (xs (v3 + 2).toNatClampNeg).toInt = 0 ∧ r_4.toInt = 99) ∨ (RgV (xs (v3 + 1).toNatClampNeg).toInt (xs (v3 + 2).toNatClampNeg).toInt (xs (v3 + 3).toNatClampNeg).toInt ∧ (xs (v3 + 2).toNatClampNeg).toInt = 1 ∧ r_4.toInt = 100) := q_9
  refine ok_chk ix_1 ?_
  refine ok_chk ix_2 ?_
  refine ok_chk ix_3 ?_
  refine ok_bd3 ((fun (x1 : Int32) (x2 : Int32) (x3 : Int32) (_ : Nat → Int32) (_ : Nat → Int32) => v_X7_ring x1 x2 x3) (xs (v3 + 1).toNatClampNeg) (xs (v3 + 2).toNatClampNeg) (xs (v3 + 3).toNatClampNeg) jFar7 ((fun _ => 0) : Nat → Int32)) (fun r_10 w_11 w_12 q_13 => ?_)
  replace q_13 : (¬ RgV (xs (v3 + 1).toNatClampNeg).toInt (xs (v3 + 2).toNatClampNeg).toInt (xs (v3 + 3).toNatClampNeg).toInt ∧ r_10.toInt = -1) ∨ (RgV (xs (v3 + 1).toNatClampNeg).toInt (xs (v3 + 2).toNatClampNeg).toInt (xs (v3 + 3).toNatClampNeg).toInt ∧ (xs (v3 + 2).toNatClampNeg).toInt = 0 ∧ r_10.toInt = 99) ∨ (RgV (xs (v3 + 1).toNatClampNeg).toInt (xs (v3 + 2).toNatClampNeg).toInt (xs (v3 + 3).toNatClampNeg).toInt ∧ (xs (v3 + 2).toNatClampNeg).toInt = 1 ∧ r_10.toInt = 100) := q_13
  have hr := ansR (fun a b => by omega) q_9 q_13
  refine ok_ite (fun c_14 => ?_) (fun c_14 => ?_)
  · skip
    have c_14 : r_4.toInt = r_10.toInt := i_eq.mp c_14
    unfold f_L_law_B1235
    have f6 : (v3 + 6).toInt = v3.toInt + (6 : Int) := i_add2 rfl rfl (by omega) (by omega)
    refine ok_nmi (fun x6 hx6 kx6 => ?_)
    exact q_end L xs hL n18 x6 (by omega) _ _ _ _ _ _ _ _ _ _ _ _ _ _ _ _ _ _ _ _ _ _ _ _ _ _ _ _ _ _ _ _ _ _ _ _ _ _ _ _ _ _ _ _ _ _ _ _ _ _ _ _ _ _ _ _ _ _ _ _ _ _ _ _ _ _ _ _ _ _ _ _ _ _ _ _ _ _ _ _ _ _ _ _ _ _ _ _ _ _ _ _ _ _ _ _ _ _ _ _ _ _ _ _ _ _ _ _ _ _ _ _ _ _ _ _ _ _ _ _ _ _ _ _ _ _ _ _ _ _ _
  · skip
    have c_14 : ¬ r_4.toInt = r_10.toInt := fun z => c_14 (i_eq.mpr z)
    exfalso; omega
set_option maxRecDepth 100000 in
set_option maxHeartbeats 4000000 in
theorem q_B275 (L : Nat) (xs : Nat → Int32) (hL : L ≤ 6) (h6 : 6 ≤ L) (n18 : Nat) (v3 : Int32) (i0 : v3.toInt = 0) : okP (f_L_law_B275 L xs (f_L_law_L18 L xs (n18 + 1)) v3 0 1 1 0 0 0 0 0 0 0 0 0 0 0 0 0 jSet jFar7 (fun _ => 0) iCur (fun _ => 0) iDep (fun _ => 0) (fun _ => 0) (fun _ => 0) (fun _ => 0) (fun _ => 0) (fun _ => 0) (fun _ => 0) (fun _ => 0) (fun _ => 0) (fun _ => 0) (fun _ => 0) (fun _ => 0) (fun _ => 0) (fun _ => 0) (fun _ => 0) (fun _ => 0) (fun _ => 0) (fun _ => 0) (fun _ => 0) jLan (fun _ => 0) (fun _ => 0) (fun _ => 0) 0 (fun _ => 0) 0 0 iSet iFar7 (fun _ => 0) iCur (fun _ => 0) iDep iFars (fun _ => 0) (fun _ => 0) (fun _ => 0) (fun _ => 0) (fun _ => 0) (fun _ => 0) (fun _ => 0) 0 (fun _ => 0) iKnown 0 0 (fun _ => 0) (fun _ => 0) (fun _ => 0) (fun _ => 0) 0 0 iSet iFar7 (fun _ => 0) iCur (fun _ => 0) iDep iFars (fun _ => 0) (fun _ => 0) (fun _ => 0) (fun _ => 0) (fun _ => 0) (fun _ => 0) (fun _ => 0) 1 0 0 0 0 0 0 (-1) (-1) 0 0 0 (fun _ => 0) (fun _ => 0) (fun _ => 0) (fun _ => 0) (fun _ => 0) (fun _ => 0) (fun _ => 0) (fun _ => 0) 1 0 0 0 0 0 0 (-1) (-1) 0 0 0 (fun _ => 0) (fun _ => 0) (fun _ => 0) (fun _ => 0) (fun _ => 0) (fun _ => 0) (fun _ => 0) (fun _ => 0) (fun _ => (-1)) (fun _ => 0) (fun _ _ => 0)) (fun u : Int32 => u = 1) := by
  unfold f_L_law_B275
  have a1 : (v3 + 1).toInt = v3.toInt + (1 : Int) := i_add2 rfl rfl (by omega) (by omega)
  have a2 : (v3 + 2).toInt = v3.toInt + (2 : Int) := i_add2 rfl rfl (by omega) (by omega)
  have a3 : (v3 + 3).toInt = v3.toInt + (3 : Int) := i_add2 rfl rfl (by omega) (by omega)
  have a4 : (v3 + 4).toInt = v3.toInt + (4 : Int) := i_add2 rfl rfl (by omega) (by omega)
  have a5 : (v3 + 5).toInt = v3.toInt + (5 : Int) := i_add2 rfl rfl (by omega) (by omega)
  have ix_1 : ¬ ((v3 + 1) < 0 ∨ L ≤ (v3 + 1).toNatClampNeg) := ix (show 0 ≤ (v3 + 1).toInt by omega) (show (v3 + 1).toInt < (L : Nat) by omega)
  refine ok_chk ix_1 ?_
  first | (have f_2 : ((xs (v3 + 1).toNatClampNeg).toInt64).toInt = (xs (v3 + 1).toNatClampNeg).toInt := j_i2l _) | skip
  have ix_3 : ¬ ((v3 + 2) < 0 ∨ L ≤ (v3 + 2).toNatClampNeg) := ix (show 0 ≤ (v3 + 2).toInt by omega) (show (v3 + 2).toInt < (L : Nat) by omega)
  refine ok_chk ix_3 ?_
  first | (have f_4 : ((xs (v3 + 2).toNatClampNeg).toInt64).toInt = (xs (v3 + 2).toNatClampNeg).toInt := j_i2l _) | skip
  have ix_5 : ¬ ((v3 + 3) < 0 ∨ L ≤ (v3 + 3).toNatClampNeg) := ix (show 0 ≤ (v3 + 3).toInt by omega) (show (v3 + 3).toInt < (L : Nat) by omega)
  refine ok_chk ix_5 ?_
  refine ok_bd3 (l_X6_type ((((xs (v3 + 1).toNatClampNeg).toInt64) <<< ((32 : Int32).toInt64 &&& 63)) ||| (((xs (v3 + 2).toNatClampNeg).toInt64) &&& 4294967295)) (xs (v3 + 3).toNatClampNeg) 0 ((fun _ => 0) : Nat → Int32) (show 0 ≤ (0 : Int) by first | omega | decide) (show (0 : Int) ≤ 60 by first | omega | decide)) (fun r_6 w_7 w_8 q_9 => ?_)
  obtain ⟨q_9_0, q_9_1, q_9_2⟩ : (0 ≤ w_7.toInt) ∧ (w_7.toInt ≤ 60) ∧ (TyP ((((xs (v3 + 1).toNatClampNeg).toInt64) <<< ((32 : Int32).toInt64 &&& 63)) ||| (((xs (v3 + 2).toNatClampNeg).toInt64) &&& 4294967295)) (xs (v3 + 3).toNatClampNeg) 0 ((fun _ => 0) : Nat → Int32) r_6 w_7 w_8) := q_9
  refine ok_chk ix_1 ?_
  refine ok_chk ix_3 ?_
  refine ok_chk ix_5 ?_
  refine ok_bd3 (l_X7_type ((((xs (v3 + 1).toNatClampNeg).toInt64) <<< ((32 : Int32).toInt64 &&& 63)) ||| (((xs (v3 + 2).toNatClampNeg).toInt64) &&& 4294967295)) (xs (v3 + 3).toNatClampNeg) 0 ((fun _ => 0) : Nat → Int32) (show 0 ≤ (0 : Int) by first | omega | decide) (show (0 : Int) ≤ 60 by first | omega | decide)) (fun r_10 w_11 w_12 q_13 => ?_)
  obtain ⟨q_13_0, q_13_1, q_13_2⟩ : (0 ≤ w_11.toInt) ∧ (w_11.toInt ≤ 60) ∧ (TyP ((((xs (v3 + 1).toNatClampNeg).toInt64) <<< ((32 : Int32).toInt64 &&& 63)) ||| (((xs (v3 + 2).toNatClampNeg).toInt64) &&& 4294967295)) (xs (v3 + 3).toNatClampNeg) 0 ((fun _ => 0) : Nat → Int32) r_10 w_11 w_12) := q_13
  obtain ⟨hr, _⟩ := type_len (len := 0) (taped := 0) rfl q_9_2 q_13_2
  refine ok_ite (fun c_14 => ?_) (fun c_14 => ?_)
  · skip
    have c_14 : r_6.toInt = r_10.toInt := i_eq.mp c_14
    unfold f_L_law_B1235
    have f6 : (v3 + 6).toInt = v3.toInt + (6 : Int) := i_add2 rfl rfl (by omega) (by omega)
    refine ok_nmi (fun x6 hx6 kx6 => ?_)
    exact q_end L xs hL n18 x6 (by omega) _ _ _ _ _ _ _ _ _ _ _ _ _ _ _ _ _ _ _ _ _ _ _ _ _ _ _ _ _ _ _ _ _ _ _ _ _ _ _ _ _ _ _ _ _ _ _ _ _ _ _ _ _ _ _ _ _ _ _ _ _ _ _ _ _ _ _ _ _ _ _ _ _ _ _ _ _ _ _ _ _ _ _ _ _ _ _ _ _ _ _ _ _ _ _ _ _ _ _ _ _ _ _ _ _ _ _ _ _ _ _ _ _ _ _ _ _ _ _ _ _ _ _ _ _ _ _ _ _ _ _
  · skip
    have c_14 : ¬ r_6.toInt = r_10.toInt := fun z => c_14 (i_eq.mpr z)
    exfalso; omega
set_option maxRecDepth 100000 in
set_option maxHeartbeats 4000000 in
theorem q_B338 (L : Nat) (xs : Nat → Int32) (hL : L ≤ 6) (h6 : 6 ≤ L) (n18 : Nat) (v3 : Int32) (i0 : v3.toInt = 0) : okP (f_L_law_B338 L xs (f_L_law_L18 L xs (n18 + 1)) v3 0 1 1 0 0 0 0 0 0 0 0 0 0 0 0 0 jSet jFar7 (fun _ => 0) iCur (fun _ => 0) iDep (fun _ => 0) (fun _ => 0) (fun _ => 0) (fun _ => 0) (fun _ => 0) (fun _ => 0) (fun _ => 0) (fun _ => 0) (fun _ => 0) (fun _ => 0) (fun _ => 0) (fun _ => 0) (fun _ => 0) (fun _ => 0) (fun _ => 0) (fun _ => 0) (fun _ => 0) (fun _ => 0) (fun _ => 0) jLan (fun _ => 0) (fun _ => 0) (fun _ => 0) 0 (fun _ => 0) 0 0 iSet iFar7 (fun _ => 0) iCur (fun _ => 0) iDep iFars (fun _ => 0) (fun _ => 0) (fun _ => 0) (fun _ => 0) (fun _ => 0) (fun _ => 0) (fun _ => 0) 0 (fun _ => 0) iKnown 0 0 (fun _ => 0) (fun _ => 0) (fun _ => 0) (fun _ => 0) 0 0 iSet iFar7 (fun _ => 0) iCur (fun _ => 0) iDep iFars (fun _ => 0) (fun _ => 0) (fun _ => 0) (fun _ => 0) (fun _ => 0) (fun _ => 0) (fun _ => 0) 1 0 0 0 0 0 0 (-1) (-1) 0 0 0 (fun _ => 0) (fun _ => 0) (fun _ => 0) (fun _ => 0) (fun _ => 0) (fun _ => 0) (fun _ => 0) (fun _ => 0) 1 0 0 0 0 0 0 (-1) (-1) 0 0 0 (fun _ => 0) (fun _ => 0) (fun _ => 0) (fun _ => 0) (fun _ => 0) (fun _ => 0) (fun _ => 0) (fun _ => 0) (fun _ => (-1)) (fun _ => 0) (fun _ _ => 0)) (fun u : Int32 => u = 1) := by
  unfold f_L_law_B338
  have a1 : (v3 + 1).toInt = v3.toInt + (1 : Int) := i_add2 rfl rfl (by omega) (by omega)
  have a2 : (v3 + 2).toInt = v3.toInt + (2 : Int) := i_add2 rfl rfl (by omega) (by omega)
  have a3 : (v3 + 3).toInt = v3.toInt + (3 : Int) := i_add2 rfl rfl (by omega) (by omega)
  have a4 : (v3 + 4).toInt = v3.toInt + (4 : Int) := i_add2 rfl rfl (by omega) (by omega)
  have a5 : (v3 + 5).toInt = v3.toInt + (5 : Int) := i_add2 rfl rfl (by omega) (by omega)
  refine ok_bd9 ((fun (_ : Int32) (_ : Int32) (_ : Nat → Int32) (_ : Nat → Int32) (_ : Int32) (_ : Int32) (_ : Nat → Int32) (_ : Nat → Int32) (_ : Nat → Int32) => v_X6_rings) 1 1 iFar7 ((fun _ => 0) : Nat → Int32) 0 0 ((fun _ => 0) : Nat → Int32) ((fun _ => 0) : Nat → Int32) ((fun _ => 0) : Nat → Int32)) (fun r_1 w_2 w_3 w_4 w_5 w_6 w_7 w_8 w_9 q_10 => ?_)
  replace q_10 : r_1 = -20 := q_10
  refine ok_bd8 ((fun (_ : Int32) (_ : Int32) (_ : Int32) (_ : Nat → Int32) (_ : Nat → Int32) (_ : Nat → Int32) (_ : Nat → Int32) (_ : Nat → Int32) => v_X7_rings) 0 0 0 jFar7 ((fun _ => 0) : Nat → Int32) ((fun _ => 0) : Nat → Int32) ((fun _ => 0) : Nat → Int32) ((fun _ => 0) : Nat → Int32)) (fun r_11 w_12 w_13 w_14 w_15 w_16 w_17 w_18 q_19 => ?_)
  replace q_19 : r_11 = -20 := q_19
  have hr := eq2 q_10 q_19
  refine ok_ite (fun c_20 => ?_) (fun c_20 => ?_)
  · skip
    have c_20 : r_1.toInt = r_11.toInt := i_eq.mp c_20
    unfold f_L_law_B1235
    have f6 : (v3 + 6).toInt = v3.toInt + (6 : Int) := i_add2 rfl rfl (by omega) (by omega)
    refine ok_nmi (fun x6 hx6 kx6 => ?_)
    exact q_end L xs hL n18 x6 (by omega) _ _ _ _ _ _ _ _ _ _ _ _ _ _ _ _ _ _ _ _ _ _ _ _ _ _ _ _ _ _ _ _ _ _ _ _ _ _ _ _ _ _ _ _ _ _ _ _ _ _ _ _ _ _ _ _ _ _ _ _ _ _ _ _ _ _ _ _ _ _ _ _ _ _ _ _ _ _ _ _ _ _ _ _ _ _ _ _ _ _ _ _ _ _ _ _ _ _ _ _ _ _ _ _ _ _ _ _ _ _ _ _ _ _ _ _ _ _ _ _ _ _ _ _ _ _ _ _ _ _ _
  · skip
    have c_20 : ¬ r_1.toInt = r_11.toInt := fun z => c_20 (i_eq.mpr z)
    exfalso; omega
set_option maxRecDepth 100000 in
set_option maxHeartbeats 4000000 in
theorem q_B351 (L : Nat) (xs : Nat → Int32) (hL : L ≤ 6) (h6 : 6 ≤ L) (n18 : Nat) (v3 : Int32) (i0 : v3.toInt = 0) : okP (f_L_law_B351 L xs (f_L_law_L18 L xs (n18 + 1)) v3 0 1 1 0 0 0 0 0 0 0 0 0 0 0 0 0 jSet jFar7 (fun _ => 0) iCur (fun _ => 0) iDep (fun _ => 0) (fun _ => 0) (fun _ => 0) (fun _ => 0) (fun _ => 0) (fun _ => 0) (fun _ => 0) (fun _ => 0) (fun _ => 0) (fun _ => 0) (fun _ => 0) (fun _ => 0) (fun _ => 0) (fun _ => 0) (fun _ => 0) (fun _ => 0) (fun _ => 0) (fun _ => 0) (fun _ => 0) jLan (fun _ => 0) (fun _ => 0) (fun _ => 0) 0 (fun _ => 0) 0 0 iSet iFar7 (fun _ => 0) iCur (fun _ => 0) iDep iFars (fun _ => 0) (fun _ => 0) (fun _ => 0) (fun _ => 0) (fun _ => 0) (fun _ => 0) (fun _ => 0) 0 (fun _ => 0) iKnown 0 0 (fun _ => 0) (fun _ => 0) (fun _ => 0) (fun _ => 0) 0 0 iSet iFar7 (fun _ => 0) iCur (fun _ => 0) iDep iFars (fun _ => 0) (fun _ => 0) (fun _ => 0) (fun _ => 0) (fun _ => 0) (fun _ => 0) (fun _ => 0) 1 0 0 0 0 0 0 (-1) (-1) 0 0 0 (fun _ => 0) (fun _ => 0) (fun _ => 0) (fun _ => 0) (fun _ => 0) (fun _ => 0) (fun _ => 0) (fun _ => 0) 1 0 0 0 0 0 0 (-1) (-1) 0 0 0 (fun _ => 0) (fun _ => 0) (fun _ => 0) (fun _ => 0) (fun _ => 0) (fun _ => 0) (fun _ => 0) (fun _ => 0) (fun _ => (-1)) (fun _ => 0) (fun _ _ => 0)) (fun u : Int32 => u = 1) := by
  unfold f_L_law_B351
  have a1 : (v3 + 1).toInt = v3.toInt + (1 : Int) := i_add2 rfl rfl (by omega) (by omega)
  have a2 : (v3 + 2).toInt = v3.toInt + (2 : Int) := i_add2 rfl rfl (by omega) (by omega)
  have a3 : (v3 + 3).toInt = v3.toInt + (3 : Int) := i_add2 rfl rfl (by omega) (by omega)
  have a4 : (v3 + 4).toInt = v3.toInt + (4 : Int) := i_add2 rfl rfl (by omega) (by omega)
  have a5 : (v3 + 5).toInt = v3.toInt + (5 : Int) := i_add2 rfl rfl (by omega) (by omega)
  refine ok_bd22 ((fun (_ : Int32) (_ : Nat → Int32) (_ : Nat → Int32) (_ : Nat → Int32) (_ : Nat → Int32) (_ : Int32) (_ : Int32) (_ : Int32) (_ : Int32) (_ : Int32) (_ : Int32) (_ : Int64) (_ : Int32) (_ : Int32) (_ : Int32) (_ : Int32) (_ : Int32) (_ : Nat → Int32) (_ : Nat → Int32) (_ : Nat → Int32) (_ : Nat → Int32) (_ : Nat → Int32) (_ : Nat → Int64) (_ : Nat → Int32) (_ : Nat → Int32) => v_X6_ways) 1 iSet iFar7 ((fun _ => 0) : Nat → Int32) iFars 1 0 0 0 0 0 0 (-1) (-1) 0 0 0 ((fun _ => 0) : Nat → Int32) ((fun _ => 0) : Nat → Int32) ((fun _ => 0) : Nat → Int32) ((fun _ => 0) : Nat → Int32) ((fun _ => 0) : Nat → Int32) ((fun _ => 0) : Nat → Int64) ((fun _ => 0) : Nat → Int32) ((fun _ => 0) : Nat → Int32)) (fun r_1 w_2 w_3 w_4 w_5 w_6 w_7 w_8 w_9 w_10 w_11 w_12 w_13 w_14 w_15 w_16 w_17 w_18 w_19 w_20 w_21 w_22 q_23 => ?_)
  replace q_23 : r_1.toInt = 89 := q_23
  refine ok_bd13 ((fun (_ : Int32) (_ : Int32) (_ : Int32) (_ : Int32) (_ : Nat → Int32) (_ : Nat → Int32) (_ : Nat → Int32) (_ : Nat → Int32) (_ : Nat → Int32) (_ : Nat → Int32) (_ : Nat → Int32) (_ : Nat → Int32) (_ : Nat → Int32) (_ : Nat → Int32) (_ : Nat → Int32) => v_X7_ways) 0 0 0 0 jSet jFar7 ((fun _ => 0) : Nat → Int32) ((fun _ => 0) : Nat → Int32) ((fun _ => 0) : Nat → Int32) ((fun _ => 0) : Nat → Int32) ((fun _ => 0) : Nat → Int32) ((fun _ => 0) : Nat → Int32) ((fun _ => 0) : Nat → Int32) ((fun _ => 0) : Nat → Int32) ((fun _ => 0) : Nat → Int32)) (fun r_24 w_25 w_26 w_27 w_28 w_29 w_30 w_31 w_32 w_33 w_34 w_35 w_36 q_37 => ?_)
  replace q_37 : r_24.toInt = 89 := q_37
  refine ok_ite (fun c_38 => ?_) (fun c_38 => ?_)
  · skip
    have c_38 : r_1.toInt = r_24.toInt := i_eq.mp c_38
    unfold f_L_law_B1235
    have f6 : (v3 + 6).toInt = v3.toInt + (6 : Int) := i_add2 rfl rfl (by omega) (by omega)
    refine ok_nmi (fun x6 hx6 kx6 => ?_)
    exact q_end L xs hL n18 x6 (by omega) _ _ _ _ _ _ _ _ _ _ _ _ _ _ _ _ _ _ _ _ _ _ _ _ _ _ _ _ _ _ _ _ _ _ _ _ _ _ _ _ _ _ _ _ _ _ _ _ _ _ _ _ _ _ _ _ _ _ _ _ _ _ _ _ _ _ _ _ _ _ _ _ _ _ _ _ _ _ _ _ _ _ _ _ _ _ _ _ _ _ _ _ _ _ _ _ _ _ _ _ _ _ _ _ _ _ _ _ _ _ _ _ _ _ _ _ _ _ _ _ _ _ _ _ _ _ _ _ _ _ _
  · skip
    have c_38 : ¬ r_1.toInt = r_24.toInt := fun z => c_38 (i_eq.mpr z)
    exfalso; omega
set_option maxRecDepth 100000 in
set_option maxHeartbeats 4000000 in
theorem q_B364 (L : Nat) (xs : Nat → Int32) (hL : L ≤ 6) (h6 : 6 ≤ L) (n18 : Nat) (v3 : Int32) (i0 : v3.toInt = 0) : okP (f_L_law_B364 L xs (f_L_law_L18 L xs (n18 + 1)) v3 0 1 1 0 0 0 0 0 0 0 0 0 0 0 0 0 jSet jFar7 (fun _ => 0) iCur (fun _ => 0) iDep (fun _ => 0) (fun _ => 0) (fun _ => 0) (fun _ => 0) (fun _ => 0) (fun _ => 0) (fun _ => 0) (fun _ => 0) (fun _ => 0) (fun _ => 0) (fun _ => 0) (fun _ => 0) (fun _ => 0) (fun _ => 0) (fun _ => 0) (fun _ => 0) (fun _ => 0) (fun _ => 0) (fun _ => 0) jLan (fun _ => 0) (fun _ => 0) (fun _ => 0) 0 (fun _ => 0) 0 0 iSet iFar7 (fun _ => 0) iCur (fun _ => 0) iDep iFars (fun _ => 0) (fun _ => 0) (fun _ => 0) (fun _ => 0) (fun _ => 0) (fun _ => 0) (fun _ => 0) 0 (fun _ => 0) iKnown 0 0 (fun _ => 0) (fun _ => 0) (fun _ => 0) (fun _ => 0) 0 0 iSet iFar7 (fun _ => 0) iCur (fun _ => 0) iDep iFars (fun _ => 0) (fun _ => 0) (fun _ => 0) (fun _ => 0) (fun _ => 0) (fun _ => 0) (fun _ => 0) 1 0 0 0 0 0 0 (-1) (-1) 0 0 0 (fun _ => 0) (fun _ => 0) (fun _ => 0) (fun _ => 0) (fun _ => 0) (fun _ => 0) (fun _ => 0) (fun _ => 0) 1 0 0 0 0 0 0 (-1) (-1) 0 0 0 (fun _ => 0) (fun _ => 0) (fun _ => 0) (fun _ => 0) (fun _ => 0) (fun _ => 0) (fun _ => 0) (fun _ => 0) (fun _ => (-1)) (fun _ => 0) (fun _ _ => 0)) (fun u : Int32 => u = 1) := by
  unfold f_L_law_B364
  have a1 : (v3 + 1).toInt = v3.toInt + (1 : Int) := i_add2 rfl rfl (by omega) (by omega)
  have a2 : (v3 + 2).toInt = v3.toInt + (2 : Int) := i_add2 rfl rfl (by omega) (by omega)
  have a3 : (v3 + 3).toInt = v3.toInt + (3 : Int) := i_add2 rfl rfl (by omega) (by omega)
  have a4 : (v3 + 4).toInt = v3.toInt + (4 : Int) := i_add2 rfl rfl (by omega) (by omega)
  have a5 : (v3 + 5).toInt = v3.toInt + (5 : Int) := i_add2 rfl rfl (by omega) (by omega)
  refine ok_bd22 ((fun (_ : Int32) (_ : Nat → Int32) (_ : Nat → Int32) (_ : Nat → Int32) (_ : Nat → Int32) (_ : Int32) (_ : Int32) (_ : Int32) (_ : Int32) (_ : Int32) (_ : Int32) (_ : Int64) (_ : Int32) (_ : Int32) (_ : Int32) (_ : Int32) (_ : Int32) (_ : Nat → Int32) (_ : Nat → Int32) (_ : Nat → Int32) (_ : Nat → Int32) (_ : Nat → Int32) (_ : Nat → Int64) (_ : Nat → Int32) (_ : Nat → Int32) => v_X6_weight) 1 iSet iFar7 ((fun _ => 0) : Nat → Int32) iFars 1 0 0 0 0 0 0 (-1) (-1) 0 0 0 ((fun _ => 0) : Nat → Int32) ((fun _ => 0) : Nat → Int32) ((fun _ => 0) : Nat → Int32) ((fun _ => 0) : Nat → Int32) ((fun _ => 0) : Nat → Int32) ((fun _ => 0) : Nat → Int64) ((fun _ => 0) : Nat → Int32) ((fun _ => 0) : Nat → Int32)) (fun r_1 w_2 w_3 w_4 w_5 w_6 w_7 w_8 w_9 w_10 w_11 w_12 w_13 w_14 w_15 w_16 w_17 w_18 w_19 w_20 w_21 w_22 q_23 => ?_)
  replace q_23 : r_1 = WE.foldl wsU 0 := q_23
  refine ok_bd13 ((fun (_ : Int32) (_ : Int32) (_ : Int32) (_ : Int32) (_ : Nat → Int32) (_ : Nat → Int32) (_ : Nat → Int32) (_ : Nat → Int32) (_ : Nat → Int32) (_ : Nat → Int32) (_ : Nat → Int32) (_ : Nat → Int32) (_ : Nat → Int32) (_ : Nat → Int32) (_ : Nat → Int32) => v_X7_weight) 0 0 0 0 jSet jFar7 ((fun _ => 0) : Nat → Int32) ((fun _ => 0) : Nat → Int32) ((fun _ => 0) : Nat → Int32) ((fun _ => 0) : Nat → Int32) ((fun _ => 0) : Nat → Int32) ((fun _ => 0) : Nat → Int32) ((fun _ => 0) : Nat → Int32) ((fun _ => 0) : Nat → Int32) ((fun _ => 0) : Nat → Int32)) (fun r_24 w_25 w_26 w_27 w_28 w_29 w_30 w_31 w_32 w_33 w_34 w_35 w_36 q_37 => ?_)
  replace q_37 : r_24 = WE.foldl wsU 0 := q_37
  have hr := eq2L q_23 q_37
  refine ok_ite (fun c_38 => ?_) (fun c_38 => ?_)
  · skip
    have c_38 : r_1.toInt = r_24.toInt := j_eq.mp ((lg_cmp_eq _ _).mp c_38)
    unfold f_L_law_B1235
    have f6 : (v3 + 6).toInt = v3.toInt + (6 : Int) := i_add2 rfl rfl (by omega) (by omega)
    refine ok_nmi (fun x6 hx6 kx6 => ?_)
    exact q_end L xs hL n18 x6 (by omega) _ _ _ _ _ _ _ _ _ _ _ _ _ _ _ _ _ _ _ _ _ _ _ _ _ _ _ _ _ _ _ _ _ _ _ _ _ _ _ _ _ _ _ _ _ _ _ _ _ _ _ _ _ _ _ _ _ _ _ _ _ _ _ _ _ _ _ _ _ _ _ _ _ _ _ _ _ _ _ _ _ _ _ _ _ _ _ _ _ _ _ _ _ _ _ _ _ _ _ _ _ _ _ _ _ _ _ _ _ _ _ _ _ _ _ _ _ _ _ _ _ _ _ _ _ _ _ _ _ _ _
  · skip
    have c_38 : ¬ r_1.toInt = r_24.toInt := fun z => c_38 ((lg_cmp_eq _ _).mpr (j_eq.mpr z))
    exfalso; omega
set_option maxRecDepth 100000 in
set_option maxHeartbeats 4000000 in
theorem q_B378 (L : Nat) (xs : Nat → Int32) (hL : L ≤ 6) (h6 : 6 ≤ L) (n18 : Nat) (v3 : Int32) (i0 : v3.toInt = 0) : okP (f_L_law_B378 L xs (f_L_law_L18 L xs (n18 + 1)) v3 0 1 1 0 0 0 0 0 0 0 0 0 0 0 0 0 jSet jFar7 (fun _ => 0) iCur (fun _ => 0) iDep (fun _ => 0) (fun _ => 0) (fun _ => 0) (fun _ => 0) (fun _ => 0) (fun _ => 0) (fun _ => 0) (fun _ => 0) (fun _ => 0) (fun _ => 0) (fun _ => 0) (fun _ => 0) (fun _ => 0) (fun _ => 0) (fun _ => 0) (fun _ => 0) (fun _ => 0) (fun _ => 0) (fun _ => 0) jLan (fun _ => 0) (fun _ => 0) (fun _ => 0) 0 (fun _ => 0) 0 0 iSet iFar7 (fun _ => 0) iCur (fun _ => 0) iDep iFars (fun _ => 0) (fun _ => 0) (fun _ => 0) (fun _ => 0) (fun _ => 0) (fun _ => 0) (fun _ => 0) 0 (fun _ => 0) iKnown 0 0 (fun _ => 0) (fun _ => 0) (fun _ => 0) (fun _ => 0) 0 0 iSet iFar7 (fun _ => 0) iCur (fun _ => 0) iDep iFars (fun _ => 0) (fun _ => 0) (fun _ => 0) (fun _ => 0) (fun _ => 0) (fun _ => 0) (fun _ => 0) 1 0 0 0 0 0 0 (-1) (-1) 0 0 0 (fun _ => 0) (fun _ => 0) (fun _ => 0) (fun _ => 0) (fun _ => 0) (fun _ => 0) (fun _ => 0) (fun _ => 0) 1 0 0 0 0 0 0 (-1) (-1) 0 0 0 (fun _ => 0) (fun _ => 0) (fun _ => 0) (fun _ => 0) (fun _ => 0) (fun _ => 0) (fun _ => 0) (fun _ => 0) (fun _ => (-1)) (fun _ => 0) (fun _ _ => 0)) (fun u : Int32 => u = 1) := by
  unfold f_L_law_B378
  have a1 : (v3 + 1).toInt = v3.toInt + (1 : Int) := i_add2 rfl rfl (by omega) (by omega)
  have a2 : (v3 + 2).toInt = v3.toInt + (2 : Int) := i_add2 rfl rfl (by omega) (by omega)
  have a3 : (v3 + 3).toInt = v3.toInt + (3 : Int) := i_add2 rfl rfl (by omega) (by omega)
  have a4 : (v3 + 4).toInt = v3.toInt + (4 : Int) := i_add2 rfl rfl (by omega) (by omega)
  have a5 : (v3 + 5).toInt = v3.toInt + (5 : Int) := i_add2 rfl rfl (by omega) (by omega)
  have ix_1 : ¬ ((v3 + 1) < 0 ∨ L ≤ (v3 + 1).toNatClampNeg) := ix (show 0 ≤ (v3 + 1).toInt by omega) (show (v3 + 1).toInt < (L : Nat) by omega)
  refine ok_chk ix_1 ?_
  have ix_2 : ¬ ((v3 + 2) < 0 ∨ L ≤ (v3 + 2).toNatClampNeg) := ix (show 0 ≤ (v3 + 2).toInt by omega) (show (v3 + 2).toInt < (L : Nat) by omega)
  refine ok_chk ix_2 ?_
  refine ok_bd22 ((fun (x1 : Int32) (x2 : Int32) (_ : Int32) (_ : Nat → Int32) (_ : Nat → Int32) (_ : Nat → Int32) (_ : Nat → Int32) (_ : Int32) (_ : Int32) (_ : Int32) (_ : Int32) (_ : Int32) (_ : Int32) (_ : Int64) (_ : Int32) (_ : Int32) (_ : Int32) (_ : Int32) (_ : Int32) (_ : Nat → Int32) (_ : Nat → Int32) (_ : Nat → Int32) (_ : Nat → Int32) (_ : Nat → Int32) (_ : Nat → Int64) (_ : Nat → Int32) (_ : Nat → Int32) => v_X6_way x1 x2) (xs (v3 + 1).toNatClampNeg) (xs (v3 + 2).toNatClampNeg) 1 iSet iFar7 ((fun _ => 0) : Nat → Int32) iFars 1 0 0 0 0 0 0 (-1) (-1) 0 0 0 ((fun _ => 0) : Nat → Int32) ((fun _ => 0) : Nat → Int32) ((fun _ => 0) : Nat → Int32) ((fun _ => 0) : Nat → Int32) ((fun _ => 0) : Nat → Int32) ((fun _ => 0) : Nat → Int64) ((fun _ => 0) : Nat → Int32) ((fun _ => 0) : Nat → Int32)) (fun r_3 w_4 w_5 w_6 w_7 w_8 w_9 w_10 w_11 w_12 w_13 w_14 w_15 w_16 w_17 w_18 w_19 w_20 w_21 w_22 w_23 w_24 q_25 => ?_)
  replace q_25 : (¬ (0 ≤ (xs (v3 + 1).toNatClampNeg).toInt ∧ -3 ≤ (xs (v3 + 2).toNatClampNeg).toInt ∧ (xs (v3 + 2).toNatClampNeg).toInt ≤ 6) ∧ r_3.toInt = -1) ∨ ((0 ≤ (xs (v3 + 1).toNatClampNeg).toInt ∧ -3 ≤ (xs (v3 + 2).toNatClampNeg).toInt ∧ (xs (v3 + 2).toNatClampNeg).toInt ≤ 6) ∧ r_3.toInt = ansW WM[(xs (v3 + 1).toNatClampNeg).toInt.toNat]? (xs (v3 + 2).toNatClampNeg).toInt) := q_25
  refine ok_chk ix_1 ?_
  refine ok_chk ix_2 ?_
  refine ok_bd13 ((fun (x1 : Int32) (x2 : Int32) (_ : Int32) (_ : Int32) (_ : Int32) (_ : Int32) (_ : Nat → Int32) (_ : Nat → Int32) (_ : Nat → Int32) (_ : Nat → Int32) (_ : Nat → Int32) (_ : Nat → Int32) (_ : Nat → Int32) (_ : Nat → Int32) (_ : Nat → Int32) (_ : Nat → Int32) (_ : Nat → Int32) => v_X7_way x1 x2) (xs (v3 + 1).toNatClampNeg) (xs (v3 + 2).toNatClampNeg) 0 0 0 0 jSet jFar7 ((fun _ => 0) : Nat → Int32) ((fun _ => 0) : Nat → Int32) ((fun _ => 0) : Nat → Int32) ((fun _ => 0) : Nat → Int32) ((fun _ => 0) : Nat → Int32) ((fun _ => 0) : Nat → Int32) ((fun _ => 0) : Nat → Int32) ((fun _ => 0) : Nat → Int32) ((fun _ => 0) : Nat → Int32)) (fun r_26 w_27 w_28 w_29 w_30 w_31 w_32 w_33 w_34 w_35 w_36 w_37 w_38 q_39 => ?_)
  replace q_39 : (¬ (0 ≤ (xs (v3 + 1).toNatClampNeg).toInt ∧ -3 ≤ (xs (v3 + 2).toNatClampNeg).toInt ∧ (xs (v3 + 2).toNatClampNeg).toInt ≤ 6) ∧ r_26.toInt = -1) ∨ ((0 ≤ (xs (v3 + 1).toNatClampNeg).toInt ∧ -3 ≤ (xs (v3 + 2).toNatClampNeg).toInt ∧ (xs (v3 + 2).toNatClampNeg).toInt ≤ 6) ∧ r_26.toInt = ansW WM[(xs (v3 + 1).toNatClampNeg).toInt.toNat]? (xs (v3 + 2).toNatClampNeg).toInt) := q_39
  have hr := ansI q_25 q_39
  refine ok_ite (fun c_40 => ?_) (fun c_40 => ?_)
  · skip
    have c_40 : r_3.toInt = r_26.toInt := i_eq.mp c_40
    unfold f_L_law_B1235
    have f6 : (v3 + 6).toInt = v3.toInt + (6 : Int) := i_add2 rfl rfl (by omega) (by omega)
    refine ok_nmi (fun x6 hx6 kx6 => ?_)
    exact q_end L xs hL n18 x6 (by omega) _ _ _ _ _ _ _ _ _ _ _ _ _ _ _ _ _ _ _ _ _ _ _ _ _ _ _ _ _ _ _ _ _ _ _ _ _ _ _ _ _ _ _ _ _ _ _ _ _ _ _ _ _ _ _ _ _ _ _ _ _ _ _ _ _ _ _ _ _ _ _ _ _ _ _ _ _ _ _ _ _ _ _ _ _ _ _ _ _ _ _ _ _ _ _ _ _ _ _ _ _ _ _ _ _ _ _ _ _ _ _ _ _ _ _ _ _ _ _ _ _ _ _ _ _ _ _ _ _ _ _
  · skip
    have c_40 : ¬ r_3.toInt = r_26.toInt := fun z => c_40 (i_eq.mpr z)
    exfalso; omega
