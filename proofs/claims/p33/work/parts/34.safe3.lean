set_option maxRecDepth 100000 in
set_option maxHeartbeats 4000000 in
theorem s_X6_waysChanged (o_walkIsOld : Int32) (o_endsAreOld : Int32) : okP (f_X6_waysChanged o_walkIsOld o_endsAreOld) (fun u => True) := by
  unfold f_X6_waysChanged
  exact ok_some trivial
set_option maxRecDepth 100000 in
set_option maxHeartbeats 4000000 in
theorem s_X6_seaChanged (o_endsAreOld : Int32) (seas_known : Nat → Int32) : okP (f_X6_seaChanged o_endsAreOld seas_known) (fun u => True) := by
  unfold f_X6_seaChanged
  refine ok_bd1 (s_X1_forget seas_known) (fun w_1 q_2 => ?_)
  replace q_2 : w_1 = fil 0 400 (-1) seas_known := q_2
  exact ok_some trivial
set_option maxRecDepth 100000 in
set_option maxHeartbeats 4000000 in
theorem s_X6_isPiece (x1 : Int32) (told_pieceCount : Int32) : okP (f_X6_isPiece x1 told_pieceCount) (fun u => ((u.toInt = 1 ∧ 0 ≤ x1.toInt ∧ x1.toInt < told_pieceCount.toInt) ∨ (u.toInt = 0 ∧ (x1.toInt < 0 ∨ told_pieceCount.toInt ≤ x1.toInt)))) := by
  unfold f_X6_isPiece
  refine ok_ite (fun c_1 => ?_) (fun c_1 => ?_)
  · skip
    have c_1 : x1.toInt < (0 : Int) := i_lt.mp c_1
    exact ok_some (show (((0 : Int) = 1 ∧ 0 ≤ x1.toInt ∧ x1.toInt < told_pieceCount.toInt) ∨ ((0 : Int) = 0 ∧ (x1.toInt < 0 ∨ told_pieceCount.toInt ≤ x1.toInt))) from by omega)
  · skip
    have c_1 : ¬ x1.toInt < (0 : Int) := fun z => c_1 (i_lt.mpr z)
    refine ok_ite (fun c_2 => ?_) (fun c_2 => ?_)
    · skip
      have c_2 : told_pieceCount.toInt ≤ x1.toInt := i_le.mp c_2
      exact ok_some (show (((0 : Int) = 1 ∧ 0 ≤ x1.toInt ∧ x1.toInt < told_pieceCount.toInt) ∨ ((0 : Int) = 0 ∧ (x1.toInt < 0 ∨ told_pieceCount.toInt ≤ x1.toInt))) from by omega)
    · skip
      have c_2 : ¬ told_pieceCount.toInt ≤ x1.toInt := fun z => c_2 (i_le.mpr z)
      exact ok_some (show (((1 : Int) = 1 ∧ 0 ≤ x1.toInt ∧ x1.toInt < told_pieceCount.toInt) ∨ ((1 : Int) = 0 ∧ (x1.toInt < 0 ∨ told_pieceCount.toInt ≤ x1.toInt))) from by omega)
set_option maxRecDepth 100000 in
set_option maxHeartbeats 4000000 in
theorem s_X6_walked (o_walkIsOld : Int32) (told_settings : Nat → Int32) (told_howFar : Nat → Int32) (told_tones : Nat → Int32) (told_fars : Nat → Int32) (walk_last : Int32) (walk_turnsLet : Int32) (walk_slowsLet : Int32) (walk_fuel : Int32) (walk_glide : Int32) (walk_count : Int32) (walk_weightSum : Int64) (walk_toPass : Int32) (walk_foundNumber : Int32) (walk_foundWeight : Int32) (walk_foundTurns : Int32) (walk_foundSlowed : Int32) (walk_howFar : Nat → Int32) (walk_tones : Nat → Int32) (walk_only : Nat → Int32) (walk_fars : Nat → Int32) (walk_cellAt : Nat → Int32) (walk_ends : Nat → Int64) (walk_seen : Nat → Int32) (walk_begun : Nat → Int32) (h0 : SetOK told_settings) (h1 : 0 ≤ (walk_glide).toInt) (h2 : (walk_glide).toInt ≤ 3) : okP (f_X6_walked o_walkIsOld told_settings told_howFar told_tones told_fars walk_last walk_turnsLet walk_slowsLet walk_fuel walk_glide walk_count walk_weightSum walk_toPass walk_foundNumber walk_foundWeight walk_foundTurns walk_foundSlowed walk_howFar walk_tones walk_only walk_fars walk_cellAt walk_ends walk_seen walk_begun) (fun u => (0 ≤ u.2.2.2.2.2.1.toInt) ∧ (u.2.2.2.2.2.1.toInt ≤ 3)) := by
  obtain ⟨s0a, s0b, s1a, s1b, s2a, s2b, s3a, s3b, s4a, s4b, s5a, s5b, s6a, s6b, s7a, s7b⟩ := id h0
  unfold f_X6_walked
  refine ok_ite (fun c_1 => ?_) (fun c_1 => ?_)
  · skip
    have c_1 : o_walkIsOld.toInt = (0 : Int) := i_eq.mp c_1
    exact ok_some (show (0 ≤ walk_glide.toInt) ∧ (walk_glide.toInt ≤ 3) from ⟨by omega, by omega⟩)
  · skip
    have c_1 : ¬ o_walkIsOld.toInt = (0 : Int) := fun z => c_1 (i_eq.mpr z)
    refine ok_bd10 (s_X5_begin walk_last walk_turnsLet walk_slowsLet walk_fuel walk_glide walk_howFar walk_tones walk_only walk_fars walk_cellAt told_settings told_howFar told_tones told_fars) (fun w_2 w_3 w_4 w_5 w_6 w_7 w_8 w_9 w_10 w_11 q_12 => ?_)
    obtain ⟨q_12_0, q_12_1, q_12_2⟩ : (w_6.toInt = (told_settings 6).toInt) ∧ (w_2.toInt = (told_settings 2).toInt) ∧ ((w_11 0).toInt = (told_settings 1).toInt) := q_12
    refine ok_bd11 (s_X5_goAll w_2 w_3 w_4 w_5 w_6 walk_count walk_weightSum walk_toPass walk_foundNumber walk_foundWeight walk_foundTurns walk_foundSlowed w_7 w_8 w_9 w_10 w_11 walk_ends walk_seen walk_begun (w_11 0) (by first | with_reducible assumption | with_reducible rfl | omega) (show 0 ≤ ((w_11 0)).toInt by omega) (show ((w_11 0)).toInt ≤ 99 by omega) (show 0 ≤ (w_6).toInt by omega) (show (w_6).toInt ≤ 3 by omega)) (fun w_13 w_14 w_15 w_16 w_17 w_18 w_19 w_20 w_21 w_22 w_23 q_24 => ?_)
    exact ok_some (show (0 ≤ w_6.toInt) ∧ (w_6.toInt ≤ 3) from ⟨by omega, by omega⟩)
set_option maxRecDepth 100000 in
set_option maxHeartbeats 4000000 in
theorem s_X6_weighed (o_walkIsOld : Int32) (o_endsAreOld : Int32) (told_pieceCount : Int32) (told_dragCount : Int32) (told_settings : Nat → Int32) (told_howFar : Nat → Int32) (told_tones : Nat → Int32) (told_currents : Nat → Int32) (told_warmths : Nat → Int32) (told_fars : Nat → Int32) (told_pieceCells : Nat → Int32) (told_pieceMonths : Nat → Int32) (told_pieceHighs : Nat → Int32) (told_pieceAges : Nat → Int32) (told_pieceNeeds : Nat → Int32) (told_dragCells : Nat → Int32) (told_dragEighths : Nat → Int32) (walk_last : Int32) (walk_turnsLet : Int32) (walk_slowsLet : Int32) (walk_fuel : Int32) (walk_glide : Int32) (walk_count : Int32) (walk_weightSum : Int64) (walk_toPass : Int32) (walk_foundNumber : Int32) (walk_foundWeight : Int32) (walk_foundTurns : Int32) (walk_foundSlowed : Int32) (walk_howFar : Nat → Int32) (walk_tones : Nat → Int32) (walk_only : Nat → Int32) (walk_fars : Nat → Int32) (walk_cellAt : Nat → Int32) (walk_ends : Nat → Int64) (walk_seen : Nat → Int32) (walk_begun : Nat → Int32) (seas_known : Nat → Int32) (ends_total : Int64) (ends_sums : Nat → Int64) (h0 : SetOK told_settings) (h1 : 0 ≤ (walk_glide).toInt) (h2 : (walk_glide).toInt ≤ 3) (h3 : 0 ≤ (told_pieceCount).toInt) (h4 : (told_pieceCount).toInt ≤ 4) : okP (f_X6_weighed o_walkIsOld o_endsAreOld told_pieceCount told_dragCount told_settings told_howFar told_tones told_currents told_warmths told_fars told_pieceCells told_pieceMonths told_pieceHighs told_pieceAges told_pieceNeeds told_dragCells told_dragEighths walk_last walk_turnsLet walk_slowsLet walk_fuel walk_glide walk_count walk_weightSum walk_toPass walk_foundNumber walk_foundWeight walk_foundTurns walk_foundSlowed walk_howFar walk_tones walk_only walk_fars walk_cellAt walk_ends walk_seen walk_begun seas_known ends_total ends_sums) (fun u => (0 ≤ u.2.2.2.2.2.2.1.toInt) ∧ (u.2.2.2.2.2.2.1.toInt ≤ 3)) := by
  obtain ⟨s0a, s0b, s1a, s1b, s2a, s2b, s3a, s3b, s4a, s4b, s5a, s5b, s6a, s6b, s7a, s7b⟩ := id h0
  unfold f_X6_weighed
  refine ok_bd21 (s_X6_walked o_walkIsOld told_settings told_howFar told_tones told_fars walk_last walk_turnsLet walk_slowsLet walk_fuel walk_glide walk_count walk_weightSum walk_toPass walk_foundNumber walk_foundWeight walk_foundTurns walk_foundSlowed walk_howFar walk_tones walk_only walk_fars walk_cellAt walk_ends walk_seen walk_begun (by first | with_reducible assumption | with_reducible rfl | omega) (show 0 ≤ (walk_glide).toInt by omega) (show (walk_glide).toInt ≤ 3 by omega)) (fun w_1 w_2 w_3 w_4 w_5 w_6 w_7 w_8 w_9 w_10 w_11 w_12 w_13 w_14 w_15 w_16 w_17 w_18 w_19 w_20 w_21 q_22 => ?_)
  obtain ⟨q_22_0, q_22_1⟩ : (0 ≤ w_6.toInt) ∧ (w_6.toInt ≤ 3) := q_22
  refine ok_ite (fun c_23 => ?_) (fun c_23 => ?_)
  · skip
    have c_23 : o_endsAreOld.toInt = (0 : Int) := i_eq.mp c_23
    exact ok_some (show (0 ≤ w_6.toInt) ∧ (w_6.toInt ≤ 3) from ⟨by omega, by omega⟩)
  · skip
    have c_23 : ¬ o_endsAreOld.toInt = (0 : Int) := fun z => c_23 (i_eq.mpr z)
    refine ok_bd3 (s_X0_weigh 100 (-1) ends_total ends_sums told_pieceCount told_dragCount told_settings told_currents told_warmths told_pieceCells told_pieceMonths told_pieceHighs told_pieceAges told_pieceNeeds told_dragCells told_dragEighths seas_known w_19 (by first | with_reducible assumption | with_reducible rfl | omega) (show 0 ≤ (told_pieceCount).toInt by omega) (show (told_pieceCount).toInt ≤ 4 by omega)) (fun w_24 w_25 w_26 q_27 => ?_)
    exact ok_some (show (0 ≤ w_6.toInt) ∧ (w_6.toInt ≤ 3) from ⟨by omega, by omega⟩)
set_option maxRecDepth 100000 in
set_option maxHeartbeats 4000000 in
theorem s_X6_movedBy (x1 : Int32) (told_pieceCount : Int32) (told_dragCount : Int32) (told_settings : Nat → Int32) (told_howFar : Nat → Int32) (told_tones : Nat → Int32) (told_currents : Nat → Int32) (told_warmths : Nat → Int32) (told_fars : Nat → Int32) (told_pieceCells : Nat → Int32) (told_pieceMonths : Nat → Int32) (told_pieceHighs : Nat → Int32) (told_pieceAges : Nat → Int32) (told_pieceNeeds : Nat → Int32) (told_dragCells : Nat → Int32) (told_dragEighths : Nat → Int32) (walk_ends : Nat → Int64) (trial_last : Int32) (trial_turnsLet : Int32) (trial_slowsLet : Int32) (trial_fuel : Int32) (trial_glide : Int32) (trial_count : Int32) (trial_weightSum : Int64) (trial_toPass : Int32) (trial_foundNumber : Int32) (trial_foundWeight : Int32) (trial_foundTurns : Int32) (trial_foundSlowed : Int32) (trial_howFar : Nat → Int32) (trial_tones : Nat → Int32) (trial_only : Nat → Int32) (trial_fars : Nat → Int32) (trial_cellAt : Nat → Int32) (trial_ends : Nat → Int64) (trial_seen : Nat → Int32) (trial_begun : Nat → Int32) (seas_known : Nat → Int32) (otherEnds_total : Int64) (otherEnds_sums : Nat → Int64) (p2_total : Int64) (p2_sums : Nat → Int64) (h0 : SetOK told_settings) (h1 : 0 ≤ (told_pieceCount).toInt) (h2 : (told_pieceCount).toInt ≤ 4) : okP (f_X6_movedBy x1 told_pieceCount told_dragCount told_settings told_howFar told_tones told_currents told_warmths told_fars told_pieceCells told_pieceMonths told_pieceHighs told_pieceAges told_pieceNeeds told_dragCells told_dragEighths walk_ends trial_last trial_turnsLet trial_slowsLet trial_fuel trial_glide trial_count trial_weightSum trial_toPass trial_foundNumber trial_foundWeight trial_foundTurns trial_foundSlowed trial_howFar trial_tones trial_only trial_fars trial_cellAt trial_ends trial_seen trial_begun seas_known otherEnds_total otherEnds_sums p2_total p2_sums) (fun u => True) := by
  obtain ⟨s0a, s0b, s1a, s1b, s2a, s2b, s3a, s3b, s4a, s4b, s5a, s5b, s6a, s6b, s7a, s7b⟩ := id h0
  unfold f_X6_movedBy
  refine ok_ite (fun c_1 => ?_) (fun c_1 => ?_)
  · skip
    have c_1 : (12 : Int) ≤ x1.toInt := i_le.mp c_1
    unfold f_X6_movedBy_B17
    refine ok_bd3 (s_X0_weigh 100 x1 otherEnds_total otherEnds_sums told_pieceCount told_dragCount told_settings told_currents told_warmths told_pieceCells told_pieceMonths told_pieceHighs told_pieceAges told_pieceNeeds told_dragCells told_dragEighths seas_known walk_ends (by first | with_reducible assumption | with_reducible rfl | omega) (show 0 ≤ (told_pieceCount).toInt by omega) (show (told_pieceCount).toInt ≤ 4 by omega)) (fun w_2 w_3 w_4 q_5 => ?_)
    refine ok_bd1 (s_X0_apart p2_total p2_sums w_2 w_3) (fun r_6 q_7 => ?_)
    exact ok_some trivial
  · skip
    have c_1 : ¬ (12 : Int) ≤ x1.toInt := fun z => c_1 (i_le.mpr z)
    first | (have f_8 : (x1 - 8).toInt = x1.toInt - (8 : Int) := i_sub2 rfl rfl (by omega) (by omega)) | skip
    refine ok_bd1 (s_X6_isPiece (x1 - 8) told_pieceCount) (fun r_9 q_10 => ?_)
    replace q_10 : (r_9.toInt = 1 ∧ 0 ≤ (x1 - 8).toInt ∧ (x1 - 8).toInt < told_pieceCount.toInt) ∨ (r_9.toInt = 0 ∧ ((x1 - 8).toInt < 0 ∨ told_pieceCount.toInt ≤ (x1 - 8).toInt)) := q_10
    refine ok_ite (fun c_11 => ?_) (fun c_11 => ?_)
    · skip
      have c_11 : r_9.toInt = (0 : Int) := i_eq.mp c_11
      replace q_10 : ((x1 - 8).toInt < 0 ∨ told_pieceCount.toInt ≤ (x1 - 8).toInt) := by omega
      refine ok_ite (fun c_12 => ?_) (fun c_12 => ?_)
      · skip
        have c_12 : x1.toInt < (8 : Int) := i_lt.mp c_12
        refine ok_bd10 (s_X5_begin trial_last trial_turnsLet trial_slowsLet trial_fuel trial_glide trial_howFar trial_tones trial_only trial_fars trial_cellAt told_settings told_howFar told_tones told_fars) (fun w_13 w_14 w_15 w_16 w_17 w_18 w_19 w_20 w_21 w_22 q_23 => ?_)
        obtain ⟨q_23_0, q_23_1, q_23_2⟩ : (w_17.toInt = (told_settings 6).toInt) ∧ (w_13.toInt = (told_settings 2).toInt) ∧ ((w_22 0).toInt = (told_settings 1).toInt) := q_23
        refine ok_bd4 (s_X5_leaveOut x1 w_13 w_16 w_18 w_19) (fun r_24 w_25 w_26 w_27 q_28 => ?_)
        replace q_28 : r_24.toInt = 0 ∨ r_24.toInt = 1 := q_28
        refine ok_ite (fun c_29 => ?_) (fun c_29 => ?_)
        · skip
          have c_29 : r_24.toInt = (0 : Int) := i_eq.mp c_29
          exact ok_some trivial
        · skip
          have c_29 : ¬ r_24.toInt = (0 : Int) := fun z => c_29 (i_eq.mpr z)
          refine ok_bd11 (s_X5_goAll w_13 w_14 w_15 w_25 w_17 trial_count trial_weightSum trial_toPass trial_foundNumber trial_foundWeight trial_foundTurns trial_foundSlowed w_26 w_27 w_20 w_21 w_22 trial_ends trial_seen trial_begun (w_22 0) (by first | with_reducible assumption | with_reducible rfl | omega) (show 0 ≤ ((w_22 0)).toInt by omega) (show ((w_22 0)).toInt ≤ 99 by omega) (show 0 ≤ (w_17).toInt by omega) (show (w_17).toInt ≤ 3 by omega)) (fun w_30 w_31 w_32 w_33 w_34 w_35 w_36 w_37 w_38 w_39 w_40 q_41 => ?_)
          refine ok_bd3 (s_X0_weigh 100 (-1) otherEnds_total otherEnds_sums told_pieceCount told_dragCount told_settings told_currents told_warmths told_pieceCells told_pieceMonths told_pieceHighs told_pieceAges told_pieceNeeds told_dragCells told_dragEighths seas_known w_38 (by first | with_reducible assumption | with_reducible rfl | omega) (show 0 ≤ (told_pieceCount).toInt by omega) (show (told_pieceCount).toInt ≤ 4 by omega)) (fun w_42 w_43 w_44 q_45 => ?_)
          refine ok_bd1 (s_X0_apart p2_total p2_sums w_42 w_43) (fun r_46 q_47 => ?_)
          exact ok_some trivial
      · skip
        have c_12 : ¬ x1.toInt < (8 : Int) := fun z => c_12 (i_lt.mpr z)
        exact ok_some trivial
    · skip
      have c_11 : ¬ r_9.toInt = (0 : Int) := fun z => c_11 (i_eq.mpr z)
      replace q_10 : 0 ≤ (x1 - 8).toInt ∧ (x1 - 8).toInt < told_pieceCount.toInt := by omega
      unfold f_X6_movedBy_B17
      refine ok_bd3 (s_X0_weigh 100 x1 otherEnds_total otherEnds_sums told_pieceCount told_dragCount told_settings told_currents told_warmths told_pieceCells told_pieceMonths told_pieceHighs told_pieceAges told_pieceNeeds told_dragCells told_dragEighths seas_known walk_ends (by first | with_reducible assumption | with_reducible rfl | omega) (show 0 ≤ (told_pieceCount).toInt by omega) (show (told_pieceCount).toInt ≤ 4 by omega)) (fun w_48 w_49 w_50 q_51 => ?_)
      refine ok_bd1 (s_X0_apart p2_total p2_sums w_48 w_49) (fun r_52 q_53 => ?_)
      exact ok_some trivial
set_option maxRecDepth 100000 in
set_option maxHeartbeats 4000000 in
theorem s_X6_wrongRow (x1 : Int32) (x2 : Int32) (x3 : Int32) (x4 : Int32) (sh_lane : Nat → Int32) (sh_size : Nat → Int32) (h0 : ∀ j : Nat, j < 4 → 0 ≤ (sh_size j).toInt ∧ (sh_size j).toInt ≤ 16) : okP (f_X6_wrongRow x1 x2 x3 x4 sh_lane sh_size) (fun u => ((¬ (0 ≤ x1.toInt ∧ x1.toInt < 4 ∧ 0 ≤ x2.toInt ∧ x2.toInt < 3) ∧ u.toInt = -1) ∨ ((0 ≤ x1.toInt ∧ x1.toInt < 4 ∧ 0 ≤ x2.toInt ∧ x2.toInt < 3) ∧ (sh_lane x1.toNatClampNeg).toInt = -1 ∧ u.toInt = -11) ∨ ((0 ≤ x1.toInt ∧ x1.toInt < 4 ∧ 0 ≤ x2.toInt ∧ x2.toInt < 3) ∧ ¬ (sh_lane x1.toNatClampNeg).toInt = -1 ∧ ¬ (sh_lane x1.toNatClampNeg).toInt = x2.toInt ∧ u.toInt = -12) ∨ ((0 ≤ x1.toInt ∧ x1.toInt < 4 ∧ 0 ≤ x2.toInt ∧ x2.toInt < 3) ∧ ¬ (sh_lane x1.toNatClampNeg).toInt = -1 ∧ (sh_lane x1.toNatClampNeg).toInt = x2.toInt ∧ ¬ (0 ≤ x3.toInt ∧ 0 ≤ x4.toInt ∧ x3.toInt + x4.toInt ≤ (sh_size x1.toNatClampNeg).toInt) ∧ u.toInt = -13) ∨ ((0 ≤ x1.toInt ∧ x1.toInt < 4 ∧ 0 ≤ x2.toInt ∧ x2.toInt < 3) ∧ ¬ (sh_lane x1.toNatClampNeg).toInt = -1 ∧ (sh_lane x1.toNatClampNeg).toInt = x2.toInt ∧ 0 ≤ x3.toInt ∧ 0 ≤ x4.toInt ∧ x3.toInt + x4.toInt ≤ (sh_size x1.toNatClampNeg).toInt ∧ u.toInt = 0))) := by
  unfold f_X6_wrongRow
  refine ok_bd1 (s_X6_isSheet x1) (fun r_1 q_2 => ?_)
  replace q_2 : (r_1.toInt = 1 ∧ 0 ≤ x1.toInt ∧ x1.toInt < 4) ∨ (r_1.toInt = 0 ∧ (x1.toInt < 0 ∨ 4 ≤ x1.toInt)) := q_2
  refine ok_ite (fun c_3 => ?_) (fun c_3 => ?_)
  · skip
    have c_3 : r_1.toInt = (0 : Int) := i_eq.mp c_3
    replace q_2 : (x1.toInt < 0 ∨ 4 ≤ x1.toInt) := by omega
    exact ok_some (show ((¬ (0 ≤ x1.toInt ∧ x1.toInt < 4 ∧ 0 ≤ x2.toInt ∧ x2.toInt < 3) ∧ (-1 : Int) = -1) ∨ ((0 ≤ x1.toInt ∧ x1.toInt < 4 ∧ 0 ≤ x2.toInt ∧ x2.toInt < 3) ∧ (sh_lane x1.toNatClampNeg).toInt = -1 ∧ (-1 : Int) = -11) ∨ ((0 ≤ x1.toInt ∧ x1.toInt < 4 ∧ 0 ≤ x2.toInt ∧ x2.toInt < 3) ∧ ¬ (sh_lane x1.toNatClampNeg).toInt = -1 ∧ ¬ (sh_lane x1.toNatClampNeg).toInt = x2.toInt ∧ (-1 : Int) = -12) ∨ ((0 ≤ x1.toInt ∧ x1.toInt < 4 ∧ 0 ≤ x2.toInt ∧ x2.toInt < 3) ∧ ¬ (sh_lane x1.toNatClampNeg).toInt = -1 ∧ (sh_lane x1.toNatClampNeg).toInt = x2.toInt ∧ ¬ (0 ≤ x3.toInt ∧ 0 ≤ x4.toInt ∧ x3.toInt + x4.toInt ≤ (sh_size x1.toNatClampNeg).toInt) ∧ (-1 : Int) = -13) ∨ ((0 ≤ x1.toInt ∧ x1.toInt < 4 ∧ 0 ≤ x2.toInt ∧ x2.toInt < 3) ∧ ¬ (sh_lane x1.toNatClampNeg).toInt = -1 ∧ (sh_lane x1.toNatClampNeg).toInt = x2.toInt ∧ 0 ≤ x3.toInt ∧ 0 ≤ x4.toInt ∧ x3.toInt + x4.toInt ≤ (sh_size x1.toNatClampNeg).toInt ∧ (-1 : Int) = 0)) from by first | (subst_vars; first | exact Or.inl ⟨by omega, rfl⟩ | exact Or.inr (Or.inl ⟨by omega, by omega, rfl⟩) | exact Or.inr (Or.inr (Or.inl ⟨by omega, by omega, by omega, rfl⟩)) | exact Or.inr (Or.inr (Or.inr (Or.inl ⟨by omega, by omega, by omega, by omega, rfl⟩))) | exact Or.inr (Or.inr (Or.inr (Or.inr (⟨by omega, by omega, by omega, by omega, by omega, by omega, rfl⟩))))) | (subst_vars; omega) | omega)
  · skip
    have c_3 : ¬ r_1.toInt = (0 : Int) := fun z => c_3 (i_eq.mpr z)
    replace q_2 : 0 ≤ x1.toInt ∧ x1.toInt < 4 := by omega
    refine ok_bd1 (s_X6_isLane x2) (fun r_4 q_5 => ?_)
    replace q_5 : (r_4.toInt = 1 ∧ 0 ≤ x2.toInt ∧ x2.toInt < 3) ∨ (r_4.toInt = 0 ∧ (x2.toInt < 0 ∨ 3 ≤ x2.toInt)) := q_5
    refine ok_ite (fun c_6 => ?_) (fun c_6 => ?_)
    · skip
      have c_6 : r_4.toInt = (0 : Int) := i_eq.mp c_6
      replace q_5 : (x2.toInt < 0 ∨ 3 ≤ x2.toInt) := by omega
      exact ok_some (show ((¬ (0 ≤ x1.toInt ∧ x1.toInt < 4 ∧ 0 ≤ x2.toInt ∧ x2.toInt < 3) ∧ (-1 : Int) = -1) ∨ ((0 ≤ x1.toInt ∧ x1.toInt < 4 ∧ 0 ≤ x2.toInt ∧ x2.toInt < 3) ∧ (sh_lane x1.toNatClampNeg).toInt = -1 ∧ (-1 : Int) = -11) ∨ ((0 ≤ x1.toInt ∧ x1.toInt < 4 ∧ 0 ≤ x2.toInt ∧ x2.toInt < 3) ∧ ¬ (sh_lane x1.toNatClampNeg).toInt = -1 ∧ ¬ (sh_lane x1.toNatClampNeg).toInt = x2.toInt ∧ (-1 : Int) = -12) ∨ ((0 ≤ x1.toInt ∧ x1.toInt < 4 ∧ 0 ≤ x2.toInt ∧ x2.toInt < 3) ∧ ¬ (sh_lane x1.toNatClampNeg).toInt = -1 ∧ (sh_lane x1.toNatClampNeg).toInt = x2.toInt ∧ ¬ (0 ≤ x3.toInt ∧ 0 ≤ x4.toInt ∧ x3.toInt + x4.toInt ≤ (sh_size x1.toNatClampNeg).toInt) ∧ (-1 : Int) = -13) ∨ ((0 ≤ x1.toInt ∧ x1.toInt < 4 ∧ 0 ≤ x2.toInt ∧ x2.toInt < 3) ∧ ¬ (sh_lane x1.toNatClampNeg).toInt = -1 ∧ (sh_lane x1.toNatClampNeg).toInt = x2.toInt ∧ 0 ≤ x3.toInt ∧ 0 ≤ x4.toInt ∧ x3.toInt + x4.toInt ≤ (sh_size x1.toNatClampNeg).toInt ∧ (-1 : Int) = 0)) from by first | (subst_vars; first | exact Or.inl ⟨by omega, rfl⟩ | exact Or.inr (Or.inl ⟨by omega, by omega, rfl⟩) | exact Or.inr (Or.inr (Or.inl ⟨by omega, by omega, by omega, rfl⟩)) | exact Or.inr (Or.inr (Or.inr (Or.inl ⟨by omega, by omega, by omega, by omega, rfl⟩))) | exact Or.inr (Or.inr (Or.inr (Or.inr (⟨by omega, by omega, by omega, by omega, by omega, by omega, rfl⟩))))) | (subst_vars; omega) | omega)
    · skip
      have c_6 : ¬ r_4.toInt = (0 : Int) := fun z => c_6 (i_eq.mpr z)
      replace q_5 : 0 ≤ x2.toInt ∧ x2.toInt < 3 := by omega
      have ix_8 : ¬ (x1 < 0 ∨ 4 ≤ x1.toNatClampNeg) := ix (show 0 ≤ x1.toInt by omega) (show x1.toInt < (4 : Nat) by omega)
      refine ok_chk ix_8 ?_
      refine ok_nmx (fun j_7 hj_7 => ?_)
      have kj_7 : (j_7 : Int) = x1.toInt := by rw [hj_7]; exact clI (by omega)
      obtain ⟨hsj_7a, hsj_7b⟩ := h0 j_7 (by omega)
      refine ok_bd1 (s_X2_isNothing (sh_lane j_7)) (fun r_9 q_10 => ?_)
      replace q_10 : (r_9.toInt = 1 ∧ (sh_lane j_7).toInt = -1) ∨ (r_9.toInt = 0 ∧ ¬ (sh_lane j_7).toInt = -1) := q_10
      refine ok_ite (fun c_11 => ?_) (fun c_11 => ?_)
      · skip
        have c_11 : r_9.toInt = (0 : Int) := i_eq.mp c_11
        replace q_10 : ¬ (sh_lane j_7).toInt = -1 := by omega
        refine ok_ite (fun c_12 => ?_) (fun c_12 => ?_)
        · skip
          have c_12 : ((sh_lane j_7)).toInt = x2.toInt := i_eq.mp c_12
          refine ok_bd1 (s_X2_has x3 x4 (sh_size j_7) (show 0 ≤ ((sh_size j_7)).toInt by first | omega | (subst_vars; omega)) (show ((sh_size j_7)).toInt ≤ 16 by first | omega | (subst_vars; omega))) (fun r_13 q_14 => ?_)
          replace q_14 : (r_13.toInt = 1 ∧ 0 ≤ x3.toInt ∧ 0 ≤ x4.toInt ∧ x3.toInt + x4.toInt ≤ (sh_size j_7).toInt) ∨ (r_13.toInt = 0 ∧ (x3.toInt < 0 ∨ x4.toInt < 0 ∨ (sh_size j_7).toInt < x3.toInt + x4.toInt)) := q_14
          refine ok_ite (fun c_15 => ?_) (fun c_15 => ?_)
          · skip
            have c_15 : r_13.toInt = (0 : Int) := i_eq.mp c_15
            replace q_14 : (x3.toInt < 0 ∨ x4.toInt < 0 ∨ (sh_size j_7).toInt < x3.toInt + x4.toInt) := by omega
            exact ok_some (show ((¬ (0 ≤ x1.toInt ∧ x1.toInt < 4 ∧ 0 ≤ x2.toInt ∧ x2.toInt < 3) ∧ (-13 : Int) = -1) ∨ ((0 ≤ x1.toInt ∧ x1.toInt < 4 ∧ 0 ≤ x2.toInt ∧ x2.toInt < 3) ∧ (sh_lane x1.toNatClampNeg).toInt = -1 ∧ (-13 : Int) = -11) ∨ ((0 ≤ x1.toInt ∧ x1.toInt < 4 ∧ 0 ≤ x2.toInt ∧ x2.toInt < 3) ∧ ¬ (sh_lane x1.toNatClampNeg).toInt = -1 ∧ ¬ (sh_lane x1.toNatClampNeg).toInt = x2.toInt ∧ (-13 : Int) = -12) ∨ ((0 ≤ x1.toInt ∧ x1.toInt < 4 ∧ 0 ≤ x2.toInt ∧ x2.toInt < 3) ∧ ¬ (sh_lane x1.toNatClampNeg).toInt = -1 ∧ (sh_lane x1.toNatClampNeg).toInt = x2.toInt ∧ ¬ (0 ≤ x3.toInt ∧ 0 ≤ x4.toInt ∧ x3.toInt + x4.toInt ≤ (sh_size x1.toNatClampNeg).toInt) ∧ (-13 : Int) = -13) ∨ ((0 ≤ x1.toInt ∧ x1.toInt < 4 ∧ 0 ≤ x2.toInt ∧ x2.toInt < 3) ∧ ¬ (sh_lane x1.toNatClampNeg).toInt = -1 ∧ (sh_lane x1.toNatClampNeg).toInt = x2.toInt ∧ 0 ≤ x3.toInt ∧ 0 ≤ x4.toInt ∧ x3.toInt + x4.toInt ≤ (sh_size x1.toNatClampNeg).toInt ∧ (-13 : Int) = 0)) from by first | (subst_vars; first | exact Or.inl ⟨by omega, rfl⟩ | exact Or.inr (Or.inl ⟨by omega, by omega, rfl⟩) | exact Or.inr (Or.inr (Or.inl ⟨by omega, by omega, by omega, rfl⟩)) | exact Or.inr (Or.inr (Or.inr (Or.inl ⟨by omega, by omega, by omega, by omega, rfl⟩))) | exact Or.inr (Or.inr (Or.inr (Or.inr (⟨by omega, by omega, by omega, by omega, by omega, by omega, rfl⟩))))) | (subst_vars; omega) | omega)
          · skip
            have c_15 : ¬ r_13.toInt = (0 : Int) := fun z => c_15 (i_eq.mpr z)
            replace q_14 : 0 ≤ x3.toInt ∧ 0 ≤ x4.toInt ∧ x3.toInt + x4.toInt ≤ (sh_size j_7).toInt := by omega
            exact ok_some (show ((¬ (0 ≤ x1.toInt ∧ x1.toInt < 4 ∧ 0 ≤ x2.toInt ∧ x2.toInt < 3) ∧ (0 : Int) = -1) ∨ ((0 ≤ x1.toInt ∧ x1.toInt < 4 ∧ 0 ≤ x2.toInt ∧ x2.toInt < 3) ∧ (sh_lane x1.toNatClampNeg).toInt = -1 ∧ (0 : Int) = -11) ∨ ((0 ≤ x1.toInt ∧ x1.toInt < 4 ∧ 0 ≤ x2.toInt ∧ x2.toInt < 3) ∧ ¬ (sh_lane x1.toNatClampNeg).toInt = -1 ∧ ¬ (sh_lane x1.toNatClampNeg).toInt = x2.toInt ∧ (0 : Int) = -12) ∨ ((0 ≤ x1.toInt ∧ x1.toInt < 4 ∧ 0 ≤ x2.toInt ∧ x2.toInt < 3) ∧ ¬ (sh_lane x1.toNatClampNeg).toInt = -1 ∧ (sh_lane x1.toNatClampNeg).toInt = x2.toInt ∧ ¬ (0 ≤ x3.toInt ∧ 0 ≤ x4.toInt ∧ x3.toInt + x4.toInt ≤ (sh_size x1.toNatClampNeg).toInt) ∧ (0 : Int) = -13) ∨ ((0 ≤ x1.toInt ∧ x1.toInt < 4 ∧ 0 ≤ x2.toInt ∧ x2.toInt < 3) ∧ ¬ (sh_lane x1.toNatClampNeg).toInt = -1 ∧ (sh_lane x1.toNatClampNeg).toInt = x2.toInt ∧ 0 ≤ x3.toInt ∧ 0 ≤ x4.toInt ∧ x3.toInt + x4.toInt ≤ (sh_size x1.toNatClampNeg).toInt ∧ (0 : Int) = 0)) from by first | (subst_vars; first | exact Or.inl ⟨by omega, rfl⟩ | exact Or.inr (Or.inl ⟨by omega, by omega, rfl⟩) | exact Or.inr (Or.inr (Or.inl ⟨by omega, by omega, by omega, rfl⟩)) | exact Or.inr (Or.inr (Or.inr (Or.inl ⟨by omega, by omega, by omega, by omega, rfl⟩))) | exact Or.inr (Or.inr (Or.inr (Or.inr (⟨by omega, by omega, by omega, by omega, by omega, by omega, rfl⟩))))) | (subst_vars; omega) | omega)
        · skip
          have c_12 : ¬ ((sh_lane j_7)).toInt = x2.toInt := fun z => c_12 (i_eq.mpr z)
          exact ok_some (show ((¬ (0 ≤ x1.toInt ∧ x1.toInt < 4 ∧ 0 ≤ x2.toInt ∧ x2.toInt < 3) ∧ (-12 : Int) = -1) ∨ ((0 ≤ x1.toInt ∧ x1.toInt < 4 ∧ 0 ≤ x2.toInt ∧ x2.toInt < 3) ∧ (sh_lane x1.toNatClampNeg).toInt = -1 ∧ (-12 : Int) = -11) ∨ ((0 ≤ x1.toInt ∧ x1.toInt < 4 ∧ 0 ≤ x2.toInt ∧ x2.toInt < 3) ∧ ¬ (sh_lane x1.toNatClampNeg).toInt = -1 ∧ ¬ (sh_lane x1.toNatClampNeg).toInt = x2.toInt ∧ (-12 : Int) = -12) ∨ ((0 ≤ x1.toInt ∧ x1.toInt < 4 ∧ 0 ≤ x2.toInt ∧ x2.toInt < 3) ∧ ¬ (sh_lane x1.toNatClampNeg).toInt = -1 ∧ (sh_lane x1.toNatClampNeg).toInt = x2.toInt ∧ ¬ (0 ≤ x3.toInt ∧ 0 ≤ x4.toInt ∧ x3.toInt + x4.toInt ≤ (sh_size x1.toNatClampNeg).toInt) ∧ (-12 : Int) = -13) ∨ ((0 ≤ x1.toInt ∧ x1.toInt < 4 ∧ 0 ≤ x2.toInt ∧ x2.toInt < 3) ∧ ¬ (sh_lane x1.toNatClampNeg).toInt = -1 ∧ (sh_lane x1.toNatClampNeg).toInt = x2.toInt ∧ 0 ≤ x3.toInt ∧ 0 ≤ x4.toInt ∧ x3.toInt + x4.toInt ≤ (sh_size x1.toNatClampNeg).toInt ∧ (-12 : Int) = 0)) from by first | (subst_vars; first | exact Or.inl ⟨by omega, rfl⟩ | exact Or.inr (Or.inl ⟨by omega, by omega, rfl⟩) | exact Or.inr (Or.inr (Or.inl ⟨by omega, by omega, by omega, rfl⟩)) | exact Or.inr (Or.inr (Or.inr (Or.inl ⟨by omega, by omega, by omega, by omega, rfl⟩))) | exact Or.inr (Or.inr (Or.inr (Or.inr (⟨by omega, by omega, by omega, by omega, by omega, by omega, rfl⟩))))) | (subst_vars; omega) | omega)
      · skip
        have c_11 : ¬ r_9.toInt = (0 : Int) := fun z => c_11 (i_eq.mpr z)
        replace q_10 : (sh_lane j_7).toInt = -1 := by omega
        exact ok_some (show ((¬ (0 ≤ x1.toInt ∧ x1.toInt < 4 ∧ 0 ≤ x2.toInt ∧ x2.toInt < 3) ∧ (-11 : Int) = -1) ∨ ((0 ≤ x1.toInt ∧ x1.toInt < 4 ∧ 0 ≤ x2.toInt ∧ x2.toInt < 3) ∧ (sh_lane x1.toNatClampNeg).toInt = -1 ∧ (-11 : Int) = -11) ∨ ((0 ≤ x1.toInt ∧ x1.toInt < 4 ∧ 0 ≤ x2.toInt ∧ x2.toInt < 3) ∧ ¬ (sh_lane x1.toNatClampNeg).toInt = -1 ∧ ¬ (sh_lane x1.toNatClampNeg).toInt = x2.toInt ∧ (-11 : Int) = -12) ∨ ((0 ≤ x1.toInt ∧ x1.toInt < 4 ∧ 0 ≤ x2.toInt ∧ x2.toInt < 3) ∧ ¬ (sh_lane x1.toNatClampNeg).toInt = -1 ∧ (sh_lane x1.toNatClampNeg).toInt = x2.toInt ∧ ¬ (0 ≤ x3.toInt ∧ 0 ≤ x4.toInt ∧ x3.toInt + x4.toInt ≤ (sh_size x1.toNatClampNeg).toInt) ∧ (-11 : Int) = -13) ∨ ((0 ≤ x1.toInt ∧ x1.toInt < 4 ∧ 0 ≤ x2.toInt ∧ x2.toInt < 3) ∧ ¬ (sh_lane x1.toNatClampNeg).toInt = -1 ∧ (sh_lane x1.toNatClampNeg).toInt = x2.toInt ∧ 0 ≤ x3.toInt ∧ 0 ≤ x4.toInt ∧ x3.toInt + x4.toInt ≤ (sh_size x1.toNatClampNeg).toInt ∧ (-11 : Int) = 0)) from by first | (subst_vars; first | exact Or.inl ⟨by omega, rfl⟩ | exact Or.inr (Or.inl ⟨by omega, by omega, rfl⟩) | exact Or.inr (Or.inr (Or.inl ⟨by omega, by omega, by omega, rfl⟩)) | exact Or.inr (Or.inr (Or.inr (Or.inl ⟨by omega, by omega, by omega, by omega, rfl⟩))) | exact Or.inr (Or.inr (Or.inr (Or.inr (⟨by omega, by omega, by omega, by omega, by omega, by omega, rfl⟩))))) | (subst_vars; omega) | omega)
set_option maxRecDepth 100000 in
set_option maxHeartbeats 4000000 in
theorem s_X6_set (x1 : Int32) (x2 : Int32) (o_walkIsOld : Int32) (o_endsAreOld : Int32) (told_settings : Nat → Int32) (told_fars : Nat → Int32) (seas_known : Nat → Int32) (h0 : SetOK told_settings) : okP (f_X6_set x1 x2 o_walkIsOld o_endsAreOld told_settings told_fars seas_known) (fun u => (SetOK u.2.2.2.1) ∧ ((SetV x1.toInt x2.toInt ∧ u.1 = told_settings x1.toNatClampNeg ∧ u.2.2.2.1 = upd told_settings x1.toNatClampNeg x2) ∨ (¬ SetV x1.toInt x2.toInt ∧ u.1.toInt = -1 ∧ u.2.2.2.1 = told_settings)) ∧ (FarOK told_settings told_fars → FarOK u.2.2.2.1 u.2.2.2.2.1)) := by
  obtain ⟨s0a, s0b, s1a, s1b, s2a, s2b, s3a, s3b, s4a, s4b, s5a, s5b, s6a, s6b, s7a, s7b⟩ := id h0
  unfold f_X6_set
  refine ok_bd1 (s_X6_within x1 0 7) (fun r_1 q_2 => ?_)
  replace q_2 : (r_1.toInt = 1 ∧ (0 : Int) ≤ x1.toInt ∧ x1.toInt ≤ (7 : Int)) ∨ (r_1.toInt = 0 ∧ (x1.toInt < (0 : Int) ∨ (7 : Int) < x1.toInt)) := q_2
  refine ok_ite (fun c_3 => ?_) (fun c_3 => ?_)
  · skip
    have c_3 : r_1.toInt = (0 : Int) := i_eq.mp c_3
    replace q_2 : (x1.toInt < (0 : Int) ∨ (7 : Int) < x1.toInt) := by omega
    exact ok_some (show (SetOK told_settings) ∧ ((SetV x1.toInt x2.toInt ∧ (-1) = told_settings x1.toNatClampNeg ∧ told_settings = upd told_settings x1.toNatClampNeg x2) ∨ (¬ SetV x1.toInt x2.toInt ∧ (-1 : Int) = -1 ∧ told_settings = told_settings)) ∧ (FarOK told_settings told_fars → FarOK told_settings told_fars) from ⟨by first | with_reducible assumption | with_reducible rfl | exact SetOK_upd (by assumption) (by omega) (by omega) (by omega) (by omega) | exact Or.inr ⟨fun z => absurd (SetV_rng z) (by omega), rfl, rfl⟩ | exact Or.inr ⟨fun z => absurd ((SetV_tab (by omega) (by omega)).mp z) (by omega), rfl, rfl⟩ | exact Or.inl ⟨(SetV_tab (by omega) (by omega)).mpr ⟨by omega, by omega⟩, by assumption, rfl⟩ | exact fun z => z | exact fun z => FarOK_set z (upd_no (by rw [i_cl]; omega)) rfl | exact fun _ => (by assumption) | omega, by first | with_reducible assumption | with_reducible rfl | exact SetOK_upd (by assumption) (by omega) (by omega) (by omega) (by omega) | exact Or.inr ⟨fun z => absurd (SetV_rng z) (by omega), rfl, rfl⟩ | exact Or.inr ⟨fun z => absurd ((SetV_tab (by omega) (by omega)).mp z) (by omega), rfl, rfl⟩ | exact Or.inl ⟨(SetV_tab (by omega) (by omega)).mpr ⟨by omega, by omega⟩, by assumption, rfl⟩ | exact fun z => z | exact fun z => FarOK_set z (upd_no (by rw [i_cl]; omega)) rfl | exact fun _ => (by assumption) | omega, by first | with_reducible assumption | with_reducible rfl | exact SetOK_upd (by assumption) (by omega) (by omega) (by omega) (by omega) | exact Or.inr ⟨fun z => absurd (SetV_rng z) (by omega), rfl, rfl⟩ | exact Or.inr ⟨fun z => absurd ((SetV_tab (by omega) (by omega)).mp z) (by omega), rfl, rfl⟩ | exact Or.inl ⟨(SetV_tab (by omega) (by omega)).mpr ⟨by omega, by omega⟩, by assumption, rfl⟩ | exact fun z => z | exact fun z => FarOK_set z (upd_no (by rw [i_cl]; omega)) rfl | exact fun _ => (by assumption) | omega⟩)
  · skip
    have c_3 : ¬ r_1.toInt = (0 : Int) := fun z => c_3 (i_eq.mpr z)
    replace q_2 : (0 : Int) ≤ x1.toInt ∧ x1.toInt ≤ (7 : Int) := by omega
    have ix_4 : ¬ (x1 < 0 ∨ 8 ≤ x1.toNatClampNeg) := ix (show 0 ≤ x1.toInt by omega) (show x1.toInt < (8 : Nat) by omega)
    refine ok_chk ix_4 ?_
    refine ok_chk ix_4 ?_
    refine ok_bd1 (s_X6_within x2 (tabL x1.toNatClampNeg) (tabM x1.toNatClampNeg)) (fun r_5 q_6 => ?_)
    replace q_6 : (r_5.toInt = 1 ∧ (tabL x1.toNatClampNeg).toInt ≤ x2.toInt ∧ x2.toInt ≤ (tabM x1.toNatClampNeg).toInt) ∨ (r_5.toInt = 0 ∧ (x2.toInt < (tabL x1.toNatClampNeg).toInt ∨ (tabM x1.toNatClampNeg).toInt < x2.toInt)) := q_6
    refine ok_ite (fun c_7 => ?_) (fun c_7 => ?_)
    · skip
      have c_7 : r_5.toInt = (0 : Int) := i_eq.mp c_7
      replace q_6 : (x2.toInt < (tabL x1.toNatClampNeg).toInt ∨ (tabM x1.toNatClampNeg).toInt < x2.toInt) := by omega
      exact ok_some (show (SetOK told_settings) ∧ ((SetV x1.toInt x2.toInt ∧ (-1) = told_settings x1.toNatClampNeg ∧ told_settings = upd told_settings x1.toNatClampNeg x2) ∨ (¬ SetV x1.toInt x2.toInt ∧ (-1 : Int) = -1 ∧ told_settings = told_settings)) ∧ (FarOK told_settings told_fars → FarOK told_settings told_fars) from ⟨by first | with_reducible assumption | with_reducible rfl | exact SetOK_upd (by assumption) (by omega) (by omega) (by omega) (by omega) | exact Or.inr ⟨fun z => absurd (SetV_rng z) (by omega), rfl, rfl⟩ | exact Or.inr ⟨fun z => absurd ((SetV_tab (by omega) (by omega)).mp z) (by omega), rfl, rfl⟩ | exact Or.inl ⟨(SetV_tab (by omega) (by omega)).mpr ⟨by omega, by omega⟩, by assumption, rfl⟩ | exact fun z => z | exact fun z => FarOK_set z (upd_no (by rw [i_cl]; omega)) rfl | exact fun _ => (by assumption) | omega, by first | with_reducible assumption | with_reducible rfl | exact SetOK_upd (by assumption) (by omega) (by omega) (by omega) (by omega) | exact Or.inr ⟨fun z => absurd (SetV_rng z) (by omega), rfl, rfl⟩ | exact Or.inr ⟨fun z => absurd ((SetV_tab (by omega) (by omega)).mp z) (by omega), rfl, rfl⟩ | exact Or.inl ⟨(SetV_tab (by omega) (by omega)).mpr ⟨by omega, by omega⟩, by assumption, rfl⟩ | exact fun z => z | exact fun z => FarOK_set z (upd_no (by rw [i_cl]; omega)) rfl | exact fun _ => (by assumption) | omega, by first | with_reducible assumption | with_reducible rfl | exact SetOK_upd (by assumption) (by omega) (by omega) (by omega) (by omega) | exact Or.inr ⟨fun z => absurd (SetV_rng z) (by omega), rfl, rfl⟩ | exact Or.inr ⟨fun z => absurd ((SetV_tab (by omega) (by omega)).mp z) (by omega), rfl, rfl⟩ | exact Or.inl ⟨(SetV_tab (by omega) (by omega)).mpr ⟨by omega, by omega⟩, by assumption, rfl⟩ | exact fun z => z | exact fun z => FarOK_set z (upd_no (by rw [i_cl]; omega)) rfl | exact fun _ => (by assumption) | omega⟩)
    · skip
      have c_7 : ¬ r_5.toInt = (0 : Int) := fun z => c_7 (i_eq.mpr z)
      replace q_6 : (tabL x1.toNatClampNeg).toInt ≤ x2.toInt ∧ x2.toInt ≤ (tabM x1.toNatClampNeg).toInt := by omega
      refine ok_chk ix_4 ?_
      refine ok_nmi (fun x_8 hx_8 kx_8 => ?_)
      refine ok_chk ix_4 ?_
      refine ok_ite (fun c_9 => ?_) (fun c_9 => ?_)
      · skip
        have c_9 : x1.toInt = (0 : Int) := i_eq.mp c_9
        have hv := (SetV_tab (x := x1) (v := x2.toInt) (by omega) (by omega)).mpr ⟨by omega, by omega⟩
        unfold SetV at hv
        have hs0 : ((upd told_settings x1.toNatClampNeg x2) 0).toInt = x2.toInt := by rw [show x1.toNatClampNeg = 0 by rw [i_cl]; omega, upd_is]
        refine ok_bd1 (s_X4_look (upd told_settings x1.toNatClampNeg x2) told_fars (by first | with_reducible assumption | with_reducible rfl | exact SetOK_upd (by assumption) (by omega) (by omega) (by omega) (by omega) | exact Or.inr ⟨fun z => absurd (SetV_rng z) (by omega), rfl, rfl⟩ | exact Or.inr ⟨fun z => absurd ((SetV_tab (by omega) (by omega)).mp z) (by omega), rfl, rfl⟩ | exact Or.inl ⟨(SetV_tab (by omega) (by omega)).mpr ⟨by omega, by omega⟩, by assumption, rfl⟩ | exact fun z => z | exact fun z => FarOK_set z (upd_no (by rw [i_cl]; omega)) rfl | exact fun _ => (by assumption) | omega) (by first | with_reducible assumption | with_reducible rfl | exact SetOK_upd (by assumption) (by omega) (by omega) (by omega) (by omega) | exact Or.inr ⟨fun z => absurd (SetV_rng z) (by omega), rfl, rfl⟩ | exact Or.inr ⟨fun z => absurd ((SetV_tab (by omega) (by omega)).mp z) (by omega), rfl, rfl⟩ | exact Or.inl ⟨(SetV_tab (by omega) (by omega)).mpr ⟨by omega, by omega⟩, by assumption, rfl⟩ | exact fun z => z | exact fun z => FarOK_set z (upd_no (by rw [i_cl]; omega)) rfl | exact fun _ => (by assumption) | omega)) (fun w_10 q_11 => ?_)
        replace q_11 : FarOK (upd told_settings x1.toNatClampNeg x2) w_10 := q_11
        unfold f_X6_set_B60
        refine ok_ite (fun c_12 => ?_) (fun c_12 => ?_)
        · skip
          have c_12 : x1.toInt = (7 : Int) := i_eq.mp c_12
          refine ok_bd2 (s_X6_seaChanged o_endsAreOld seas_known) (fun w_13 w_14 q_15 => ?_)
          exact ok_some (show (SetOK (upd told_settings x1.toNatClampNeg x2)) ∧ ((SetV x1.toInt x2.toInt ∧ x_8 = told_settings x1.toNatClampNeg ∧ (upd told_settings x1.toNatClampNeg x2) = upd told_settings x1.toNatClampNeg x2) ∨ (¬ SetV x1.toInt x2.toInt ∧ x_8.toInt = -1 ∧ (upd told_settings x1.toNatClampNeg x2) = told_settings)) ∧ (FarOK told_settings told_fars → FarOK (upd told_settings x1.toNatClampNeg x2) w_10) from ⟨by first | with_reducible assumption | with_reducible rfl | exact SetOK_upd (by assumption) (by omega) (by omega) (by omega) (by omega) | exact Or.inr ⟨fun z => absurd (SetV_rng z) (by omega), rfl, rfl⟩ | exact Or.inr ⟨fun z => absurd ((SetV_tab (by omega) (by omega)).mp z) (by omega), rfl, rfl⟩ | exact Or.inl ⟨(SetV_tab (by omega) (by omega)).mpr ⟨by omega, by omega⟩, by assumption, rfl⟩ | exact fun z => z | exact fun z => FarOK_set z (upd_no (by rw [i_cl]; omega)) rfl | exact fun _ => (by assumption) | omega, by first | with_reducible assumption | with_reducible rfl | exact SetOK_upd (by assumption) (by omega) (by omega) (by omega) (by omega) | exact Or.inr ⟨fun z => absurd (SetV_rng z) (by omega), rfl, rfl⟩ | exact Or.inr ⟨fun z => absurd ((SetV_tab (by omega) (by omega)).mp z) (by omega), rfl, rfl⟩ | exact Or.inl ⟨(SetV_tab (by omega) (by omega)).mpr ⟨by omega, by omega⟩, by assumption, rfl⟩ | exact fun z => z | exact fun z => FarOK_set z (upd_no (by rw [i_cl]; omega)) rfl | exact fun _ => (by assumption) | omega, by first | with_reducible assumption | with_reducible rfl | exact SetOK_upd (by assumption) (by omega) (by omega) (by omega) (by omega) | exact Or.inr ⟨fun z => absurd (SetV_rng z) (by omega), rfl, rfl⟩ | exact Or.inr ⟨fun z => absurd ((SetV_tab (by omega) (by omega)).mp z) (by omega), rfl, rfl⟩ | exact Or.inl ⟨(SetV_tab (by omega) (by omega)).mpr ⟨by omega, by omega⟩, by assumption, rfl⟩ | exact fun z => z | exact fun z => FarOK_set z (upd_no (by rw [i_cl]; omega)) rfl | exact fun _ => (by assumption) | omega⟩)
        · skip
          have c_12 : ¬ x1.toInt = (7 : Int) := fun z => c_12 (i_eq.mpr z)
          refine ok_bd2 (s_X6_waysChanged o_walkIsOld o_endsAreOld) (fun w_16 w_17 q_18 => ?_)
          exact ok_some (show (SetOK (upd told_settings x1.toNatClampNeg x2)) ∧ ((SetV x1.toInt x2.toInt ∧ x_8 = told_settings x1.toNatClampNeg ∧ (upd told_settings x1.toNatClampNeg x2) = upd told_settings x1.toNatClampNeg x2) ∨ (¬ SetV x1.toInt x2.toInt ∧ x_8.toInt = -1 ∧ (upd told_settings x1.toNatClampNeg x2) = told_settings)) ∧ (FarOK told_settings told_fars → FarOK (upd told_settings x1.toNatClampNeg x2) w_10) from ⟨by first | with_reducible assumption | with_reducible rfl | exact SetOK_upd (by assumption) (by omega) (by omega) (by omega) (by omega) | exact Or.inr ⟨fun z => absurd (SetV_rng z) (by omega), rfl, rfl⟩ | exact Or.inr ⟨fun z => absurd ((SetV_tab (by omega) (by omega)).mp z) (by omega), rfl, rfl⟩ | exact Or.inl ⟨(SetV_tab (by omega) (by omega)).mpr ⟨by omega, by omega⟩, by assumption, rfl⟩ | exact fun z => z | exact fun z => FarOK_set z (upd_no (by rw [i_cl]; omega)) rfl | exact fun _ => (by assumption) | omega, by first | with_reducible assumption | with_reducible rfl | exact SetOK_upd (by assumption) (by omega) (by omega) (by omega) (by omega) | exact Or.inr ⟨fun z => absurd (SetV_rng z) (by omega), rfl, rfl⟩ | exact Or.inr ⟨fun z => absurd ((SetV_tab (by omega) (by omega)).mp z) (by omega), rfl, rfl⟩ | exact Or.inl ⟨(SetV_tab (by omega) (by omega)).mpr ⟨by omega, by omega⟩, by assumption, rfl⟩ | exact fun z => z | exact fun z => FarOK_set z (upd_no (by rw [i_cl]; omega)) rfl | exact fun _ => (by assumption) | omega, by first | with_reducible assumption | with_reducible rfl | exact SetOK_upd (by assumption) (by omega) (by omega) (by omega) (by omega) | exact Or.inr ⟨fun z => absurd (SetV_rng z) (by omega), rfl, rfl⟩ | exact Or.inr ⟨fun z => absurd ((SetV_tab (by omega) (by omega)).mp z) (by omega), rfl, rfl⟩ | exact Or.inl ⟨(SetV_tab (by omega) (by omega)).mpr ⟨by omega, by omega⟩, by assumption, rfl⟩ | exact fun z => z | exact fun z => FarOK_set z (upd_no (by rw [i_cl]; omega)) rfl | exact fun _ => (by assumption) | omega⟩)
      · skip
        have c_9 : ¬ x1.toInt = (0 : Int) := fun z => c_9 (i_eq.mpr z)
        unfold f_X6_set_B60
        refine ok_ite (fun c_19 => ?_) (fun c_19 => ?_)
        · skip
          have c_19 : x1.toInt = (7 : Int) := i_eq.mp c_19
          refine ok_bd2 (s_X6_seaChanged o_endsAreOld seas_known) (fun w_20 w_21 q_22 => ?_)
          exact ok_some (show (SetOK (upd told_settings x1.toNatClampNeg x2)) ∧ ((SetV x1.toInt x2.toInt ∧ x_8 = told_settings x1.toNatClampNeg ∧ (upd told_settings x1.toNatClampNeg x2) = upd told_settings x1.toNatClampNeg x2) ∨ (¬ SetV x1.toInt x2.toInt ∧ x_8.toInt = -1 ∧ (upd told_settings x1.toNatClampNeg x2) = told_settings)) ∧ (FarOK told_settings told_fars → FarOK (upd told_settings x1.toNatClampNeg x2) told_fars) from ⟨by first | with_reducible assumption | with_reducible rfl | exact SetOK_upd (by assumption) (by omega) (by omega) (by omega) (by omega) | exact Or.inr ⟨fun z => absurd (SetV_rng z) (by omega), rfl, rfl⟩ | exact Or.inr ⟨fun z => absurd ((SetV_tab (by omega) (by omega)).mp z) (by omega), rfl, rfl⟩ | exact Or.inl ⟨(SetV_tab (by omega) (by omega)).mpr ⟨by omega, by omega⟩, by assumption, rfl⟩ | exact fun z => z | exact fun z => FarOK_set z (upd_no (by rw [i_cl]; omega)) rfl | exact fun _ => (by assumption) | omega, by first | with_reducible assumption | with_reducible rfl | exact SetOK_upd (by assumption) (by omega) (by omega) (by omega) (by omega) | exact Or.inr ⟨fun z => absurd (SetV_rng z) (by omega), rfl, rfl⟩ | exact Or.inr ⟨fun z => absurd ((SetV_tab (by omega) (by omega)).mp z) (by omega), rfl, rfl⟩ | exact Or.inl ⟨(SetV_tab (by omega) (by omega)).mpr ⟨by omega, by omega⟩, by assumption, rfl⟩ | exact fun z => z | exact fun z => FarOK_set z (upd_no (by rw [i_cl]; omega)) rfl | exact fun _ => (by assumption) | omega, by first | with_reducible assumption | with_reducible rfl | exact SetOK_upd (by assumption) (by omega) (by omega) (by omega) (by omega) | exact Or.inr ⟨fun z => absurd (SetV_rng z) (by omega), rfl, rfl⟩ | exact Or.inr ⟨fun z => absurd ((SetV_tab (by omega) (by omega)).mp z) (by omega), rfl, rfl⟩ | exact Or.inl ⟨(SetV_tab (by omega) (by omega)).mpr ⟨by omega, by omega⟩, by assumption, rfl⟩ | exact fun z => z | exact fun z => FarOK_set z (upd_no (by rw [i_cl]; omega)) rfl | exact fun _ => (by assumption) | omega⟩)
        · skip
          have c_19 : ¬ x1.toInt = (7 : Int) := fun z => c_19 (i_eq.mpr z)
          refine ok_bd2 (s_X6_waysChanged o_walkIsOld o_endsAreOld) (fun w_23 w_24 q_25 => ?_)
          exact ok_some (show (SetOK (upd told_settings x1.toNatClampNeg x2)) ∧ ((SetV x1.toInt x2.toInt ∧ x_8 = told_settings x1.toNatClampNeg ∧ (upd told_settings x1.toNatClampNeg x2) = upd told_settings x1.toNatClampNeg x2) ∨ (¬ SetV x1.toInt x2.toInt ∧ x_8.toInt = -1 ∧ (upd told_settings x1.toNatClampNeg x2) = told_settings)) ∧ (FarOK told_settings told_fars → FarOK (upd told_settings x1.toNatClampNeg x2) told_fars) from ⟨by first | with_reducible assumption | with_reducible rfl | exact SetOK_upd (by assumption) (by omega) (by omega) (by omega) (by omega) | exact Or.inr ⟨fun z => absurd (SetV_rng z) (by omega), rfl, rfl⟩ | exact Or.inr ⟨fun z => absurd ((SetV_tab (by omega) (by omega)).mp z) (by omega), rfl, rfl⟩ | exact Or.inl ⟨(SetV_tab (by omega) (by omega)).mpr ⟨by omega, by omega⟩, by assumption, rfl⟩ | exact fun z => z | exact fun z => FarOK_set z (upd_no (by rw [i_cl]; omega)) rfl | exact fun _ => (by assumption) | omega, by first | with_reducible assumption | with_reducible rfl | exact SetOK_upd (by assumption) (by omega) (by omega) (by omega) (by omega) | exact Or.inr ⟨fun z => absurd (SetV_rng z) (by omega), rfl, rfl⟩ | exact Or.inr ⟨fun z => absurd ((SetV_tab (by omega) (by omega)).mp z) (by omega), rfl, rfl⟩ | exact Or.inl ⟨(SetV_tab (by omega) (by omega)).mpr ⟨by omega, by omega⟩, by assumption, rfl⟩ | exact fun z => z | exact fun z => FarOK_set z (upd_no (by rw [i_cl]; omega)) rfl | exact fun _ => (by assumption) | omega, by first | with_reducible assumption | with_reducible rfl | exact SetOK_upd (by assumption) (by omega) (by omega) (by omega) (by omega) | exact Or.inr ⟨fun z => absurd (SetV_rng z) (by omega), rfl, rfl⟩ | exact Or.inr ⟨fun z => absurd ((SetV_tab (by omega) (by omega)).mp z) (by omega), rfl, rfl⟩ | exact Or.inl ⟨(SetV_tab (by omega) (by omega)).mpr ⟨by omega, by omega⟩, by assumption, rfl⟩ | exact fun z => z | exact fun z => FarOK_set z (upd_no (by rw [i_cl]; omega)) rfl | exact fun _ => (by assumption) | omega⟩)
set_option maxRecDepth 100000 in
set_option maxHeartbeats 4000000 in
theorem s_X6_far (x1 : Int32) (told_fars : Nat → Int32) : okP (f_X6_far x1 told_fars) (fun u => (((0 ≤ x1.toInt ∧ x1.toInt < 100) ∧ u = told_fars x1.toNatClampNeg) ∨ (¬ (0 ≤ x1.toInt ∧ x1.toInt < 100) ∧ u.toInt = -1))) := by
  unfold f_X6_far
  refine ok_bd1 (s_X6_isCell x1) (fun r_1 q_2 => ?_)
  replace q_2 : (r_1.toInt = 1 ∧ 0 ≤ x1.toInt ∧ x1.toInt < 100) ∨ (r_1.toInt = 0 ∧ (x1.toInt < 0 ∨ 100 ≤ x1.toInt)) := q_2
  refine ok_ite (fun c_3 => ?_) (fun c_3 => ?_)
  · skip
    have c_3 : r_1.toInt = (0 : Int) := i_eq.mp c_3
    replace q_2 : (x1.toInt < 0 ∨ 100 ≤ x1.toInt) := by omega
    exact ok_some (show (((0 ≤ x1.toInt ∧ x1.toInt < 100) ∧ (-1) = told_fars x1.toNatClampNeg) ∨ (¬ (0 ≤ x1.toInt ∧ x1.toInt < 100) ∧ (-1 : Int) = -1)) from by first | omega | exact Or.inr ⟨by omega, rfl⟩ | exact Or.inl ⟨by omega, rfl⟩)
  · skip
    have c_3 : ¬ r_1.toInt = (0 : Int) := fun z => c_3 (i_eq.mpr z)
    replace q_2 : 0 ≤ x1.toInt ∧ x1.toInt < 100 := by omega
    have ix_4 : ¬ (x1 < 0 ∨ 100 ≤ x1.toNatClampNeg) := ix (show 0 ≤ x1.toInt by omega) (show x1.toInt < (100 : Nat) by omega)
    refine ok_chk ix_4 ?_
    exact ok_some (show (((0 ≤ x1.toInt ∧ x1.toInt < 100) ∧ (told_fars x1.toNatClampNeg) = told_fars x1.toNatClampNeg) ∨ (¬ (0 ≤ x1.toInt ∧ x1.toInt < 100) ∧ (told_fars x1.toNatClampNeg).toInt = -1)) from by first | omega | exact Or.inr ⟨by omega, rfl⟩ | exact Or.inl ⟨by omega, rfl⟩)
set_option maxRecDepth 100000 in
set_option maxHeartbeats 4000000 in
theorem s_X6_ring (x1 : Int32) (x2 : Int32) (x3 : Int32) (o_walkIsOld : Int32) (o_endsAreOld : Int32) (told_howFar : Nat → Int32) (told_tones : Nat → Int32) : okP (f_X6_ring x1 x2 x3 o_walkIsOld o_endsAreOld told_howFar told_tones) (fun u => True) := by
  unfold f_X6_ring
  refine ok_bd1 (s_X6_within x1 1 6) (fun r_1 q_2 => ?_)
  replace q_2 : (r_1.toInt = 1 ∧ (1 : Int) ≤ x1.toInt ∧ x1.toInt ≤ (6 : Int)) ∨ (r_1.toInt = 0 ∧ (x1.toInt < (1 : Int) ∨ (6 : Int) < x1.toInt)) := q_2
  refine ok_ite (fun c_3 => ?_) (fun c_3 => ?_)
  · skip
    have c_3 : r_1.toInt = (0 : Int) := i_eq.mp c_3
    replace q_2 : (x1.toInt < (1 : Int) ∨ (6 : Int) < x1.toInt) := by omega
    exact ok_some trivial
  · skip
    have c_3 : ¬ r_1.toInt = (0 : Int) := fun z => c_3 (i_eq.mpr z)
    replace q_2 : (1 : Int) ≤ x1.toInt ∧ x1.toInt ≤ (6 : Int) := by omega
    refine ok_bd1 (s_X6_within x2 0 1) (fun r_4 q_5 => ?_)
    replace q_5 : (r_4.toInt = 1 ∧ (0 : Int) ≤ x2.toInt ∧ x2.toInt ≤ (1 : Int)) ∨ (r_4.toInt = 0 ∧ (x2.toInt < (0 : Int) ∨ (1 : Int) < x2.toInt)) := q_5
    refine ok_ite (fun c_6 => ?_) (fun c_6 => ?_)
    · skip
      have c_6 : r_4.toInt = (0 : Int) := i_eq.mp c_6
      replace q_5 : (x2.toInt < (0 : Int) ∨ (1 : Int) < x2.toInt) := by omega
      exact ok_some trivial
    · skip
      have c_6 : ¬ r_4.toInt = (0 : Int) := fun z => c_6 (i_eq.mpr z)
      replace q_5 : (0 : Int) ≤ x2.toInt ∧ x2.toInt ≤ (1 : Int) := by omega
      refine ok_ite (fun c_7 => ?_) (fun c_7 => ?_)
      · skip
        have c_7 : x2.toInt = (0 : Int) := i_eq.mp c_7
        refine ok_bd1 (s_X6_within x3 (-1) 40) (fun r_8 q_9 => ?_)
        replace q_9 : (r_8.toInt = 1 ∧ (-1 : Int) ≤ x3.toInt ∧ x3.toInt ≤ (40 : Int)) ∨ (r_8.toInt = 0 ∧ (x3.toInt < (-1 : Int) ∨ (40 : Int) < x3.toInt)) := q_9
        refine ok_ite (fun c_10 => ?_) (fun c_10 => ?_)
        · skip
          have c_10 : r_8.toInt = (0 : Int) := i_eq.mp c_10
          replace q_9 : (x3.toInt < (-1 : Int) ∨ (40 : Int) < x3.toInt) := by omega
          exact ok_some trivial
        · skip
          have c_10 : ¬ r_8.toInt = (0 : Int) := fun z => c_10 (i_eq.mpr z)
          replace q_9 : (-1 : Int) ≤ x3.toInt ∧ x3.toInt ≤ (40 : Int) := by omega
          unfold f_X6_ring_B49
          refine ok_ite (fun c_11 => ?_) (fun c_11 => ?_)
          · skip
            have c_11 : x2.toInt = (0 : Int) := i_eq.mp c_11
            have ix_12 : ¬ (x1 < 0 ∨ 7 ≤ x1.toNatClampNeg) := ix (show 0 ≤ x1.toInt by omega) (show x1.toInt < (7 : Nat) by omega)
            refine ok_chk ix_12 ?_
            refine ok_nmi (fun x_13 hx_13 kx_13 => ?_)
            refine ok_chk ix_12 ?_
            refine ok_bd2 (s_X6_waysChanged o_walkIsOld o_endsAreOld) (fun w_14 w_15 q_16 => ?_)
            first | (have f_17 : (100 + x_13).toInt = (100 : Int) + x_13.toInt := i_add2 rfl rfl (by omega) (by omega)) | skip
            exact ok_some trivial
          · skip
            have c_11 : ¬ x2.toInt = (0 : Int) := fun z => c_11 (i_eq.mpr z)
            have ix_18 : ¬ (x1 < 0 ∨ 7 ≤ x1.toNatClampNeg) := ix (show 0 ≤ x1.toInt by omega) (show x1.toInt < (7 : Nat) by omega)
            refine ok_chk ix_18 ?_
            refine ok_nmi (fun x_19 hx_19 kx_19 => ?_)
            refine ok_chk ix_18 ?_
            refine ok_bd2 (s_X6_waysChanged o_walkIsOld o_endsAreOld) (fun w_20 w_21 q_22 => ?_)
            first | (have f_23 : (100 + x_19).toInt = (100 : Int) + x_19.toInt := i_add2 rfl rfl (by omega) (by omega)) | skip
            exact ok_some trivial
      · skip
        have c_7 : ¬ x2.toInt = (0 : Int) := fun z => c_7 (i_eq.mpr z)
        refine ok_bd1 (s_X6_within x3 0 2) (fun r_24 q_25 => ?_)
        replace q_25 : (r_24.toInt = 1 ∧ (0 : Int) ≤ x3.toInt ∧ x3.toInt ≤ (2 : Int)) ∨ (r_24.toInt = 0 ∧ (x3.toInt < (0 : Int) ∨ (2 : Int) < x3.toInt)) := q_25
        refine ok_ite (fun c_26 => ?_) (fun c_26 => ?_)
        · skip
          have c_26 : r_24.toInt = (0 : Int) := i_eq.mp c_26
          replace q_25 : (x3.toInt < (0 : Int) ∨ (2 : Int) < x3.toInt) := by omega
          exact ok_some trivial
        · skip
          have c_26 : ¬ r_24.toInt = (0 : Int) := fun z => c_26 (i_eq.mpr z)
          replace q_25 : (0 : Int) ≤ x3.toInt ∧ x3.toInt ≤ (2 : Int) := by omega
          unfold f_X6_ring_B49
          refine ok_ite (fun c_27 => ?_) (fun c_27 => ?_)
          · skip
            have c_27 : x2.toInt = (0 : Int) := i_eq.mp c_27
            have ix_28 : ¬ (x1 < 0 ∨ 7 ≤ x1.toNatClampNeg) := ix (show 0 ≤ x1.toInt by omega) (show x1.toInt < (7 : Nat) by omega)
            refine ok_chk ix_28 ?_
            refine ok_nmi (fun x_29 hx_29 kx_29 => ?_)
            refine ok_chk ix_28 ?_
            refine ok_bd2 (s_X6_waysChanged o_walkIsOld o_endsAreOld) (fun w_30 w_31 q_32 => ?_)
            first | (have f_33 : (100 + x_29).toInt = (100 : Int) + x_29.toInt := i_add2 rfl rfl (by omega) (by omega)) | skip
            exact ok_some trivial
          · skip
            have c_27 : ¬ x2.toInt = (0 : Int) := fun z => c_27 (i_eq.mpr z)
            have ix_34 : ¬ (x1 < 0 ∨ 7 ≤ x1.toNatClampNeg) := ix (show 0 ≤ x1.toInt by omega) (show x1.toInt < (7 : Nat) by omega)
            refine ok_chk ix_34 ?_
            refine ok_nmi (fun x_35 hx_35 kx_35 => ?_)
            refine ok_chk ix_34 ?_
            refine ok_bd2 (s_X6_waysChanged o_walkIsOld o_endsAreOld) (fun w_36 w_37 q_38 => ?_)
            first | (have f_39 : (100 + x_35).toInt = (100 : Int) + x_35.toInt := i_add2 rfl rfl (by omega) (by omega)) | skip
            exact ok_some trivial
set_option maxRecDepth 100000 in
set_option maxHeartbeats 4000000 in
theorem s_X6_type (x1 : Int64) (x2 : Int32) (tape_length : Int32) (tape_bytes : Nat → Int32) (h0 : 0 ≤ (tape_length).toInt) (h1 : (tape_length).toInt ≤ 60) : okP (f_X6_type x1 x2 tape_length tape_bytes) (fun u => (0 ≤ u.2.1.toInt) ∧ (u.2.1.toInt ≤ 60)) := by
  unfold f_X6_type
  refine ok_bd3 (s_X3_add x1 x2 tape_length tape_bytes (show 0 ≤ (tape_length).toInt by omega) (show (tape_length).toInt ≤ 60 by omega)) (fun r_1 w_2 w_3 q_4 => ?_)
  obtain ⟨q_4_0, q_4_1⟩ : (0 ≤ w_2.toInt) ∧ (w_2.toInt ≤ 60) := q_4
  exact ok_some (show (0 ≤ w_2.toInt) ∧ (w_2.toInt ≤ 60) from ⟨by omega, by omega⟩)
set_option maxRecDepth 100000 in
set_option maxHeartbeats 4000000 in
theorem s_X6_rings (o_walkIsOld : Int32) (o_endsAreOld : Int32) (told_howFar : Nat → Int32) (told_tones : Nat → Int32) (tape_length : Int32) (tape_place : Int32) (tape_bytes : Nat → Int32) (tape_newFar : Nat → Int32) (tape_newTones : Nat → Int32) (h0 : 0 ≤ (tape_length).toInt) (h1 : (tape_length).toInt ≤ 60) : okP (f_X6_rings o_walkIsOld o_endsAreOld told_howFar told_tones tape_length tape_place tape_bytes tape_newFar tape_newTones) (fun u => (u.2.2.2.2.2.1.toInt = 0)) := by
  unfold f_X6_rings
  refine ok_bd6 (s_X3_readRings 7 7 tape_length tape_place tape_bytes tape_newFar tape_newTones told_howFar told_tones (by first | with_reducible assumption | with_reducible rfl | omega) (by first | with_reducible assumption | with_reducible rfl | omega) (show 0 ≤ (tape_length).toInt by omega) (show (tape_length).toInt ≤ 60 by omega)) (fun r_1 w_2 w_3 w_4 w_5 w_6 q_7 => ?_)
  refine ok_bd1 (s_X3_empty tape_length) (fun w_8 q_9 => ?_)
  replace q_9 : w_8.toInt = 0 := q_9
  refine ok_bd2 (s_X6_waysChanged o_walkIsOld o_endsAreOld) (fun w_10 w_11 q_12 => ?_)
  exact ok_some (show (w_8.toInt = 0) from by omega)
set_option maxRecDepth 100000 in
set_option maxHeartbeats 4000000 in
theorem s_X6_ways (o_walkIsOld : Int32) (told_settings : Nat → Int32) (told_howFar : Nat → Int32) (told_tones : Nat → Int32) (told_fars : Nat → Int32) (walk_last : Int32) (walk_turnsLet : Int32) (walk_slowsLet : Int32) (walk_fuel : Int32) (walk_glide : Int32) (walk_count : Int32) (walk_weightSum : Int64) (walk_toPass : Int32) (walk_foundNumber : Int32) (walk_foundWeight : Int32) (walk_foundTurns : Int32) (walk_foundSlowed : Int32) (walk_howFar : Nat → Int32) (walk_tones : Nat → Int32) (walk_only : Nat → Int32) (walk_fars : Nat → Int32) (walk_cellAt : Nat → Int32) (walk_ends : Nat → Int64) (walk_seen : Nat → Int32) (walk_begun : Nat → Int32) (h0 : SetOK told_settings) (h1 : 0 ≤ (walk_glide).toInt) (h2 : (walk_glide).toInt ≤ 3) : okP (f_X6_ways o_walkIsOld told_settings told_howFar told_tones told_fars walk_last walk_turnsLet walk_slowsLet walk_fuel walk_glide walk_count walk_weightSum walk_toPass walk_foundNumber walk_foundWeight walk_foundTurns walk_foundSlowed walk_howFar walk_tones walk_only walk_fars walk_cellAt walk_ends walk_seen walk_begun) (fun u => (0 ≤ u.2.2.2.2.2.2.1.toInt) ∧ (u.2.2.2.2.2.2.1.toInt ≤ 3)) := by
  obtain ⟨s0a, s0b, s1a, s1b, s2a, s2b, s3a, s3b, s4a, s4b, s5a, s5b, s6a, s6b, s7a, s7b⟩ := id h0
  unfold f_X6_ways
  refine ok_bd21 (s_X6_walked o_walkIsOld told_settings told_howFar told_tones told_fars walk_last walk_turnsLet walk_slowsLet walk_fuel walk_glide walk_count walk_weightSum walk_toPass walk_foundNumber walk_foundWeight walk_foundTurns walk_foundSlowed walk_howFar walk_tones walk_only walk_fars walk_cellAt walk_ends walk_seen walk_begun (by first | with_reducible assumption | with_reducible rfl | omega) (show 0 ≤ (walk_glide).toInt by omega) (show (walk_glide).toInt ≤ 3 by omega)) (fun w_1 w_2 w_3 w_4 w_5 w_6 w_7 w_8 w_9 w_10 w_11 w_12 w_13 w_14 w_15 w_16 w_17 w_18 w_19 w_20 w_21 q_22 => ?_)
  obtain ⟨q_22_0, q_22_1⟩ : (0 ≤ w_6.toInt) ∧ (w_6.toInt ≤ 3) := q_22
  exact ok_some (show (0 ≤ w_6.toInt) ∧ (w_6.toInt ≤ 3) from ⟨by omega, by omega⟩)
set_option maxRecDepth 100000 in
set_option maxHeartbeats 4000000 in
theorem s_X6_weight (o_walkIsOld : Int32) (told_settings : Nat → Int32) (told_howFar : Nat → Int32) (told_tones : Nat → Int32) (told_fars : Nat → Int32) (walk_last : Int32) (walk_turnsLet : Int32) (walk_slowsLet : Int32) (walk_fuel : Int32) (walk_glide : Int32) (walk_count : Int32) (walk_weightSum : Int64) (walk_toPass : Int32) (walk_foundNumber : Int32) (walk_foundWeight : Int32) (walk_foundTurns : Int32) (walk_foundSlowed : Int32) (walk_howFar : Nat → Int32) (walk_tones : Nat → Int32) (walk_only : Nat → Int32) (walk_fars : Nat → Int32) (walk_cellAt : Nat → Int32) (walk_ends : Nat → Int64) (walk_seen : Nat → Int32) (walk_begun : Nat → Int32) (h0 : SetOK told_settings) (h1 : 0 ≤ (walk_glide).toInt) (h2 : (walk_glide).toInt ≤ 3) : okP (f_X6_weight o_walkIsOld told_settings told_howFar told_tones told_fars walk_last walk_turnsLet walk_slowsLet walk_fuel walk_glide walk_count walk_weightSum walk_toPass walk_foundNumber walk_foundWeight walk_foundTurns walk_foundSlowed walk_howFar walk_tones walk_only walk_fars walk_cellAt walk_ends walk_seen walk_begun) (fun u => (0 ≤ u.2.2.2.2.2.2.1.toInt) ∧ (u.2.2.2.2.2.2.1.toInt ≤ 3)) := by
  obtain ⟨s0a, s0b, s1a, s1b, s2a, s2b, s3a, s3b, s4a, s4b, s5a, s5b, s6a, s6b, s7a, s7b⟩ := id h0
  unfold f_X6_weight
  refine ok_bd21 (s_X6_walked o_walkIsOld told_settings told_howFar told_tones told_fars walk_last walk_turnsLet walk_slowsLet walk_fuel walk_glide walk_count walk_weightSum walk_toPass walk_foundNumber walk_foundWeight walk_foundTurns walk_foundSlowed walk_howFar walk_tones walk_only walk_fars walk_cellAt walk_ends walk_seen walk_begun (by first | with_reducible assumption | with_reducible rfl | omega) (show 0 ≤ (walk_glide).toInt by omega) (show (walk_glide).toInt ≤ 3 by omega)) (fun w_1 w_2 w_3 w_4 w_5 w_6 w_7 w_8 w_9 w_10 w_11 w_12 w_13 w_14 w_15 w_16 w_17 w_18 w_19 w_20 w_21 q_22 => ?_)
  obtain ⟨q_22_0, q_22_1⟩ : (0 ≤ w_6.toInt) ∧ (w_6.toInt ≤ 3) := q_22
  exact ok_some (show (0 ≤ w_6.toInt) ∧ (w_6.toInt ≤ 3) from ⟨by omega, by omega⟩)
set_option maxRecDepth 100000 in
set_option maxHeartbeats 4000000 in
theorem s_X6_way (x1 : Int32) (x2 : Int32) (o_walkIsOld : Int32) (told_settings : Nat → Int32) (told_howFar : Nat → Int32) (told_tones : Nat → Int32) (told_fars : Nat → Int32) (walk_last : Int32) (walk_turnsLet : Int32) (walk_slowsLet : Int32) (walk_fuel : Int32) (walk_glide : Int32) (walk_count : Int32) (walk_weightSum : Int64) (walk_toPass : Int32) (walk_foundNumber : Int32) (walk_foundWeight : Int32) (walk_foundTurns : Int32) (walk_foundSlowed : Int32) (walk_howFar : Nat → Int32) (walk_tones : Nat → Int32) (walk_only : Nat → Int32) (walk_fars : Nat → Int32) (walk_cellAt : Nat → Int32) (walk_ends : Nat → Int64) (walk_seen : Nat → Int32) (walk_begun : Nat → Int32) (h0 : SetOK told_settings) (h1 : 0 ≤ (walk_glide).toInt) (h2 : (walk_glide).toInt ≤ 3) : okP (f_X6_way x1 x2 o_walkIsOld told_settings told_howFar told_tones told_fars walk_last walk_turnsLet walk_slowsLet walk_fuel walk_glide walk_count walk_weightSum walk_toPass walk_foundNumber walk_foundWeight walk_foundTurns walk_foundSlowed walk_howFar walk_tones walk_only walk_fars walk_cellAt walk_ends walk_seen walk_begun) (fun u => (0 ≤ u.2.2.2.2.2.2.1.toInt) ∧ (u.2.2.2.2.2.2.1.toInt ≤ 3)) := by
  obtain ⟨s0a, s0b, s1a, s1b, s2a, s2b, s3a, s3b, s4a, s4b, s5a, s5b, s6a, s6b, s7a, s7b⟩ := id h0
  unfold f_X6_way
  refine ok_ite (fun c_1 => ?_) (fun c_1 => ?_)
  · skip
    have c_1 : x1.toInt < (0 : Int) := i_lt.mp c_1
    exact ok_some (show (0 ≤ walk_glide.toInt) ∧ (walk_glide.toInt ≤ 3) from ⟨by omega, by omega⟩)
  · skip
    have c_1 : ¬ x1.toInt < (0 : Int) := fun z => c_1 (i_lt.mpr z)
    refine ok_bd1 (s_X6_within x2 (-3) (told_settings 2)) (fun r_2 q_3 => ?_)
    replace q_3 : (r_2.toInt = 1 ∧ (-3 : Int) ≤ x2.toInt ∧ x2.toInt ≤ (told_settings 2).toInt) ∨ (r_2.toInt = 0 ∧ (x2.toInt < (-3 : Int) ∨ (told_settings 2).toInt < x2.toInt)) := q_3
    refine ok_ite (fun c_4 => ?_) (fun c_4 => ?_)
    · skip
      have c_4 : r_2.toInt = (0 : Int) := i_eq.mp c_4
      replace q_3 : (x2.toInt < (-3 : Int) ∨ (told_settings 2).toInt < x2.toInt) := by omega
      exact ok_some (show (0 ≤ walk_glide.toInt) ∧ (walk_glide.toInt ≤ 3) from ⟨by omega, by omega⟩)
    · skip
      have c_4 : ¬ r_2.toInt = (0 : Int) := fun z => c_4 (i_eq.mpr z)
      replace q_3 : (-3 : Int) ≤ x2.toInt ∧ x2.toInt ≤ (told_settings 2).toInt := by omega
      refine ok_bd21 (s_X6_walked o_walkIsOld told_settings told_howFar told_tones told_fars walk_last walk_turnsLet walk_slowsLet walk_fuel walk_glide walk_count walk_weightSum walk_toPass walk_foundNumber walk_foundWeight walk_foundTurns walk_foundSlowed walk_howFar walk_tones walk_only walk_fars walk_cellAt walk_ends walk_seen walk_begun (by first | with_reducible assumption | with_reducible rfl | omega) (show 0 ≤ (walk_glide).toInt by omega) (show (walk_glide).toInt ≤ 3 by omega)) (fun w_5 w_6 w_7 w_8 w_9 w_10 w_11 w_12 w_13 w_14 w_15 w_16 w_17 w_18 w_19 w_20 w_21 w_22 w_23 w_24 w_25 q_26 => ?_)
      obtain ⟨q_26_0, q_26_1⟩ : (0 ≤ w_10.toInt) ∧ (w_10.toInt ≤ 3) := q_26
      refine ok_bd11 (s_X5_find x1 w_6 w_7 w_8 w_9 w_10 w_11 w_12 w_13 w_14 w_15 w_16 w_17 w_18 w_19 w_20 w_21 w_22 w_23 w_24 w_25 (show 0 ≤ (w_10).toInt by omega) (show (w_10).toInt ≤ 3 by omega)) (fun r_27 w_28 w_29 w_30 w_31 w_32 w_33 w_34 w_35 w_36 w_37 q_38 => ?_)
      replace q_38 : r_27.toInt = 0 ∨ r_27.toInt = 1 := q_38
      refine ok_ite (fun c_39 => ?_) (fun c_39 => ?_)
      · skip
        have c_39 : r_27.toInt = (0 : Int) := i_eq.mp c_39
        exact ok_some (show (0 ≤ w_10.toInt) ∧ (w_10.toInt ≤ 3) from ⟨by omega, by omega⟩)
      · skip
        have c_39 : ¬ r_27.toInt = (0 : Int) := fun z => c_39 (i_eq.mpr z)
        refine ok_ite (fun c_40 => ?_) (fun c_40 => ?_)
        · skip
          have c_40 : x2.toInt = (-3 : Int) := i_eq.mp c_40
          exact ok_some (show (0 ≤ w_10.toInt) ∧ (w_10.toInt ≤ 3) from ⟨by omega, by omega⟩)
        have c_40 : ¬ x2.toInt = (-3 : Int) := fun z => c_40 (i_eq.mpr z)
        refine ok_ite (fun c_41 => ?_) (fun c_41 => ?_)
        · skip
          have c_41 : x2.toInt = (-2 : Int) := i_eq.mp c_41
          exact ok_some (show (0 ≤ w_10.toInt) ∧ (w_10.toInt ≤ 3) from ⟨by omega, by omega⟩)
        have c_41 : ¬ x2.toInt = (-2 : Int) := fun z => c_41 (i_eq.mpr z)
        refine ok_ite (fun c_42 => ?_) (fun c_42 => ?_)
        · skip
          have c_42 : x2.toInt = (-1 : Int) := i_eq.mp c_42
          exact ok_some (show (0 ≤ w_10.toInt) ∧ (w_10.toInt ≤ 3) from ⟨by omega, by omega⟩)
        have c_42 : ¬ x2.toInt = (-1 : Int) := fun z => c_42 (i_eq.mpr z)
        have ix_43 : ¬ (x2 < 0 ∨ 7 ≤ x2.toNatClampNeg) := ix (show 0 ≤ x2.toInt by omega) (show x2.toInt < (7 : Nat) by omega)
        refine ok_chk ix_43 ?_
        exact ok_some (show (0 ≤ w_10.toInt) ∧ (w_10.toInt ≤ 3) from ⟨by omega, by omega⟩)
set_option maxRecDepth 100000 in
set_option maxHeartbeats 4000000 in
theorem s_X6_may (x1 : Int32) (x2 : Int32) (o_walkIsOld : Int32) (told_settings : Nat → Int32) (told_howFar : Nat → Int32) (told_tones : Nat → Int32) (told_fars : Nat → Int32) (walk_last : Int32) (walk_turnsLet : Int32) (walk_slowsLet : Int32) (walk_fuel : Int32) (walk_glide : Int32) (walk_count : Int32) (walk_weightSum : Int64) (walk_toPass : Int32) (walk_foundNumber : Int32) (walk_foundWeight : Int32) (walk_foundTurns : Int32) (walk_foundSlowed : Int32) (walk_howFar : Nat → Int32) (walk_tones : Nat → Int32) (walk_only : Nat → Int32) (walk_fars : Nat → Int32) (walk_cellAt : Nat → Int32) (walk_ends : Nat → Int64) (walk_seen : Nat → Int32) (walk_begun : Nat → Int32) (h0 : SetOK told_settings) (h1 : 0 ≤ (walk_glide).toInt) (h2 : (walk_glide).toInt ≤ 3) : okP (f_X6_may x1 x2 o_walkIsOld told_settings told_howFar told_tones told_fars walk_last walk_turnsLet walk_slowsLet walk_fuel walk_glide walk_count walk_weightSum walk_toPass walk_foundNumber walk_foundWeight walk_foundTurns walk_foundSlowed walk_howFar walk_tones walk_only walk_fars walk_cellAt walk_ends walk_seen walk_begun) (fun u => (0 ≤ u.2.2.2.2.2.2.1.toInt) ∧ (u.2.2.2.2.2.2.1.toInt ≤ 3)) := by
  obtain ⟨s0a, s0b, s1a, s1b, s2a, s2b, s3a, s3b, s4a, s4b, s5a, s5b, s6a, s6b, s7a, s7b⟩ := id h0
  unfold f_X6_may
  refine ok_bd1 (s_X6_within x1 0 (told_settings 2)) (fun r_1 q_2 => ?_)
  replace q_2 : (r_1.toInt = 1 ∧ (0 : Int) ≤ x1.toInt ∧ x1.toInt ≤ (told_settings 2).toInt) ∨ (r_1.toInt = 0 ∧ (x1.toInt < (0 : Int) ∨ (told_settings 2).toInt < x1.toInt)) := q_2
  refine ok_ite (fun c_3 => ?_) (fun c_3 => ?_)
  · skip
    have c_3 : r_1.toInt = (0 : Int) := i_eq.mp c_3
    replace q_2 : (x1.toInt < (0 : Int) ∨ (told_settings 2).toInt < x1.toInt) := by omega
    exact ok_some (show (0 ≤ walk_glide.toInt) ∧ (walk_glide.toInt ≤ 3) from ⟨by omega, by omega⟩)
  · skip
    have c_3 : ¬ r_1.toInt = (0 : Int) := fun z => c_3 (i_eq.mpr z)
    replace q_2 : (0 : Int) ≤ x1.toInt ∧ x1.toInt ≤ (told_settings 2).toInt := by omega
    refine ok_bd1 (s_X6_within x2 0 9) (fun r_4 q_5 => ?_)
    replace q_5 : (r_4.toInt = 1 ∧ (0 : Int) ≤ x2.toInt ∧ x2.toInt ≤ (9 : Int)) ∨ (r_4.toInt = 0 ∧ (x2.toInt < (0 : Int) ∨ (9 : Int) < x2.toInt)) := q_5
    refine ok_ite (fun c_6 => ?_) (fun c_6 => ?_)
    · skip
      have c_6 : r_4.toInt = (0 : Int) := i_eq.mp c_6
      replace q_5 : (x2.toInt < (0 : Int) ∨ (9 : Int) < x2.toInt) := by omega
      exact ok_some (show (0 ≤ walk_glide.toInt) ∧ (walk_glide.toInt ≤ 3) from ⟨by omega, by omega⟩)
    · skip
      have c_6 : ¬ r_4.toInt = (0 : Int) := fun z => c_6 (i_eq.mpr z)
      replace q_5 : (0 : Int) ≤ x2.toInt ∧ x2.toInt ≤ (9 : Int) := by omega
      refine ok_bd21 (s_X6_walked o_walkIsOld told_settings told_howFar told_tones told_fars walk_last walk_turnsLet walk_slowsLet walk_fuel walk_glide walk_count walk_weightSum walk_toPass walk_foundNumber walk_foundWeight walk_foundTurns walk_foundSlowed walk_howFar walk_tones walk_only walk_fars walk_cellAt walk_ends walk_seen walk_begun (by first | with_reducible assumption | with_reducible rfl | omega) (show 0 ≤ (walk_glide).toInt by omega) (show (walk_glide).toInt ≤ 3 by omega)) (fun w_7 w_8 w_9 w_10 w_11 w_12 w_13 w_14 w_15 w_16 w_17 w_18 w_19 w_20 w_21 w_22 w_23 w_24 w_25 w_26 w_27 q_28 => ?_)
      obtain ⟨q_28_0, q_28_1⟩ : (0 ≤ w_12.toInt) ∧ (w_12.toInt ≤ 3) := q_28
      first | (have f_29 : (10 * x1).toInt = (10 : Int) * x1.toInt := i_mul2 rfl rfl (by omega) (by omega)) | skip
      first | (have f_30 : ((10 * x1) + x2).toInt = (10 * x1).toInt + x2.toInt := i_add2 rfl rfl (by omega) (by omega)) | skip
      have ix_31 : ¬ (((10 * x1) + x2) < 0 ∨ 70 ≤ ((10 * x1) + x2).toNatClampNeg) := ix (show 0 ≤ ((10 * x1) + x2).toInt by omega) (show ((10 * x1) + x2).toInt < (70 : Nat) by omega)
      refine ok_chk ix_31 ?_
      exact ok_some (show (0 ≤ w_12.toInt) ∧ (w_12.toInt ≤ 3) from ⟨by omega, by omega⟩)
set_option maxRecDepth 100000 in
set_option maxHeartbeats 4000000 in
theorem s_X6_sea (x1 : Int32) (x2 : Int32) (o_endsAreOld : Int32) (told_currents : Nat → Int32) (seas_known : Nat → Int32) (tape_length : Int32) (tape_place : Int32) (tape_bytes : Nat → Int32) (tape_newCurrents : Nat → Int32) (h0 : 0 ≤ (tape_length).toInt) (h1 : (tape_length).toInt ≤ 60) : okP (f_X6_sea x1 x2 o_endsAreOld told_currents seas_known tape_length tape_place tape_bytes tape_newCurrents) (fun u => (0 ≤ u.2.2.2.2.1.toInt) ∧ (u.2.2.2.2.1.toInt ≤ 60) ∧ ((¬ (0 ≤ x1.toInt ∧ x1.toInt ≤ 1 ∧ 0 ≤ x2.toInt ∧ x2.toInt ≤ 9) ∧ u.2.2.2.2.1.toInt = tape_length.toInt) ∨ ((0 ≤ x1.toInt ∧ x1.toInt ≤ 1 ∧ 0 ≤ x2.toInt ∧ x2.toInt ≤ 9) ∧ u.2.2.2.2.1.toInt = 0))) := by
  unfold f_X6_sea
  refine ok_bd1 (s_X6_within x1 0 1) (fun r_1 q_2 => ?_)
  replace q_2 : (r_1.toInt = 1 ∧ (0 : Int) ≤ x1.toInt ∧ x1.toInt ≤ (1 : Int)) ∨ (r_1.toInt = 0 ∧ (x1.toInt < (0 : Int) ∨ (1 : Int) < x1.toInt)) := q_2
  refine ok_ite (fun c_3 => ?_) (fun c_3 => ?_)
  · skip
    have c_3 : r_1.toInt = (0 : Int) := i_eq.mp c_3
    replace q_2 : (x1.toInt < (0 : Int) ∨ (1 : Int) < x1.toInt) := by omega
    exact ok_some (show (0 ≤ tape_length.toInt) ∧ (tape_length.toInt ≤ 60) ∧ ((¬ (0 ≤ x1.toInt ∧ x1.toInt ≤ 1 ∧ 0 ≤ x2.toInt ∧ x2.toInt ≤ 9) ∧ tape_length.toInt = tape_length.toInt) ∨ ((0 ≤ x1.toInt ∧ x1.toInt ≤ 1 ∧ 0 ≤ x2.toInt ∧ x2.toInt ≤ 9) ∧ tape_length.toInt = 0)) from ⟨by omega, by omega, by omega⟩)
  · skip
    have c_3 : ¬ r_1.toInt = (0 : Int) := fun z => c_3 (i_eq.mpr z)
    replace q_2 : (0 : Int) ≤ x1.toInt ∧ x1.toInt ≤ (1 : Int) := by omega
    refine ok_bd1 (s_X6_within x2 0 9) (fun r_4 q_5 => ?_)
    replace q_5 : (r_4.toInt = 1 ∧ (0 : Int) ≤ x2.toInt ∧ x2.toInt ≤ (9 : Int)) ∨ (r_4.toInt = 0 ∧ (x2.toInt < (0 : Int) ∨ (9 : Int) < x2.toInt)) := q_5
    refine ok_ite (fun c_6 => ?_) (fun c_6 => ?_)
    · skip
      have c_6 : r_4.toInt = (0 : Int) := i_eq.mp c_6
      replace q_5 : (x2.toInt < (0 : Int) ∨ (9 : Int) < x2.toInt) := by omega
      exact ok_some (show (0 ≤ tape_length.toInt) ∧ (tape_length.toInt ≤ 60) ∧ ((¬ (0 ≤ x1.toInt ∧ x1.toInt ≤ 1 ∧ 0 ≤ x2.toInt ∧ x2.toInt ≤ 9) ∧ tape_length.toInt = tape_length.toInt) ∨ ((0 ≤ x1.toInt ∧ x1.toInt ≤ 1 ∧ 0 ≤ x2.toInt ∧ x2.toInt ≤ 9) ∧ tape_length.toInt = 0)) from ⟨by omega, by omega, by omega⟩)
    · skip
      have c_6 : ¬ r_4.toInt = (0 : Int) := fun z => c_6 (i_eq.mpr z)
      replace q_5 : (0 : Int) ≤ x2.toInt ∧ x2.toInt ≤ (9 : Int) := by omega
      first | (have f_7 : (100 * x1).toInt = (100 : Int) * x1.toInt := i_mul2 rfl rfl (by omega) (by omega)) | skip
      first | (have f_8 : (10 * x2).toInt = (10 : Int) * x2.toInt := i_mul2 rfl rfl (by omega) (by omega)) | skip
      first | (have f_9 : ((100 * x1) + (10 * x2)).toInt = (100 * x1).toInt + (10 * x2).toInt := i_add2 rfl rfl (by omega) (by omega)) | skip
      refine ok_bd4 (s_X3_readSea 200 ((100 * x1) + (10 * x2)) tape_length tape_place tape_bytes tape_newCurrents told_currents (by first | with_reducible assumption | with_reducible rfl | omega) (show 0 ≤ (tape_length).toInt by omega) (show (tape_length).toInt ≤ 60 by omega)) (fun r_10 w_11 w_12 w_13 q_14 => ?_)
      refine ok_bd1 (s_X3_empty tape_length) (fun w_15 q_16 => ?_)
      replace q_16 : w_15.toInt = 0 := q_16
      refine ok_bd2 (s_X6_seaChanged o_endsAreOld seas_known) (fun w_17 w_18 q_19 => ?_)
      exact ok_some (show (0 ≤ w_15.toInt) ∧ (w_15.toInt ≤ 60) ∧ ((¬ (0 ≤ x1.toInt ∧ x1.toInt ≤ 1 ∧ 0 ≤ x2.toInt ∧ x2.toInt ≤ 9) ∧ w_15.toInt = tape_length.toInt) ∨ ((0 ≤ x1.toInt ∧ x1.toInt ≤ 1 ∧ 0 ≤ x2.toInt ∧ x2.toInt ≤ 9) ∧ w_15.toInt = 0)) from ⟨by omega, by omega, by omega⟩)
set_option maxRecDepth 100000 in
set_option maxHeartbeats 4000000 in
theorem s_X6_cell (x1 : Int32) (x2 : Int32) (x3 : Int32) (x4 : Int32) (o_endsAreOld : Int32) (told_currents : Nat → Int32) (told_warmths : Nat → Int32) (seas_known : Nat → Int32) : okP (f_X6_cell x1 x2 x3 x4 o_endsAreOld told_currents told_warmths seas_known) (fun u => ((¬ (0 ≤ x1.toInt ∧ x1.toInt ≤ 1 ∧ 0 ≤ x2.toInt ∧ x2.toInt < 100 ∧ 0 ≤ x3.toInt ∧ x3.toInt ≤ 1 ∧ 0 ≤ x4.toInt ∧ (x3.toInt = 0 → x4.toInt ≤ 8) ∧ (x3.toInt = 1 → x4.toInt ≤ 9)) ∧ u.1.toInt = -1 ∧ u.2.2.1 = told_currents ∧ u.2.2.2.1 = told_warmths) ∨ ((0 ≤ x1.toInt ∧ x1.toInt ≤ 1 ∧ 0 ≤ x2.toInt ∧ x2.toInt < 100 ∧ 0 ≤ x3.toInt ∧ x3.toInt ≤ 1 ∧ 0 ≤ x4.toInt ∧ (x3.toInt = 0 → x4.toInt ≤ 8) ∧ (x3.toInt = 1 → x4.toInt ≤ 9)) ∧ x3.toInt = 0 ∧ u.1 = told_currents ((100 * x1) + x2).toNatClampNeg ∧ u.2.2.1 = upd told_currents ((100 * x1) + x2).toNatClampNeg x4 ∧ u.2.2.2.1 = told_warmths) ∨ ((0 ≤ x1.toInt ∧ x1.toInt ≤ 1 ∧ 0 ≤ x2.toInt ∧ x2.toInt < 100 ∧ 0 ≤ x3.toInt ∧ x3.toInt ≤ 1 ∧ 0 ≤ x4.toInt ∧ (x3.toInt = 0 → x4.toInt ≤ 8) ∧ (x3.toInt = 1 → x4.toInt ≤ 9)) ∧ x3.toInt = 1 ∧ u.1 = told_warmths ((100 * x1) + x2).toNatClampNeg ∧ u.2.2.1 = told_currents ∧ u.2.2.2.1 = upd told_warmths ((100 * x1) + x2).toNatClampNeg x4))) := by
  unfold f_X6_cell
  refine ok_bd1 (s_X6_within x1 0 1) (fun r_1 q_2 => ?_)
  replace q_2 : (r_1.toInt = 1 ∧ (0 : Int) ≤ x1.toInt ∧ x1.toInt ≤ (1 : Int)) ∨ (r_1.toInt = 0 ∧ (x1.toInt < (0 : Int) ∨ (1 : Int) < x1.toInt)) := q_2
  refine ok_ite (fun c_3 => ?_) (fun c_3 => ?_)
  · skip
    have c_3 : r_1.toInt = (0 : Int) := i_eq.mp c_3
    replace q_2 : (x1.toInt < (0 : Int) ∨ (1 : Int) < x1.toInt) := by omega
    exact ok_some (show ((¬ (0 ≤ x1.toInt ∧ x1.toInt ≤ 1 ∧ 0 ≤ x2.toInt ∧ x2.toInt < 100 ∧ 0 ≤ x3.toInt ∧ x3.toInt ≤ 1 ∧ 0 ≤ x4.toInt ∧ (x3.toInt = 0 → x4.toInt ≤ 8) ∧ (x3.toInt = 1 → x4.toInt ≤ 9)) ∧ (-1 : Int) = -1 ∧ told_currents = told_currents ∧ told_warmths = told_warmths) ∨ ((0 ≤ x1.toInt ∧ x1.toInt ≤ 1 ∧ 0 ≤ x2.toInt ∧ x2.toInt < 100 ∧ 0 ≤ x3.toInt ∧ x3.toInt ≤ 1 ∧ 0 ≤ x4.toInt ∧ (x3.toInt = 0 → x4.toInt ≤ 8) ∧ (x3.toInt = 1 → x4.toInt ≤ 9)) ∧ x3.toInt = 0 ∧ (-1) = told_currents ((100 * x1) + x2).toNatClampNeg ∧ told_currents = upd told_currents ((100 * x1) + x2).toNatClampNeg x4 ∧ told_warmths = told_warmths) ∨ ((0 ≤ x1.toInt ∧ x1.toInt ≤ 1 ∧ 0 ≤ x2.toInt ∧ x2.toInt < 100 ∧ 0 ≤ x3.toInt ∧ x3.toInt ≤ 1 ∧ 0 ≤ x4.toInt ∧ (x3.toInt = 0 → x4.toInt ≤ 8) ∧ (x3.toInt = 1 → x4.toInt ≤ 9)) ∧ x3.toInt = 1 ∧ (-1) = told_warmths ((100 * x1) + x2).toNatClampNeg ∧ told_currents = told_currents ∧ told_warmths = upd told_warmths ((100 * x1) + x2).toNatClampNeg x4)) from by first | with_reducible assumption | with_reducible rfl | exact Or.inl ⟨by omega, rfl, rfl, rfl⟩ | (subst_vars; first | exact Or.inr (Or.inl ⟨by omega, by omega, rfl, rfl, rfl⟩) | exact Or.inr (Or.inr ⟨by omega, by omega, rfl, rfl, rfl⟩)) | exact Or.inr (Or.inl ⟨by omega, by omega, by assumption, rfl, rfl⟩) | exact Or.inr (Or.inr ⟨by omega, by omega, by assumption, rfl, rfl⟩) | omega)
  · skip
    have c_3 : ¬ r_1.toInt = (0 : Int) := fun z => c_3 (i_eq.mpr z)
    replace q_2 : (0 : Int) ≤ x1.toInt ∧ x1.toInt ≤ (1 : Int) := by omega
    refine ok_bd1 (s_X6_isCell x2) (fun r_4 q_5 => ?_)
    replace q_5 : (r_4.toInt = 1 ∧ 0 ≤ x2.toInt ∧ x2.toInt < 100) ∨ (r_4.toInt = 0 ∧ (x2.toInt < 0 ∨ 100 ≤ x2.toInt)) := q_5
    refine ok_ite (fun c_6 => ?_) (fun c_6 => ?_)
    · skip
      have c_6 : r_4.toInt = (0 : Int) := i_eq.mp c_6
      replace q_5 : (x2.toInt < 0 ∨ 100 ≤ x2.toInt) := by omega
      exact ok_some (show ((¬ (0 ≤ x1.toInt ∧ x1.toInt ≤ 1 ∧ 0 ≤ x2.toInt ∧ x2.toInt < 100 ∧ 0 ≤ x3.toInt ∧ x3.toInt ≤ 1 ∧ 0 ≤ x4.toInt ∧ (x3.toInt = 0 → x4.toInt ≤ 8) ∧ (x3.toInt = 1 → x4.toInt ≤ 9)) ∧ (-1 : Int) = -1 ∧ told_currents = told_currents ∧ told_warmths = told_warmths) ∨ ((0 ≤ x1.toInt ∧ x1.toInt ≤ 1 ∧ 0 ≤ x2.toInt ∧ x2.toInt < 100 ∧ 0 ≤ x3.toInt ∧ x3.toInt ≤ 1 ∧ 0 ≤ x4.toInt ∧ (x3.toInt = 0 → x4.toInt ≤ 8) ∧ (x3.toInt = 1 → x4.toInt ≤ 9)) ∧ x3.toInt = 0 ∧ (-1) = told_currents ((100 * x1) + x2).toNatClampNeg ∧ told_currents = upd told_currents ((100 * x1) + x2).toNatClampNeg x4 ∧ told_warmths = told_warmths) ∨ ((0 ≤ x1.toInt ∧ x1.toInt ≤ 1 ∧ 0 ≤ x2.toInt ∧ x2.toInt < 100 ∧ 0 ≤ x3.toInt ∧ x3.toInt ≤ 1 ∧ 0 ≤ x4.toInt ∧ (x3.toInt = 0 → x4.toInt ≤ 8) ∧ (x3.toInt = 1 → x4.toInt ≤ 9)) ∧ x3.toInt = 1 ∧ (-1) = told_warmths ((100 * x1) + x2).toNatClampNeg ∧ told_currents = told_currents ∧ told_warmths = upd told_warmths ((100 * x1) + x2).toNatClampNeg x4)) from by first | with_reducible assumption | with_reducible rfl | exact Or.inl ⟨by omega, rfl, rfl, rfl⟩ | (subst_vars; first | exact Or.inr (Or.inl ⟨by omega, by omega, rfl, rfl, rfl⟩) | exact Or.inr (Or.inr ⟨by omega, by omega, rfl, rfl, rfl⟩)) | exact Or.inr (Or.inl ⟨by omega, by omega, by assumption, rfl, rfl⟩) | exact Or.inr (Or.inr ⟨by omega, by omega, by assumption, rfl, rfl⟩) | omega)
    · skip
      have c_6 : ¬ r_4.toInt = (0 : Int) := fun z => c_6 (i_eq.mpr z)
      replace q_5 : 0 ≤ x2.toInt ∧ x2.toInt < 100 := by omega
      refine ok_bd1 (s_X6_within x3 0 1) (fun r_7 q_8 => ?_)
      replace q_8 : (r_7.toInt = 1 ∧ (0 : Int) ≤ x3.toInt ∧ x3.toInt ≤ (1 : Int)) ∨ (r_7.toInt = 0 ∧ (x3.toInt < (0 : Int) ∨ (1 : Int) < x3.toInt)) := q_8
      refine ok_ite (fun c_9 => ?_) (fun c_9 => ?_)
      · skip
        have c_9 : r_7.toInt = (0 : Int) := i_eq.mp c_9
        replace q_8 : (x3.toInt < (0 : Int) ∨ (1 : Int) < x3.toInt) := by omega
        exact ok_some (show ((¬ (0 ≤ x1.toInt ∧ x1.toInt ≤ 1 ∧ 0 ≤ x2.toInt ∧ x2.toInt < 100 ∧ 0 ≤ x3.toInt ∧ x3.toInt ≤ 1 ∧ 0 ≤ x4.toInt ∧ (x3.toInt = 0 → x4.toInt ≤ 8) ∧ (x3.toInt = 1 → x4.toInt ≤ 9)) ∧ (-1 : Int) = -1 ∧ told_currents = told_currents ∧ told_warmths = told_warmths) ∨ ((0 ≤ x1.toInt ∧ x1.toInt ≤ 1 ∧ 0 ≤ x2.toInt ∧ x2.toInt < 100 ∧ 0 ≤ x3.toInt ∧ x3.toInt ≤ 1 ∧ 0 ≤ x4.toInt ∧ (x3.toInt = 0 → x4.toInt ≤ 8) ∧ (x3.toInt = 1 → x4.toInt ≤ 9)) ∧ x3.toInt = 0 ∧ (-1) = told_currents ((100 * x1) + x2).toNatClampNeg ∧ told_currents = upd told_currents ((100 * x1) + x2).toNatClampNeg x4 ∧ told_warmths = told_warmths) ∨ ((0 ≤ x1.toInt ∧ x1.toInt ≤ 1 ∧ 0 ≤ x2.toInt ∧ x2.toInt < 100 ∧ 0 ≤ x3.toInt ∧ x3.toInt ≤ 1 ∧ 0 ≤ x4.toInt ∧ (x3.toInt = 0 → x4.toInt ≤ 8) ∧ (x3.toInt = 1 → x4.toInt ≤ 9)) ∧ x3.toInt = 1 ∧ (-1) = told_warmths ((100 * x1) + x2).toNatClampNeg ∧ told_currents = told_currents ∧ told_warmths = upd told_warmths ((100 * x1) + x2).toNatClampNeg x4)) from by first | with_reducible assumption | with_reducible rfl | exact Or.inl ⟨by omega, rfl, rfl, rfl⟩ | (subst_vars; first | exact Or.inr (Or.inl ⟨by omega, by omega, rfl, rfl, rfl⟩) | exact Or.inr (Or.inr ⟨by omega, by omega, rfl, rfl, rfl⟩)) | exact Or.inr (Or.inl ⟨by omega, by omega, by assumption, rfl, rfl⟩) | exact Or.inr (Or.inr ⟨by omega, by omega, by assumption, rfl, rfl⟩) | omega)
      · skip
        have c_9 : ¬ r_7.toInt = (0 : Int) := fun z => c_9 (i_eq.mpr z)
        replace q_8 : (0 : Int) ≤ x3.toInt ∧ x3.toInt ≤ (1 : Int) := by omega
        refine ok_ite (fun c_10 => ?_) (fun c_10 => ?_)
        · skip
          have c_10 : x3.toInt = (0 : Int) := i_eq.mp c_10
          unfold f_X6_cell_B41
          refine ok_bd1 (s_X6_within x4 0 8) (fun r_11 q_12 => ?_)
          replace q_12 : (r_11.toInt = 1 ∧ (0 : Int) ≤ x4.toInt ∧ x4.toInt ≤ (8 : Int)) ∨ (r_11.toInt = 0 ∧ (x4.toInt < (0 : Int) ∨ (8 : Int) < x4.toInt)) := q_12
          refine ok_ite (fun c_13 => ?_) (fun c_13 => ?_)
          · skip
            have c_13 : r_11.toInt = (0 : Int) := i_eq.mp c_13
            replace q_12 : (x4.toInt < (0 : Int) ∨ (8 : Int) < x4.toInt) := by omega
            exact ok_some (show ((¬ (0 ≤ x1.toInt ∧ x1.toInt ≤ 1 ∧ 0 ≤ x2.toInt ∧ x2.toInt < 100 ∧ 0 ≤ x3.toInt ∧ x3.toInt ≤ 1 ∧ 0 ≤ x4.toInt ∧ (x3.toInt = 0 → x4.toInt ≤ 8) ∧ (x3.toInt = 1 → x4.toInt ≤ 9)) ∧ (-1 : Int) = -1 ∧ told_currents = told_currents ∧ told_warmths = told_warmths) ∨ ((0 ≤ x1.toInt ∧ x1.toInt ≤ 1 ∧ 0 ≤ x2.toInt ∧ x2.toInt < 100 ∧ 0 ≤ x3.toInt ∧ x3.toInt ≤ 1 ∧ 0 ≤ x4.toInt ∧ (x3.toInt = 0 → x4.toInt ≤ 8) ∧ (x3.toInt = 1 → x4.toInt ≤ 9)) ∧ x3.toInt = 0 ∧ (-1) = told_currents ((100 * x1) + x2).toNatClampNeg ∧ told_currents = upd told_currents ((100 * x1) + x2).toNatClampNeg x4 ∧ told_warmths = told_warmths) ∨ ((0 ≤ x1.toInt ∧ x1.toInt ≤ 1 ∧ 0 ≤ x2.toInt ∧ x2.toInt < 100 ∧ 0 ≤ x3.toInt ∧ x3.toInt ≤ 1 ∧ 0 ≤ x4.toInt ∧ (x3.toInt = 0 → x4.toInt ≤ 8) ∧ (x3.toInt = 1 → x4.toInt ≤ 9)) ∧ x3.toInt = 1 ∧ (-1) = told_warmths ((100 * x1) + x2).toNatClampNeg ∧ told_currents = told_currents ∧ told_warmths = upd told_warmths ((100 * x1) + x2).toNatClampNeg x4)) from by first | with_reducible assumption | with_reducible rfl | exact Or.inl ⟨by omega, rfl, rfl, rfl⟩ | (subst_vars; first | exact Or.inr (Or.inl ⟨by omega, by omega, rfl, rfl, rfl⟩) | exact Or.inr (Or.inr ⟨by omega, by omega, rfl, rfl, rfl⟩)) | exact Or.inr (Or.inl ⟨by omega, by omega, by assumption, rfl, rfl⟩) | exact Or.inr (Or.inr ⟨by omega, by omega, by assumption, rfl, rfl⟩) | omega)
          · skip
            have c_13 : ¬ r_11.toInt = (0 : Int) := fun z => c_13 (i_eq.mpr z)
            replace q_12 : (0 : Int) ≤ x4.toInt ∧ x4.toInt ≤ (8 : Int) := by omega
            refine ok_ite (fun c_14 => ?_) (fun c_14 => ?_)
            · skip
              have c_14 : x3.toInt = (0 : Int) := i_eq.mp c_14
              first | (have f_15 : (100 * x1).toInt = (100 : Int) * x1.toInt := i_mul2 rfl rfl (by omega) (by omega)) | skip
              first | (have f_16 : ((100 * x1) + x2).toInt = (100 * x1).toInt + x2.toInt := i_add2 rfl rfl (by omega) (by omega)) | skip
              have ix_17 : ¬ (((100 * x1) + x2) < 0 ∨ 200 ≤ ((100 * x1) + x2).toNatClampNeg) := ix (show 0 ≤ ((100 * x1) + x2).toInt by omega) (show ((100 * x1) + x2).toInt < (200 : Nat) by omega)
              refine ok_chk ix_17 ?_
              refine ok_nmi (fun x_18 hx_18 kx_18 => ?_)
              refine ok_chk ix_17 ?_
              refine ok_bd2 (s_X6_seaChanged o_endsAreOld seas_known) (fun w_19 w_20 q_21 => ?_)
              exact ok_some (show ((¬ (0 ≤ x1.toInt ∧ x1.toInt ≤ 1 ∧ 0 ≤ x2.toInt ∧ x2.toInt < 100 ∧ 0 ≤ x3.toInt ∧ x3.toInt ≤ 1 ∧ 0 ≤ x4.toInt ∧ (x3.toInt = 0 → x4.toInt ≤ 8) ∧ (x3.toInt = 1 → x4.toInt ≤ 9)) ∧ x_18.toInt = -1 ∧ (upd told_currents ((100 * x1) + x2).toNatClampNeg x4) = told_currents ∧ told_warmths = told_warmths) ∨ ((0 ≤ x1.toInt ∧ x1.toInt ≤ 1 ∧ 0 ≤ x2.toInt ∧ x2.toInt < 100 ∧ 0 ≤ x3.toInt ∧ x3.toInt ≤ 1 ∧ 0 ≤ x4.toInt ∧ (x3.toInt = 0 → x4.toInt ≤ 8) ∧ (x3.toInt = 1 → x4.toInt ≤ 9)) ∧ x3.toInt = 0 ∧ x_18 = told_currents ((100 * x1) + x2).toNatClampNeg ∧ (upd told_currents ((100 * x1) + x2).toNatClampNeg x4) = upd told_currents ((100 * x1) + x2).toNatClampNeg x4 ∧ told_warmths = told_warmths) ∨ ((0 ≤ x1.toInt ∧ x1.toInt ≤ 1 ∧ 0 ≤ x2.toInt ∧ x2.toInt < 100 ∧ 0 ≤ x3.toInt ∧ x3.toInt ≤ 1 ∧ 0 ≤ x4.toInt ∧ (x3.toInt = 0 → x4.toInt ≤ 8) ∧ (x3.toInt = 1 → x4.toInt ≤ 9)) ∧ x3.toInt = 1 ∧ x_18 = told_warmths ((100 * x1) + x2).toNatClampNeg ∧ (upd told_currents ((100 * x1) + x2).toNatClampNeg x4) = told_currents ∧ told_warmths = upd told_warmths ((100 * x1) + x2).toNatClampNeg x4)) from by first | with_reducible assumption | with_reducible rfl | exact Or.inl ⟨by omega, rfl, rfl, rfl⟩ | (subst_vars; first | exact Or.inr (Or.inl ⟨by omega, by omega, rfl, rfl, rfl⟩) | exact Or.inr (Or.inr ⟨by omega, by omega, rfl, rfl, rfl⟩)) | exact Or.inr (Or.inl ⟨by omega, by omega, by assumption, rfl, rfl⟩) | exact Or.inr (Or.inr ⟨by omega, by omega, by assumption, rfl, rfl⟩) | omega)
            · skip
              have c_14 : ¬ x3.toInt = (0 : Int) := fun z => c_14 (i_eq.mpr z)
              first | (have f_22 : (100 * x1).toInt = (100 : Int) * x1.toInt := i_mul2 rfl rfl (by omega) (by omega)) | skip
              first | (have f_23 : ((100 * x1) + x2).toInt = (100 * x1).toInt + x2.toInt := i_add2 rfl rfl (by omega) (by omega)) | skip
              have ix_24 : ¬ (((100 * x1) + x2) < 0 ∨ 200 ≤ ((100 * x1) + x2).toNatClampNeg) := ix (show 0 ≤ ((100 * x1) + x2).toInt by omega) (show ((100 * x1) + x2).toInt < (200 : Nat) by omega)
              refine ok_chk ix_24 ?_
              refine ok_nmi (fun x_25 hx_25 kx_25 => ?_)
              refine ok_chk ix_24 ?_
              refine ok_bd2 (s_X6_seaChanged o_endsAreOld seas_known) (fun w_26 w_27 q_28 => ?_)
              exact ok_some (show ((¬ (0 ≤ x1.toInt ∧ x1.toInt ≤ 1 ∧ 0 ≤ x2.toInt ∧ x2.toInt < 100 ∧ 0 ≤ x3.toInt ∧ x3.toInt ≤ 1 ∧ 0 ≤ x4.toInt ∧ (x3.toInt = 0 → x4.toInt ≤ 8) ∧ (x3.toInt = 1 → x4.toInt ≤ 9)) ∧ x_25.toInt = -1 ∧ told_currents = told_currents ∧ (upd told_warmths ((100 * x1) + x2).toNatClampNeg x4) = told_warmths) ∨ ((0 ≤ x1.toInt ∧ x1.toInt ≤ 1 ∧ 0 ≤ x2.toInt ∧ x2.toInt < 100 ∧ 0 ≤ x3.toInt ∧ x3.toInt ≤ 1 ∧ 0 ≤ x4.toInt ∧ (x3.toInt = 0 → x4.toInt ≤ 8) ∧ (x3.toInt = 1 → x4.toInt ≤ 9)) ∧ x3.toInt = 0 ∧ x_25 = told_currents ((100 * x1) + x2).toNatClampNeg ∧ told_currents = upd told_currents ((100 * x1) + x2).toNatClampNeg x4 ∧ (upd told_warmths ((100 * x1) + x2).toNatClampNeg x4) = told_warmths) ∨ ((0 ≤ x1.toInt ∧ x1.toInt ≤ 1 ∧ 0 ≤ x2.toInt ∧ x2.toInt < 100 ∧ 0 ≤ x3.toInt ∧ x3.toInt ≤ 1 ∧ 0 ≤ x4.toInt ∧ (x3.toInt = 0 → x4.toInt ≤ 8) ∧ (x3.toInt = 1 → x4.toInt ≤ 9)) ∧ x3.toInt = 1 ∧ x_25 = told_warmths ((100 * x1) + x2).toNatClampNeg ∧ told_currents = told_currents ∧ (upd told_warmths ((100 * x1) + x2).toNatClampNeg x4) = upd told_warmths ((100 * x1) + x2).toNatClampNeg x4)) from by first | with_reducible assumption | with_reducible rfl | exact Or.inl ⟨by omega, rfl, rfl, rfl⟩ | (subst_vars; first | exact Or.inr (Or.inl ⟨by omega, by omega, rfl, rfl, rfl⟩) | exact Or.inr (Or.inr ⟨by omega, by omega, rfl, rfl, rfl⟩)) | exact Or.inr (Or.inl ⟨by omega, by omega, by assumption, rfl, rfl⟩) | exact Or.inr (Or.inr ⟨by omega, by omega, by assumption, rfl, rfl⟩) | omega)
        · skip
          have c_10 : ¬ x3.toInt = (0 : Int) := fun z => c_10 (i_eq.mpr z)
          unfold f_X6_cell_B41
          refine ok_bd1 (s_X6_within x4 0 9) (fun r_29 q_30 => ?_)
          replace q_30 : (r_29.toInt = 1 ∧ (0 : Int) ≤ x4.toInt ∧ x4.toInt ≤ (9 : Int)) ∨ (r_29.toInt = 0 ∧ (x4.toInt < (0 : Int) ∨ (9 : Int) < x4.toInt)) := q_30
          refine ok_ite (fun c_31 => ?_) (fun c_31 => ?_)
          · skip
            have c_31 : r_29.toInt = (0 : Int) := i_eq.mp c_31
            replace q_30 : (x4.toInt < (0 : Int) ∨ (9 : Int) < x4.toInt) := by omega
            exact ok_some (show ((¬ (0 ≤ x1.toInt ∧ x1.toInt ≤ 1 ∧ 0 ≤ x2.toInt ∧ x2.toInt < 100 ∧ 0 ≤ x3.toInt ∧ x3.toInt ≤ 1 ∧ 0 ≤ x4.toInt ∧ (x3.toInt = 0 → x4.toInt ≤ 8) ∧ (x3.toInt = 1 → x4.toInt ≤ 9)) ∧ (-1 : Int) = -1 ∧ told_currents = told_currents ∧ told_warmths = told_warmths) ∨ ((0 ≤ x1.toInt ∧ x1.toInt ≤ 1 ∧ 0 ≤ x2.toInt ∧ x2.toInt < 100 ∧ 0 ≤ x3.toInt ∧ x3.toInt ≤ 1 ∧ 0 ≤ x4.toInt ∧ (x3.toInt = 0 → x4.toInt ≤ 8) ∧ (x3.toInt = 1 → x4.toInt ≤ 9)) ∧ x3.toInt = 0 ∧ (-1) = told_currents ((100 * x1) + x2).toNatClampNeg ∧ told_currents = upd told_currents ((100 * x1) + x2).toNatClampNeg x4 ∧ told_warmths = told_warmths) ∨ ((0 ≤ x1.toInt ∧ x1.toInt ≤ 1 ∧ 0 ≤ x2.toInt ∧ x2.toInt < 100 ∧ 0 ≤ x3.toInt ∧ x3.toInt ≤ 1 ∧ 0 ≤ x4.toInt ∧ (x3.toInt = 0 → x4.toInt ≤ 8) ∧ (x3.toInt = 1 → x4.toInt ≤ 9)) ∧ x3.toInt = 1 ∧ (-1) = told_warmths ((100 * x1) + x2).toNatClampNeg ∧ told_currents = told_currents ∧ told_warmths = upd told_warmths ((100 * x1) + x2).toNatClampNeg x4)) from by first | with_reducible assumption | with_reducible rfl | exact Or.inl ⟨by omega, rfl, rfl, rfl⟩ | (subst_vars; first | exact Or.inr (Or.inl ⟨by omega, by omega, rfl, rfl, rfl⟩) | exact Or.inr (Or.inr ⟨by omega, by omega, rfl, rfl, rfl⟩)) | exact Or.inr (Or.inl ⟨by omega, by omega, by assumption, rfl, rfl⟩) | exact Or.inr (Or.inr ⟨by omega, by omega, by assumption, rfl, rfl⟩) | omega)
          · skip
            have c_31 : ¬ r_29.toInt = (0 : Int) := fun z => c_31 (i_eq.mpr z)
            replace q_30 : (0 : Int) ≤ x4.toInt ∧ x4.toInt ≤ (9 : Int) := by omega
            refine ok_ite (fun c_32 => ?_) (fun c_32 => ?_)
            · skip
              have c_32 : x3.toInt = (0 : Int) := i_eq.mp c_32
              first | (have f_33 : (100 * x1).toInt = (100 : Int) * x1.toInt := i_mul2 rfl rfl (by omega) (by omega)) | skip
              first | (have f_34 : ((100 * x1) + x2).toInt = (100 * x1).toInt + x2.toInt := i_add2 rfl rfl (by omega) (by omega)) | skip
              have ix_35 : ¬ (((100 * x1) + x2) < 0 ∨ 200 ≤ ((100 * x1) + x2).toNatClampNeg) := ix (show 0 ≤ ((100 * x1) + x2).toInt by omega) (show ((100 * x1) + x2).toInt < (200 : Nat) by omega)
              refine ok_chk ix_35 ?_
              refine ok_nmi (fun x_36 hx_36 kx_36 => ?_)
              refine ok_chk ix_35 ?_
              refine ok_bd2 (s_X6_seaChanged o_endsAreOld seas_known) (fun w_37 w_38 q_39 => ?_)
              exact ok_some (show ((¬ (0 ≤ x1.toInt ∧ x1.toInt ≤ 1 ∧ 0 ≤ x2.toInt ∧ x2.toInt < 100 ∧ 0 ≤ x3.toInt ∧ x3.toInt ≤ 1 ∧ 0 ≤ x4.toInt ∧ (x3.toInt = 0 → x4.toInt ≤ 8) ∧ (x3.toInt = 1 → x4.toInt ≤ 9)) ∧ x_36.toInt = -1 ∧ (upd told_currents ((100 * x1) + x2).toNatClampNeg x4) = told_currents ∧ told_warmths = told_warmths) ∨ ((0 ≤ x1.toInt ∧ x1.toInt ≤ 1 ∧ 0 ≤ x2.toInt ∧ x2.toInt < 100 ∧ 0 ≤ x3.toInt ∧ x3.toInt ≤ 1 ∧ 0 ≤ x4.toInt ∧ (x3.toInt = 0 → x4.toInt ≤ 8) ∧ (x3.toInt = 1 → x4.toInt ≤ 9)) ∧ x3.toInt = 0 ∧ x_36 = told_currents ((100 * x1) + x2).toNatClampNeg ∧ (upd told_currents ((100 * x1) + x2).toNatClampNeg x4) = upd told_currents ((100 * x1) + x2).toNatClampNeg x4 ∧ told_warmths = told_warmths) ∨ ((0 ≤ x1.toInt ∧ x1.toInt ≤ 1 ∧ 0 ≤ x2.toInt ∧ x2.toInt < 100 ∧ 0 ≤ x3.toInt ∧ x3.toInt ≤ 1 ∧ 0 ≤ x4.toInt ∧ (x3.toInt = 0 → x4.toInt ≤ 8) ∧ (x3.toInt = 1 → x4.toInt ≤ 9)) ∧ x3.toInt = 1 ∧ x_36 = told_warmths ((100 * x1) + x2).toNatClampNeg ∧ (upd told_currents ((100 * x1) + x2).toNatClampNeg x4) = told_currents ∧ told_warmths = upd told_warmths ((100 * x1) + x2).toNatClampNeg x4)) from by first | with_reducible assumption | with_reducible rfl | exact Or.inl ⟨by omega, rfl, rfl, rfl⟩ | (subst_vars; first | exact Or.inr (Or.inl ⟨by omega, by omega, rfl, rfl, rfl⟩) | exact Or.inr (Or.inr ⟨by omega, by omega, rfl, rfl, rfl⟩)) | exact Or.inr (Or.inl ⟨by omega, by omega, by assumption, rfl, rfl⟩) | exact Or.inr (Or.inr ⟨by omega, by omega, by assumption, rfl, rfl⟩) | omega)
            · skip
              have c_32 : ¬ x3.toInt = (0 : Int) := fun z => c_32 (i_eq.mpr z)
              first | (have f_40 : (100 * x1).toInt = (100 : Int) * x1.toInt := i_mul2 rfl rfl (by omega) (by omega)) | skip
              first | (have f_41 : ((100 * x1) + x2).toInt = (100 * x1).toInt + x2.toInt := i_add2 rfl rfl (by omega) (by omega)) | skip
              have ix_42 : ¬ (((100 * x1) + x2) < 0 ∨ 200 ≤ ((100 * x1) + x2).toNatClampNeg) := ix (show 0 ≤ ((100 * x1) + x2).toInt by omega) (show ((100 * x1) + x2).toInt < (200 : Nat) by omega)
              refine ok_chk ix_42 ?_
              refine ok_nmi (fun x_43 hx_43 kx_43 => ?_)
              refine ok_chk ix_42 ?_
              refine ok_bd2 (s_X6_seaChanged o_endsAreOld seas_known) (fun w_44 w_45 q_46 => ?_)
              exact ok_some (show ((¬ (0 ≤ x1.toInt ∧ x1.toInt ≤ 1 ∧ 0 ≤ x2.toInt ∧ x2.toInt < 100 ∧ 0 ≤ x3.toInt ∧ x3.toInt ≤ 1 ∧ 0 ≤ x4.toInt ∧ (x3.toInt = 0 → x4.toInt ≤ 8) ∧ (x3.toInt = 1 → x4.toInt ≤ 9)) ∧ x_43.toInt = -1 ∧ told_currents = told_currents ∧ (upd told_warmths ((100 * x1) + x2).toNatClampNeg x4) = told_warmths) ∨ ((0 ≤ x1.toInt ∧ x1.toInt ≤ 1 ∧ 0 ≤ x2.toInt ∧ x2.toInt < 100 ∧ 0 ≤ x3.toInt ∧ x3.toInt ≤ 1 ∧ 0 ≤ x4.toInt ∧ (x3.toInt = 0 → x4.toInt ≤ 8) ∧ (x3.toInt = 1 → x4.toInt ≤ 9)) ∧ x3.toInt = 0 ∧ x_43 = told_currents ((100 * x1) + x2).toNatClampNeg ∧ told_currents = upd told_currents ((100 * x1) + x2).toNatClampNeg x4 ∧ (upd told_warmths ((100 * x1) + x2).toNatClampNeg x4) = told_warmths) ∨ ((0 ≤ x1.toInt ∧ x1.toInt ≤ 1 ∧ 0 ≤ x2.toInt ∧ x2.toInt < 100 ∧ 0 ≤ x3.toInt ∧ x3.toInt ≤ 1 ∧ 0 ≤ x4.toInt ∧ (x3.toInt = 0 → x4.toInt ≤ 8) ∧ (x3.toInt = 1 → x4.toInt ≤ 9)) ∧ x3.toInt = 1 ∧ x_43 = told_warmths ((100 * x1) + x2).toNatClampNeg ∧ told_currents = told_currents ∧ (upd told_warmths ((100 * x1) + x2).toNatClampNeg x4) = upd told_warmths ((100 * x1) + x2).toNatClampNeg x4)) from by first | with_reducible assumption | with_reducible rfl | exact Or.inl ⟨by omega, rfl, rfl, rfl⟩ | (subst_vars; first | exact Or.inr (Or.inl ⟨by omega, by omega, rfl, rfl, rfl⟩) | exact Or.inr (Or.inr ⟨by omega, by omega, rfl, rfl, rfl⟩)) | exact Or.inr (Or.inl ⟨by omega, by omega, by assumption, rfl, rfl⟩) | exact Or.inr (Or.inr ⟨by omega, by omega, by assumption, rfl, rfl⟩) | omega)
set_option maxRecDepth 100000 in
set_option maxHeartbeats 4000000 in
theorem s_X6_depth (x1 : Int32) (x2 : Int32) (told_depths : Nat → Int32) : okP (f_X6_depth x1 x2 told_depths) (fun u => (((0 ≤ x1.toInt ∧ x1.toInt < 100 ∧ 1 ≤ x2.toInt ∧ x2.toInt ≤ 9) ∧ u.1 = told_depths x1.toNatClampNeg ∧ u.2 = upd told_depths x1.toNatClampNeg x2) ∨ (¬ (0 ≤ x1.toInt ∧ x1.toInt < 100 ∧ 1 ≤ x2.toInt ∧ x2.toInt ≤ 9) ∧ u.1.toInt = -1 ∧ u.2 = told_depths))) := by
  unfold f_X6_depth
  refine ok_bd1 (s_X6_isCell x1) (fun r_1 q_2 => ?_)
  replace q_2 : (r_1.toInt = 1 ∧ 0 ≤ x1.toInt ∧ x1.toInt < 100) ∨ (r_1.toInt = 0 ∧ (x1.toInt < 0 ∨ 100 ≤ x1.toInt)) := q_2
  refine ok_ite (fun c_3 => ?_) (fun c_3 => ?_)
  · skip
    have c_3 : r_1.toInt = (0 : Int) := i_eq.mp c_3
    replace q_2 : (x1.toInt < 0 ∨ 100 ≤ x1.toInt) := by omega
    exact ok_some (show (((0 ≤ x1.toInt ∧ x1.toInt < 100 ∧ 1 ≤ x2.toInt ∧ x2.toInt ≤ 9) ∧ (-1) = told_depths x1.toNatClampNeg ∧ told_depths = upd told_depths x1.toNatClampNeg x2) ∨ (¬ (0 ≤ x1.toInt ∧ x1.toInt < 100 ∧ 1 ≤ x2.toInt ∧ x2.toInt ≤ 9) ∧ (-1 : Int) = -1 ∧ told_depths = told_depths)) from by first | with_reducible assumption | with_reducible rfl | exact Or.inr ⟨by omega, rfl, rfl⟩ | exact Or.inl ⟨by omega, by assumption, rfl⟩ | omega)
  · skip
    have c_3 : ¬ r_1.toInt = (0 : Int) := fun z => c_3 (i_eq.mpr z)
    replace q_2 : 0 ≤ x1.toInt ∧ x1.toInt < 100 := by omega
    refine ok_bd1 (s_X6_within x2 1 9) (fun r_4 q_5 => ?_)
    replace q_5 : (r_4.toInt = 1 ∧ (1 : Int) ≤ x2.toInt ∧ x2.toInt ≤ (9 : Int)) ∨ (r_4.toInt = 0 ∧ (x2.toInt < (1 : Int) ∨ (9 : Int) < x2.toInt)) := q_5
    refine ok_ite (fun c_6 => ?_) (fun c_6 => ?_)
    · skip
      have c_6 : r_4.toInt = (0 : Int) := i_eq.mp c_6
      replace q_5 : (x2.toInt < (1 : Int) ∨ (9 : Int) < x2.toInt) := by omega
      exact ok_some (show (((0 ≤ x1.toInt ∧ x1.toInt < 100 ∧ 1 ≤ x2.toInt ∧ x2.toInt ≤ 9) ∧ (-1) = told_depths x1.toNatClampNeg ∧ told_depths = upd told_depths x1.toNatClampNeg x2) ∨ (¬ (0 ≤ x1.toInt ∧ x1.toInt < 100 ∧ 1 ≤ x2.toInt ∧ x2.toInt ≤ 9) ∧ (-1 : Int) = -1 ∧ told_depths = told_depths)) from by first | with_reducible assumption | with_reducible rfl | exact Or.inr ⟨by omega, rfl, rfl⟩ | exact Or.inl ⟨by omega, by assumption, rfl⟩ | omega)
    · skip
      have c_6 : ¬ r_4.toInt = (0 : Int) := fun z => c_6 (i_eq.mpr z)
      replace q_5 : (1 : Int) ≤ x2.toInt ∧ x2.toInt ≤ (9 : Int) := by omega
      have ix_7 : ¬ (x1 < 0 ∨ 100 ≤ x1.toNatClampNeg) := ix (show 0 ≤ x1.toInt by omega) (show x1.toInt < (100 : Nat) by omega)
      refine ok_chk ix_7 ?_
      refine ok_nmi (fun x_8 hx_8 kx_8 => ?_)
      refine ok_chk ix_7 ?_
      exact ok_some (show (((0 ≤ x1.toInt ∧ x1.toInt < 100 ∧ 1 ≤ x2.toInt ∧ x2.toInt ≤ 9) ∧ x_8 = told_depths x1.toNatClampNeg ∧ (upd told_depths x1.toNatClampNeg x2) = upd told_depths x1.toNatClampNeg x2) ∨ (¬ (0 ≤ x1.toInt ∧ x1.toInt < 100 ∧ 1 ≤ x2.toInt ∧ x2.toInt ≤ 9) ∧ x_8.toInt = -1 ∧ (upd told_depths x1.toNatClampNeg x2) = told_depths)) from by first | with_reducible assumption | with_reducible rfl | exact Or.inr ⟨by omega, rfl, rfl⟩ | exact Or.inl ⟨by omega, by assumption, rfl⟩ | omega)
set_option maxRecDepth 100000 in
set_option maxHeartbeats 4000000 in
theorem s_X6_piece (x1 : Int32) (x2 : Int32) (x3 : Int32) (x4 : Int32) (x5 : Int32) (o_endsAreOld : Int32) (told_pieceCount : Int32) (told_pieceCells : Nat → Int32) (told_pieceMonths : Nat → Int32) (told_pieceHighs : Nat → Int32) (told_pieceAges : Nat → Int32) (told_pieceNeeds : Nat → Int32) (seas_known : Nat → Int32) (h0 : 0 ≤ (told_pieceCount).toInt) (h1 : (told_pieceCount).toInt ≤ 4) : okP (f_X6_piece x1 x2 x3 x4 x5 o_endsAreOld told_pieceCount told_pieceCells told_pieceMonths told_pieceHighs told_pieceAges told_pieceNeeds seas_known) (fun u => (0 ≤ u.2.2.1.toInt) ∧ (u.2.2.1.toInt ≤ 4) ∧ ((¬ (0 ≤ x1.toInt ∧ x1.toInt < 100 ∧ 1 ≤ x2.toInt ∧ x2.toInt ≤ 24 ∧ 0 ≤ x3.toInt ∧ x3.toInt ≤ 1 ∧ 0 ≤ x4.toInt ∧ x4.toInt ≤ x2.toInt ∧ 0 ≤ x5.toInt ∧ x5.toInt ≤ 9) ∧ u.1.toInt = -1 ∧ u.2.2.1.toInt = told_pieceCount.toInt) ∨ ((0 ≤ x1.toInt ∧ x1.toInt < 100 ∧ 1 ≤ x2.toInt ∧ x2.toInt ≤ 24 ∧ 0 ≤ x3.toInt ∧ x3.toInt ≤ 1 ∧ 0 ≤ x4.toInt ∧ x4.toInt ≤ x2.toInt ∧ 0 ≤ x5.toInt ∧ x5.toInt ≤ 9) ∧ 4 ≤ told_pieceCount.toInt ∧ u.1.toInt = -3 ∧ u.2.2.1.toInt = told_pieceCount.toInt) ∨ ((0 ≤ x1.toInt ∧ x1.toInt < 100 ∧ 1 ≤ x2.toInt ∧ x2.toInt ≤ 24 ∧ 0 ≤ x3.toInt ∧ x3.toInt ≤ 1 ∧ 0 ≤ x4.toInt ∧ x4.toInt ≤ x2.toInt ∧ 0 ≤ x5.toInt ∧ x5.toInt ≤ 9) ∧ told_pieceCount.toInt < 4 ∧ u.1.toInt = told_pieceCount.toInt ∧ u.2.2.1.toInt = told_pieceCount.toInt + 1))) := by
  unfold f_X6_piece
  refine ok_bd1 (s_X6_isCell x1) (fun r_1 q_2 => ?_)
  replace q_2 : (r_1.toInt = 1 ∧ 0 ≤ x1.toInt ∧ x1.toInt < 100) ∨ (r_1.toInt = 0 ∧ (x1.toInt < 0 ∨ 100 ≤ x1.toInt)) := q_2
  refine ok_ite (fun c_3 => ?_) (fun c_3 => ?_)
  · skip
    have c_3 : r_1.toInt = (0 : Int) := i_eq.mp c_3
    replace q_2 : (x1.toInt < 0 ∨ 100 ≤ x1.toInt) := by omega
    exact ok_some (show (0 ≤ told_pieceCount.toInt) ∧ (told_pieceCount.toInt ≤ 4) ∧ ((¬ (0 ≤ x1.toInt ∧ x1.toInt < 100 ∧ 1 ≤ x2.toInt ∧ x2.toInt ≤ 24 ∧ 0 ≤ x3.toInt ∧ x3.toInt ≤ 1 ∧ 0 ≤ x4.toInt ∧ x4.toInt ≤ x2.toInt ∧ 0 ≤ x5.toInt ∧ x5.toInt ≤ 9) ∧ (-1 : Int) = -1 ∧ told_pieceCount.toInt = told_pieceCount.toInt) ∨ ((0 ≤ x1.toInt ∧ x1.toInt < 100 ∧ 1 ≤ x2.toInt ∧ x2.toInt ≤ 24 ∧ 0 ≤ x3.toInt ∧ x3.toInt ≤ 1 ∧ 0 ≤ x4.toInt ∧ x4.toInt ≤ x2.toInt ∧ 0 ≤ x5.toInt ∧ x5.toInt ≤ 9) ∧ 4 ≤ told_pieceCount.toInt ∧ (-1 : Int) = -3 ∧ told_pieceCount.toInt = told_pieceCount.toInt) ∨ ((0 ≤ x1.toInt ∧ x1.toInt < 100 ∧ 1 ≤ x2.toInt ∧ x2.toInt ≤ 24 ∧ 0 ≤ x3.toInt ∧ x3.toInt ≤ 1 ∧ 0 ≤ x4.toInt ∧ x4.toInt ≤ x2.toInt ∧ 0 ≤ x5.toInt ∧ x5.toInt ≤ 9) ∧ told_pieceCount.toInt < 4 ∧ (-1 : Int) = told_pieceCount.toInt ∧ told_pieceCount.toInt = told_pieceCount.toInt + 1)) from ⟨by omega, by omega, by omega⟩)
  · skip
    have c_3 : ¬ r_1.toInt = (0 : Int) := fun z => c_3 (i_eq.mpr z)
    replace q_2 : 0 ≤ x1.toInt ∧ x1.toInt < 100 := by omega
    refine ok_bd1 (s_X6_within x2 1 24) (fun r_4 q_5 => ?_)
    replace q_5 : (r_4.toInt = 1 ∧ (1 : Int) ≤ x2.toInt ∧ x2.toInt ≤ (24 : Int)) ∨ (r_4.toInt = 0 ∧ (x2.toInt < (1 : Int) ∨ (24 : Int) < x2.toInt)) := q_5
    refine ok_ite (fun c_6 => ?_) (fun c_6 => ?_)
    · skip
      have c_6 : r_4.toInt = (0 : Int) := i_eq.mp c_6
      replace q_5 : (x2.toInt < (1 : Int) ∨ (24 : Int) < x2.toInt) := by omega
      exact ok_some (show (0 ≤ told_pieceCount.toInt) ∧ (told_pieceCount.toInt ≤ 4) ∧ ((¬ (0 ≤ x1.toInt ∧ x1.toInt < 100 ∧ 1 ≤ x2.toInt ∧ x2.toInt ≤ 24 ∧ 0 ≤ x3.toInt ∧ x3.toInt ≤ 1 ∧ 0 ≤ x4.toInt ∧ x4.toInt ≤ x2.toInt ∧ 0 ≤ x5.toInt ∧ x5.toInt ≤ 9) ∧ (-1 : Int) = -1 ∧ told_pieceCount.toInt = told_pieceCount.toInt) ∨ ((0 ≤ x1.toInt ∧ x1.toInt < 100 ∧ 1 ≤ x2.toInt ∧ x2.toInt ≤ 24 ∧ 0 ≤ x3.toInt ∧ x3.toInt ≤ 1 ∧ 0 ≤ x4.toInt ∧ x4.toInt ≤ x2.toInt ∧ 0 ≤ x5.toInt ∧ x5.toInt ≤ 9) ∧ 4 ≤ told_pieceCount.toInt ∧ (-1 : Int) = -3 ∧ told_pieceCount.toInt = told_pieceCount.toInt) ∨ ((0 ≤ x1.toInt ∧ x1.toInt < 100 ∧ 1 ≤ x2.toInt ∧ x2.toInt ≤ 24 ∧ 0 ≤ x3.toInt ∧ x3.toInt ≤ 1 ∧ 0 ≤ x4.toInt ∧ x4.toInt ≤ x2.toInt ∧ 0 ≤ x5.toInt ∧ x5.toInt ≤ 9) ∧ told_pieceCount.toInt < 4 ∧ (-1 : Int) = told_pieceCount.toInt ∧ told_pieceCount.toInt = told_pieceCount.toInt + 1)) from ⟨by omega, by omega, by omega⟩)
    · skip
      have c_6 : ¬ r_4.toInt = (0 : Int) := fun z => c_6 (i_eq.mpr z)
      replace q_5 : (1 : Int) ≤ x2.toInt ∧ x2.toInt ≤ (24 : Int) := by omega
      refine ok_bd1 (s_X6_within x3 0 1) (fun r_7 q_8 => ?_)
      replace q_8 : (r_7.toInt = 1 ∧ (0 : Int) ≤ x3.toInt ∧ x3.toInt ≤ (1 : Int)) ∨ (r_7.toInt = 0 ∧ (x3.toInt < (0 : Int) ∨ (1 : Int) < x3.toInt)) := q_8
      refine ok_ite (fun c_9 => ?_) (fun c_9 => ?_)
      · skip
        have c_9 : r_7.toInt = (0 : Int) := i_eq.mp c_9
        replace q_8 : (x3.toInt < (0 : Int) ∨ (1 : Int) < x3.toInt) := by omega
        exact ok_some (show (0 ≤ told_pieceCount.toInt) ∧ (told_pieceCount.toInt ≤ 4) ∧ ((¬ (0 ≤ x1.toInt ∧ x1.toInt < 100 ∧ 1 ≤ x2.toInt ∧ x2.toInt ≤ 24 ∧ 0 ≤ x3.toInt ∧ x3.toInt ≤ 1 ∧ 0 ≤ x4.toInt ∧ x4.toInt ≤ x2.toInt ∧ 0 ≤ x5.toInt ∧ x5.toInt ≤ 9) ∧ (-1 : Int) = -1 ∧ told_pieceCount.toInt = told_pieceCount.toInt) ∨ ((0 ≤ x1.toInt ∧ x1.toInt < 100 ∧ 1 ≤ x2.toInt ∧ x2.toInt ≤ 24 ∧ 0 ≤ x3.toInt ∧ x3.toInt ≤ 1 ∧ 0 ≤ x4.toInt ∧ x4.toInt ≤ x2.toInt ∧ 0 ≤ x5.toInt ∧ x5.toInt ≤ 9) ∧ 4 ≤ told_pieceCount.toInt ∧ (-1 : Int) = -3 ∧ told_pieceCount.toInt = told_pieceCount.toInt) ∨ ((0 ≤ x1.toInt ∧ x1.toInt < 100 ∧ 1 ≤ x2.toInt ∧ x2.toInt ≤ 24 ∧ 0 ≤ x3.toInt ∧ x3.toInt ≤ 1 ∧ 0 ≤ x4.toInt ∧ x4.toInt ≤ x2.toInt ∧ 0 ≤ x5.toInt ∧ x5.toInt ≤ 9) ∧ told_pieceCount.toInt < 4 ∧ (-1 : Int) = told_pieceCount.toInt ∧ told_pieceCount.toInt = told_pieceCount.toInt + 1)) from ⟨by omega, by omega, by omega⟩)
      · skip
        have c_9 : ¬ r_7.toInt = (0 : Int) := fun z => c_9 (i_eq.mpr z)
        replace q_8 : (0 : Int) ≤ x3.toInt ∧ x3.toInt ≤ (1 : Int) := by omega
        refine ok_bd1 (s_X6_within x4 0 x2) (fun r_10 q_11 => ?_)
        replace q_11 : (r_10.toInt = 1 ∧ (0 : Int) ≤ x4.toInt ∧ x4.toInt ≤ x2.toInt) ∨ (r_10.toInt = 0 ∧ (x4.toInt < (0 : Int) ∨ x2.toInt < x4.toInt)) := q_11
        refine ok_ite (fun c_12 => ?_) (fun c_12 => ?_)
        · skip
          have c_12 : r_10.toInt = (0 : Int) := i_eq.mp c_12
          replace q_11 : (x4.toInt < (0 : Int) ∨ x2.toInt < x4.toInt) := by omega
          exact ok_some (show (0 ≤ told_pieceCount.toInt) ∧ (told_pieceCount.toInt ≤ 4) ∧ ((¬ (0 ≤ x1.toInt ∧ x1.toInt < 100 ∧ 1 ≤ x2.toInt ∧ x2.toInt ≤ 24 ∧ 0 ≤ x3.toInt ∧ x3.toInt ≤ 1 ∧ 0 ≤ x4.toInt ∧ x4.toInt ≤ x2.toInt ∧ 0 ≤ x5.toInt ∧ x5.toInt ≤ 9) ∧ (-1 : Int) = -1 ∧ told_pieceCount.toInt = told_pieceCount.toInt) ∨ ((0 ≤ x1.toInt ∧ x1.toInt < 100 ∧ 1 ≤ x2.toInt ∧ x2.toInt ≤ 24 ∧ 0 ≤ x3.toInt ∧ x3.toInt ≤ 1 ∧ 0 ≤ x4.toInt ∧ x4.toInt ≤ x2.toInt ∧ 0 ≤ x5.toInt ∧ x5.toInt ≤ 9) ∧ 4 ≤ told_pieceCount.toInt ∧ (-1 : Int) = -3 ∧ told_pieceCount.toInt = told_pieceCount.toInt) ∨ ((0 ≤ x1.toInt ∧ x1.toInt < 100 ∧ 1 ≤ x2.toInt ∧ x2.toInt ≤ 24 ∧ 0 ≤ x3.toInt ∧ x3.toInt ≤ 1 ∧ 0 ≤ x4.toInt ∧ x4.toInt ≤ x2.toInt ∧ 0 ≤ x5.toInt ∧ x5.toInt ≤ 9) ∧ told_pieceCount.toInt < 4 ∧ (-1 : Int) = told_pieceCount.toInt ∧ told_pieceCount.toInt = told_pieceCount.toInt + 1)) from ⟨by omega, by omega, by omega⟩)
        · skip
          have c_12 : ¬ r_10.toInt = (0 : Int) := fun z => c_12 (i_eq.mpr z)
          replace q_11 : (0 : Int) ≤ x4.toInt ∧ x4.toInt ≤ x2.toInt := by omega
          refine ok_bd1 (s_X6_within x5 0 9) (fun r_13 q_14 => ?_)
          replace q_14 : (r_13.toInt = 1 ∧ (0 : Int) ≤ x5.toInt ∧ x5.toInt ≤ (9 : Int)) ∨ (r_13.toInt = 0 ∧ (x5.toInt < (0 : Int) ∨ (9 : Int) < x5.toInt)) := q_14
          refine ok_ite (fun c_15 => ?_) (fun c_15 => ?_)
          · skip
            have c_15 : r_13.toInt = (0 : Int) := i_eq.mp c_15
            replace q_14 : (x5.toInt < (0 : Int) ∨ (9 : Int) < x5.toInt) := by omega
            exact ok_some (show (0 ≤ told_pieceCount.toInt) ∧ (told_pieceCount.toInt ≤ 4) ∧ ((¬ (0 ≤ x1.toInt ∧ x1.toInt < 100 ∧ 1 ≤ x2.toInt ∧ x2.toInt ≤ 24 ∧ 0 ≤ x3.toInt ∧ x3.toInt ≤ 1 ∧ 0 ≤ x4.toInt ∧ x4.toInt ≤ x2.toInt ∧ 0 ≤ x5.toInt ∧ x5.toInt ≤ 9) ∧ (-1 : Int) = -1 ∧ told_pieceCount.toInt = told_pieceCount.toInt) ∨ ((0 ≤ x1.toInt ∧ x1.toInt < 100 ∧ 1 ≤ x2.toInt ∧ x2.toInt ≤ 24 ∧ 0 ≤ x3.toInt ∧ x3.toInt ≤ 1 ∧ 0 ≤ x4.toInt ∧ x4.toInt ≤ x2.toInt ∧ 0 ≤ x5.toInt ∧ x5.toInt ≤ 9) ∧ 4 ≤ told_pieceCount.toInt ∧ (-1 : Int) = -3 ∧ told_pieceCount.toInt = told_pieceCount.toInt) ∨ ((0 ≤ x1.toInt ∧ x1.toInt < 100 ∧ 1 ≤ x2.toInt ∧ x2.toInt ≤ 24 ∧ 0 ≤ x3.toInt ∧ x3.toInt ≤ 1 ∧ 0 ≤ x4.toInt ∧ x4.toInt ≤ x2.toInt ∧ 0 ≤ x5.toInt ∧ x5.toInt ≤ 9) ∧ told_pieceCount.toInt < 4 ∧ (-1 : Int) = told_pieceCount.toInt ∧ told_pieceCount.toInt = told_pieceCount.toInt + 1)) from ⟨by omega, by omega, by omega⟩)
          · skip
            have c_15 : ¬ r_13.toInt = (0 : Int) := fun z => c_15 (i_eq.mpr z)
            replace q_14 : (0 : Int) ≤ x5.toInt ∧ x5.toInt ≤ (9 : Int) := by omega
            refine ok_ite (fun c_16 => ?_) (fun c_16 => ?_)
            · skip
              have c_16 : told_pieceCount.toInt < (4 : Int) := i_lt.mp c_16
              have ix_17 : ¬ (told_pieceCount < 0 ∨ 4 ≤ told_pieceCount.toNatClampNeg) := ix (show 0 ≤ told_pieceCount.toInt by omega) (show told_pieceCount.toInt < (4 : Nat) by omega)
              refine ok_chk ix_17 ?_
              refine ok_chk ix_17 ?_
              refine ok_chk ix_17 ?_
              refine ok_chk ix_17 ?_
              refine ok_chk ix_17 ?_
              first | (have f_18 : (told_pieceCount + 1).toInt = told_pieceCount.toInt + (1 : Int) := i_add2 rfl rfl (by omega) (by omega)) | skip
              refine ok_nmi (fun x_19 hx_19 kx_19 => ?_)
              refine ok_bd2 (s_X6_seaChanged o_endsAreOld seas_known) (fun w_20 w_21 q_22 => ?_)
              exact ok_some (show (0 ≤ x_19.toInt) ∧ (x_19.toInt ≤ 4) ∧ ((¬ (0 ≤ x1.toInt ∧ x1.toInt < 100 ∧ 1 ≤ x2.toInt ∧ x2.toInt ≤ 24 ∧ 0 ≤ x3.toInt ∧ x3.toInt ≤ 1 ∧ 0 ≤ x4.toInt ∧ x4.toInt ≤ x2.toInt ∧ 0 ≤ x5.toInt ∧ x5.toInt ≤ 9) ∧ told_pieceCount.toInt = -1 ∧ x_19.toInt = told_pieceCount.toInt) ∨ ((0 ≤ x1.toInt ∧ x1.toInt < 100 ∧ 1 ≤ x2.toInt ∧ x2.toInt ≤ 24 ∧ 0 ≤ x3.toInt ∧ x3.toInt ≤ 1 ∧ 0 ≤ x4.toInt ∧ x4.toInt ≤ x2.toInt ∧ 0 ≤ x5.toInt ∧ x5.toInt ≤ 9) ∧ 4 ≤ told_pieceCount.toInt ∧ told_pieceCount.toInt = -3 ∧ x_19.toInt = told_pieceCount.toInt) ∨ ((0 ≤ x1.toInt ∧ x1.toInt < 100 ∧ 1 ≤ x2.toInt ∧ x2.toInt ≤ 24 ∧ 0 ≤ x3.toInt ∧ x3.toInt ≤ 1 ∧ 0 ≤ x4.toInt ∧ x4.toInt ≤ x2.toInt ∧ 0 ≤ x5.toInt ∧ x5.toInt ≤ 9) ∧ told_pieceCount.toInt < 4 ∧ told_pieceCount.toInt = told_pieceCount.toInt ∧ x_19.toInt = told_pieceCount.toInt + 1)) from ⟨by omega, by omega, by omega⟩)
            · skip
              have c_16 : ¬ told_pieceCount.toInt < (4 : Int) := fun z => c_16 (i_lt.mpr z)
              exact ok_some (show (0 ≤ told_pieceCount.toInt) ∧ (told_pieceCount.toInt ≤ 4) ∧ ((¬ (0 ≤ x1.toInt ∧ x1.toInt < 100 ∧ 1 ≤ x2.toInt ∧ x2.toInt ≤ 24 ∧ 0 ≤ x3.toInt ∧ x3.toInt ≤ 1 ∧ 0 ≤ x4.toInt ∧ x4.toInt ≤ x2.toInt ∧ 0 ≤ x5.toInt ∧ x5.toInt ≤ 9) ∧ (-3 : Int) = -1 ∧ told_pieceCount.toInt = told_pieceCount.toInt) ∨ ((0 ≤ x1.toInt ∧ x1.toInt < 100 ∧ 1 ≤ x2.toInt ∧ x2.toInt ≤ 24 ∧ 0 ≤ x3.toInt ∧ x3.toInt ≤ 1 ∧ 0 ≤ x4.toInt ∧ x4.toInt ≤ x2.toInt ∧ 0 ≤ x5.toInt ∧ x5.toInt ≤ 9) ∧ 4 ≤ told_pieceCount.toInt ∧ (-3 : Int) = -3 ∧ told_pieceCount.toInt = told_pieceCount.toInt) ∨ ((0 ≤ x1.toInt ∧ x1.toInt < 100 ∧ 1 ≤ x2.toInt ∧ x2.toInt ≤ 24 ∧ 0 ≤ x3.toInt ∧ x3.toInt ≤ 1 ∧ 0 ≤ x4.toInt ∧ x4.toInt ≤ x2.toInt ∧ 0 ≤ x5.toInt ∧ x5.toInt ≤ 9) ∧ told_pieceCount.toInt < 4 ∧ (-3 : Int) = told_pieceCount.toInt ∧ told_pieceCount.toInt = told_pieceCount.toInt + 1)) from ⟨by omega, by omega, by omega⟩)
set_option maxRecDepth 100000 in
set_option maxHeartbeats 4000000 in
theorem s_X6_drift (x1 : Int32) (x2 : Int32) (x3 : Int32) (told_settings : Nat → Int32) (told_currents : Nat → Int32) : okP (f_X6_drift x1 x2 x3 told_settings told_currents) (fun u => True) := by
  unfold f_X6_drift
  refine ok_bd1 (s_X6_isCell x1) (fun r_1 q_2 => ?_)
  replace q_2 : (r_1.toInt = 1 ∧ 0 ≤ x1.toInt ∧ x1.toInt < 100) ∨ (r_1.toInt = 0 ∧ (x1.toInt < 0 ∨ 100 ≤ x1.toInt)) := q_2
  refine ok_ite (fun c_3 => ?_) (fun c_3 => ?_)
  · skip
    have c_3 : r_1.toInt = (0 : Int) := i_eq.mp c_3
    replace q_2 : (x1.toInt < 0 ∨ 100 ≤ x1.toInt) := by omega
    exact ok_some trivial
  · skip
    have c_3 : ¬ r_1.toInt = (0 : Int) := fun z => c_3 (i_eq.mpr z)
    replace q_2 : 0 ≤ x1.toInt ∧ x1.toInt < 100 := by omega
    refine ok_bd1 (s_X6_within x2 0 24) (fun r_4 q_5 => ?_)
    replace q_5 : (r_4.toInt = 1 ∧ (0 : Int) ≤ x2.toInt ∧ x2.toInt ≤ (24 : Int)) ∨ (r_4.toInt = 0 ∧ (x2.toInt < (0 : Int) ∨ (24 : Int) < x2.toInt)) := q_5
    refine ok_ite (fun c_6 => ?_) (fun c_6 => ?_)
    · skip
      have c_6 : r_4.toInt = (0 : Int) := i_eq.mp c_6
      replace q_5 : (x2.toInt < (0 : Int) ∨ (24 : Int) < x2.toInt) := by omega
      exact ok_some trivial
    · skip
      have c_6 : ¬ r_4.toInt = (0 : Int) := fun z => c_6 (i_eq.mpr z)
      replace q_5 : (0 : Int) ≤ x2.toInt ∧ x2.toInt ≤ (24 : Int) := by omega
      refine ok_bd1 (s_X6_within x3 0 1) (fun r_7 q_8 => ?_)
      replace q_8 : (r_7.toInt = 1 ∧ (0 : Int) ≤ x3.toInt ∧ x3.toInt ≤ (1 : Int)) ∨ (r_7.toInt = 0 ∧ (x3.toInt < (0 : Int) ∨ (1 : Int) < x3.toInt)) := q_8
      refine ok_ite (fun c_9 => ?_) (fun c_9 => ?_)
      · skip
        have c_9 : r_7.toInt = (0 : Int) := i_eq.mp c_9
        replace q_8 : (x3.toInt < (0 : Int) ∨ (1 : Int) < x3.toInt) := by omega
        exact ok_some trivial
      · skip
        have c_9 : ¬ r_7.toInt = (0 : Int) := fun z => c_9 (i_eq.mpr z)
        replace q_8 : (0 : Int) ≤ x3.toInt ∧ x3.toInt ≤ (1 : Int) := by omega
        refine ok_bd1 (s_X1_behind x1 x2 x3 told_settings told_currents (show 0 ≤ (x1).toInt by omega) (show (x1).toInt ≤ 99 by omega)) (fun r_10 q_11 => ?_)
        obtain ⟨q_11_0, q_11_1⟩ : (0 ≤ r_10.toInt) ∧ (r_10.toInt ≤ 99) := q_11
        exact ok_some trivial
set_option maxRecDepth 100000 in
set_option maxHeartbeats 4000000 in
theorem s_X6_fits (x1 : Int32) (x2 : Int32) (told_pieceCount : Int32) (told_settings : Nat → Int32) (told_currents : Nat → Int32) (told_warmths : Nat → Int32) (told_pieceCells : Nat → Int32) (told_pieceMonths : Nat → Int32) (told_pieceHighs : Nat → Int32) (told_pieceAges : Nat → Int32) (told_pieceNeeds : Nat → Int32) (seas_known : Nat → Int32) (h0 : 0 ≤ (told_pieceCount).toInt) (h1 : (told_pieceCount).toInt ≤ 4) : okP (f_X6_fits x1 x2 told_pieceCount told_settings told_currents told_warmths told_pieceCells told_pieceMonths told_pieceHighs told_pieceAges told_pieceNeeds seas_known) (fun u => True) := by
  unfold f_X6_fits
  refine ok_bd1 (s_X6_isPiece x1 told_pieceCount) (fun r_1 q_2 => ?_)
  replace q_2 : (r_1.toInt = 1 ∧ 0 ≤ x1.toInt ∧ x1.toInt < told_pieceCount.toInt) ∨ (r_1.toInt = 0 ∧ (x1.toInt < 0 ∨ told_pieceCount.toInt ≤ x1.toInt)) := q_2
  refine ok_ite (fun c_3 => ?_) (fun c_3 => ?_)
  · skip
    have c_3 : r_1.toInt = (0 : Int) := i_eq.mp c_3
    replace q_2 : (x1.toInt < 0 ∨ told_pieceCount.toInt ≤ x1.toInt) := by omega
    exact ok_some trivial
  · skip
    have c_3 : ¬ r_1.toInt = (0 : Int) := fun z => c_3 (i_eq.mpr z)
    replace q_2 : 0 ≤ x1.toInt ∧ x1.toInt < told_pieceCount.toInt := by omega
    refine ok_bd1 (s_X6_isCell x2) (fun r_4 q_5 => ?_)
    replace q_5 : (r_4.toInt = 1 ∧ 0 ≤ x2.toInt ∧ x2.toInt < 100) ∨ (r_4.toInt = 0 ∧ (x2.toInt < 0 ∨ 100 ≤ x2.toInt)) := q_5
    refine ok_ite (fun c_6 => ?_) (fun c_6 => ?_)
    · skip
      have c_6 : r_4.toInt = (0 : Int) := i_eq.mp c_6
      replace q_5 : (x2.toInt < 0 ∨ 100 ≤ x2.toInt) := by omega
      exact ok_some trivial
    · skip
      have c_6 : ¬ r_4.toInt = (0 : Int) := fun z => c_6 (i_eq.mpr z)
      replace q_5 : 0 ≤ x2.toInt ∧ x2.toInt < 100 := by omega
      refine ok_bd2 (s_X1_fit x1 x2 seas_known told_settings told_currents told_warmths told_pieceCells told_pieceMonths told_pieceHighs told_pieceAges told_pieceNeeds (show 0 ≤ (x1).toInt by omega) (show (x1).toInt ≤ 3 by omega) (show 0 ≤ (x2).toInt by omega) (show (x2).toInt ≤ 99 by omega)) (fun r_7 w_8 q_9 => ?_)
      exact ok_some trivial
set_option maxRecDepth 100000 in
set_option maxHeartbeats 4000000 in
theorem s_X6_drag (x1 : Int32) (x2 : Int32) (o_endsAreOld : Int32) (told_dragCount : Int32) (told_dragCells : Nat → Int32) (told_dragEighths : Nat → Int32) (h0 : 0 ≤ (told_dragCount).toInt) (h1 : (told_dragCount).toInt ≤ 4) : okP (f_X6_drag x1 x2 o_endsAreOld told_dragCount told_dragCells told_dragEighths) (fun u => (0 ≤ u.2.2.1.toInt) ∧ (u.2.2.1.toInt ≤ 4) ∧ ((¬ (0 ≤ x1.toInt ∧ x1.toInt < 100 ∧ 1 ≤ x2.toInt ∧ x2.toInt ≤ 7) ∧ u.1.toInt = -1 ∧ u.2.2.1.toInt = told_dragCount.toInt) ∨ ((0 ≤ x1.toInt ∧ x1.toInt < 100 ∧ 1 ≤ x2.toInt ∧ x2.toInt ≤ 7) ∧ 4 ≤ told_dragCount.toInt ∧ u.1.toInt = -3 ∧ u.2.2.1.toInt = told_dragCount.toInt) ∨ ((0 ≤ x1.toInt ∧ x1.toInt < 100 ∧ 1 ≤ x2.toInt ∧ x2.toInt ≤ 7) ∧ told_dragCount.toInt < 4 ∧ u.1.toInt = told_dragCount.toInt ∧ u.2.2.1.toInt = told_dragCount.toInt + 1))) := by
  unfold f_X6_drag
  refine ok_bd1 (s_X6_isCell x1) (fun r_1 q_2 => ?_)
  replace q_2 : (r_1.toInt = 1 ∧ 0 ≤ x1.toInt ∧ x1.toInt < 100) ∨ (r_1.toInt = 0 ∧ (x1.toInt < 0 ∨ 100 ≤ x1.toInt)) := q_2
  refine ok_ite (fun c_3 => ?_) (fun c_3 => ?_)
  · skip
    have c_3 : r_1.toInt = (0 : Int) := i_eq.mp c_3
    replace q_2 : (x1.toInt < 0 ∨ 100 ≤ x1.toInt) := by omega
    exact ok_some (show (0 ≤ told_dragCount.toInt) ∧ (told_dragCount.toInt ≤ 4) ∧ ((¬ (0 ≤ x1.toInt ∧ x1.toInt < 100 ∧ 1 ≤ x2.toInt ∧ x2.toInt ≤ 7) ∧ (-1 : Int) = -1 ∧ told_dragCount.toInt = told_dragCount.toInt) ∨ ((0 ≤ x1.toInt ∧ x1.toInt < 100 ∧ 1 ≤ x2.toInt ∧ x2.toInt ≤ 7) ∧ 4 ≤ told_dragCount.toInt ∧ (-1 : Int) = -3 ∧ told_dragCount.toInt = told_dragCount.toInt) ∨ ((0 ≤ x1.toInt ∧ x1.toInt < 100 ∧ 1 ≤ x2.toInt ∧ x2.toInt ≤ 7) ∧ told_dragCount.toInt < 4 ∧ (-1 : Int) = told_dragCount.toInt ∧ told_dragCount.toInt = told_dragCount.toInt + 1)) from ⟨by omega, by omega, by omega⟩)
  · skip
    have c_3 : ¬ r_1.toInt = (0 : Int) := fun z => c_3 (i_eq.mpr z)
    replace q_2 : 0 ≤ x1.toInt ∧ x1.toInt < 100 := by omega
    refine ok_bd1 (s_X6_within x2 1 7) (fun r_4 q_5 => ?_)
    replace q_5 : (r_4.toInt = 1 ∧ (1 : Int) ≤ x2.toInt ∧ x2.toInt ≤ (7 : Int)) ∨ (r_4.toInt = 0 ∧ (x2.toInt < (1 : Int) ∨ (7 : Int) < x2.toInt)) := q_5
    refine ok_ite (fun c_6 => ?_) (fun c_6 => ?_)
    · skip
      have c_6 : r_4.toInt = (0 : Int) := i_eq.mp c_6
      replace q_5 : (x2.toInt < (1 : Int) ∨ (7 : Int) < x2.toInt) := by omega
      exact ok_some (show (0 ≤ told_dragCount.toInt) ∧ (told_dragCount.toInt ≤ 4) ∧ ((¬ (0 ≤ x1.toInt ∧ x1.toInt < 100 ∧ 1 ≤ x2.toInt ∧ x2.toInt ≤ 7) ∧ (-1 : Int) = -1 ∧ told_dragCount.toInt = told_dragCount.toInt) ∨ ((0 ≤ x1.toInt ∧ x1.toInt < 100 ∧ 1 ≤ x2.toInt ∧ x2.toInt ≤ 7) ∧ 4 ≤ told_dragCount.toInt ∧ (-1 : Int) = -3 ∧ told_dragCount.toInt = told_dragCount.toInt) ∨ ((0 ≤ x1.toInt ∧ x1.toInt < 100 ∧ 1 ≤ x2.toInt ∧ x2.toInt ≤ 7) ∧ told_dragCount.toInt < 4 ∧ (-1 : Int) = told_dragCount.toInt ∧ told_dragCount.toInt = told_dragCount.toInt + 1)) from ⟨by omega, by omega, by omega⟩)
    · skip
      have c_6 : ¬ r_4.toInt = (0 : Int) := fun z => c_6 (i_eq.mpr z)
      replace q_5 : (1 : Int) ≤ x2.toInt ∧ x2.toInt ≤ (7 : Int) := by omega
      refine ok_ite (fun c_7 => ?_) (fun c_7 => ?_)
      · skip
        have c_7 : told_dragCount.toInt < (4 : Int) := i_lt.mp c_7
        have ix_8 : ¬ (told_dragCount < 0 ∨ 4 ≤ told_dragCount.toNatClampNeg) := ix (show 0 ≤ told_dragCount.toInt by omega) (show told_dragCount.toInt < (4 : Nat) by omega)
        refine ok_chk ix_8 ?_
        refine ok_chk ix_8 ?_
        first | (have f_9 : (told_dragCount + 1).toInt = told_dragCount.toInt + (1 : Int) := i_add2 rfl rfl (by omega) (by omega)) | skip
        refine ok_nmi (fun x_10 hx_10 kx_10 => ?_)
        exact ok_some (show (0 ≤ x_10.toInt) ∧ (x_10.toInt ≤ 4) ∧ ((¬ (0 ≤ x1.toInt ∧ x1.toInt < 100 ∧ 1 ≤ x2.toInt ∧ x2.toInt ≤ 7) ∧ told_dragCount.toInt = -1 ∧ x_10.toInt = told_dragCount.toInt) ∨ ((0 ≤ x1.toInt ∧ x1.toInt < 100 ∧ 1 ≤ x2.toInt ∧ x2.toInt ≤ 7) ∧ 4 ≤ told_dragCount.toInt ∧ told_dragCount.toInt = -3 ∧ x_10.toInt = told_dragCount.toInt) ∨ ((0 ≤ x1.toInt ∧ x1.toInt < 100 ∧ 1 ≤ x2.toInt ∧ x2.toInt ≤ 7) ∧ told_dragCount.toInt < 4 ∧ told_dragCount.toInt = told_dragCount.toInt ∧ x_10.toInt = told_dragCount.toInt + 1)) from ⟨by omega, by omega, by omega⟩)
      · skip
        have c_7 : ¬ told_dragCount.toInt < (4 : Int) := fun z => c_7 (i_lt.mpr z)
        exact ok_some (show (0 ≤ told_dragCount.toInt) ∧ (told_dragCount.toInt ≤ 4) ∧ ((¬ (0 ≤ x1.toInt ∧ x1.toInt < 100 ∧ 1 ≤ x2.toInt ∧ x2.toInt ≤ 7) ∧ (-3 : Int) = -1 ∧ told_dragCount.toInt = told_dragCount.toInt) ∨ ((0 ≤ x1.toInt ∧ x1.toInt < 100 ∧ 1 ≤ x2.toInt ∧ x2.toInt ≤ 7) ∧ 4 ≤ told_dragCount.toInt ∧ (-3 : Int) = -3 ∧ told_dragCount.toInt = told_dragCount.toInt) ∨ ((0 ≤ x1.toInt ∧ x1.toInt < 100 ∧ 1 ≤ x2.toInt ∧ x2.toInt ≤ 7) ∧ told_dragCount.toInt < 4 ∧ (-3 : Int) = told_dragCount.toInt ∧ told_dragCount.toInt = told_dragCount.toInt + 1)) from ⟨by omega, by omega, by omega⟩)
set_option maxRecDepth 100000 in
set_option maxHeartbeats 4000000 in
theorem s_X6_odds (x1 : Int32) (x2 : Int32) (o_walkIsOld : Int32) (o_endsAreOld : Int32) (told_pieceCount : Int32) (told_dragCount : Int32) (told_settings : Nat → Int32) (told_howFar : Nat → Int32) (told_tones : Nat → Int32) (told_currents : Nat → Int32) (told_warmths : Nat → Int32) (told_fars : Nat → Int32) (told_pieceCells : Nat → Int32) (told_pieceMonths : Nat → Int32) (told_pieceHighs : Nat → Int32) (told_pieceAges : Nat → Int32) (told_pieceNeeds : Nat → Int32) (told_dragCells : Nat → Int32) (told_dragEighths : Nat → Int32) (walk_last : Int32) (walk_turnsLet : Int32) (walk_slowsLet : Int32) (walk_fuel : Int32) (walk_glide : Int32) (walk_count : Int32) (walk_weightSum : Int64) (walk_toPass : Int32) (walk_foundNumber : Int32) (walk_foundWeight : Int32) (walk_foundTurns : Int32) (walk_foundSlowed : Int32) (walk_howFar : Nat → Int32) (walk_tones : Nat → Int32) (walk_only : Nat → Int32) (walk_fars : Nat → Int32) (walk_cellAt : Nat → Int32) (walk_ends : Nat → Int64) (walk_seen : Nat → Int32) (walk_begun : Nat → Int32) (seas_known : Nat → Int32) (ends_total : Int64) (ends_sums : Nat → Int64) (h0 : SetOK told_settings) (h1 : 0 ≤ (walk_glide).toInt) (h2 : (walk_glide).toInt ≤ 3) (h3 : 0 ≤ (told_pieceCount).toInt) (h4 : (told_pieceCount).toInt ≤ 4) : okP (f_X6_odds x1 x2 o_walkIsOld o_endsAreOld told_pieceCount told_dragCount told_settings told_howFar told_tones told_currents told_warmths told_fars told_pieceCells told_pieceMonths told_pieceHighs told_pieceAges told_pieceNeeds told_dragCells told_dragEighths walk_last walk_turnsLet walk_slowsLet walk_fuel walk_glide walk_count walk_weightSum walk_toPass walk_foundNumber walk_foundWeight walk_foundTurns walk_foundSlowed walk_howFar walk_tones walk_only walk_fars walk_cellAt walk_ends walk_seen walk_begun seas_known ends_total ends_sums) (fun u => (0 ≤ u.2.2.2.2.2.2.2.1.toInt) ∧ (u.2.2.2.2.2.2.2.1.toInt ≤ 3)) := by
  obtain ⟨s0a, s0b, s1a, s1b, s2a, s2b, s3a, s3b, s4a, s4b, s5a, s5b, s6a, s6b, s7a, s7b⟩ := id h0
  unfold f_X6_odds
  refine ok_bd1 (s_X6_isCell x1) (fun r_1 q_2 => ?_)
  replace q_2 : (r_1.toInt = 1 ∧ 0 ≤ x1.toInt ∧ x1.toInt < 100) ∨ (r_1.toInt = 0 ∧ (x1.toInt < 0 ∨ 100 ≤ x1.toInt)) := q_2
  refine ok_ite (fun c_3 => ?_) (fun c_3 => ?_)
  · skip
    have c_3 : r_1.toInt = (0 : Int) := i_eq.mp c_3
    replace q_2 : (x1.toInt < 0 ∨ 100 ≤ x1.toInt) := by omega
    exact ok_some (show (0 ≤ walk_glide.toInt) ∧ (walk_glide.toInt ≤ 3) from ⟨by omega, by omega⟩)
  · skip
    have c_3 : ¬ r_1.toInt = (0 : Int) := fun z => c_3 (i_eq.mpr z)
    replace q_2 : 0 ≤ x1.toInt ∧ x1.toInt < 100 := by omega
    refine ok_bd1 (s_X6_within x2 0 1) (fun r_4 q_5 => ?_)
    replace q_5 : (r_4.toInt = 1 ∧ (0 : Int) ≤ x2.toInt ∧ x2.toInt ≤ (1 : Int)) ∨ (r_4.toInt = 0 ∧ (x2.toInt < (0 : Int) ∨ (1 : Int) < x2.toInt)) := q_5
    refine ok_ite (fun c_6 => ?_) (fun c_6 => ?_)
    · skip
      have c_6 : r_4.toInt = (0 : Int) := i_eq.mp c_6
      replace q_5 : (x2.toInt < (0 : Int) ∨ (1 : Int) < x2.toInt) := by omega
      exact ok_some (show (0 ≤ walk_glide.toInt) ∧ (walk_glide.toInt ≤ 3) from ⟨by omega, by omega⟩)
    · skip
      have c_6 : ¬ r_4.toInt = (0 : Int) := fun z => c_6 (i_eq.mpr z)
      replace q_5 : (0 : Int) ≤ x2.toInt ∧ x2.toInt ≤ (1 : Int) := by omega
      refine ok_bd25 (s_X6_weighed o_walkIsOld o_endsAreOld told_pieceCount told_dragCount told_settings told_howFar told_tones told_currents told_warmths told_fars told_pieceCells told_pieceMonths told_pieceHighs told_pieceAges told_pieceNeeds told_dragCells told_dragEighths walk_last walk_turnsLet walk_slowsLet walk_fuel walk_glide walk_count walk_weightSum walk_toPass walk_foundNumber walk_foundWeight walk_foundTurns walk_foundSlowed walk_howFar walk_tones walk_only walk_fars walk_cellAt walk_ends walk_seen walk_begun seas_known ends_total ends_sums (by first | with_reducible assumption | with_reducible rfl | omega) (show 0 ≤ (walk_glide).toInt by omega) (show (walk_glide).toInt ≤ 3 by omega) (show 0 ≤ (told_pieceCount).toInt by omega) (show (told_pieceCount).toInt ≤ 4 by omega)) (fun w_7 w_8 w_9 w_10 w_11 w_12 w_13 w_14 w_15 w_16 w_17 w_18 w_19 w_20 w_21 w_22 w_23 w_24 w_25 w_26 w_27 w_28 w_29 w_30 w_31 q_32 => ?_)
      obtain ⟨q_32_0, q_32_1⟩ : (0 ≤ w_13.toInt) ∧ (w_13.toInt ≤ 3) := q_32
      have ix_33 : ¬ (x1 < 0 ∨ 100 ≤ x1.toNatClampNeg) := ix (show 0 ≤ x1.toInt by omega) (show x1.toInt < (100 : Nat) by omega)
      refine ok_chk ix_33 ?_
      refine ok_bd1 (s_X6_partOf (w_31 x1.toNatClampNeg) w_30 x2) (fun r_34 q_35 => ?_)
      exact ok_some (show (0 ≤ w_13.toInt) ∧ (w_13.toInt ≤ 3) from ⟨by omega, by omega⟩)
set_option maxRecDepth 100000 in
set_option maxHeartbeats 4000000 in
theorem s_X6_where (x1 : Int32) (o_walkIsOld : Int32) (o_endsAreOld : Int32) (told_pieceCount : Int32) (told_dragCount : Int32) (told_settings : Nat → Int32) (told_howFar : Nat → Int32) (told_tones : Nat → Int32) (told_currents : Nat → Int32) (told_warmths : Nat → Int32) (told_fars : Nat → Int32) (told_pieceCells : Nat → Int32) (told_pieceMonths : Nat → Int32) (told_pieceHighs : Nat → Int32) (told_pieceAges : Nat → Int32) (told_pieceNeeds : Nat → Int32) (told_dragCells : Nat → Int32) (told_dragEighths : Nat → Int32) (walk_last : Int32) (walk_turnsLet : Int32) (walk_slowsLet : Int32) (walk_fuel : Int32) (walk_glide : Int32) (walk_count : Int32) (walk_weightSum : Int64) (walk_toPass : Int32) (walk_foundNumber : Int32) (walk_foundWeight : Int32) (walk_foundTurns : Int32) (walk_foundSlowed : Int32) (walk_howFar : Nat → Int32) (walk_tones : Nat → Int32) (walk_only : Nat → Int32) (walk_fars : Nat → Int32) (walk_cellAt : Nat → Int32) (walk_ends : Nat → Int64) (walk_seen : Nat → Int32) (walk_begun : Nat → Int32) (seas_known : Nat → Int32) (ends_total : Int64) (ends_sums : Nat → Int64) (h0 : SetOK told_settings) (h1 : 0 ≤ (walk_glide).toInt) (h2 : (walk_glide).toInt ≤ 3) (h3 : 0 ≤ (told_pieceCount).toInt) (h4 : (told_pieceCount).toInt ≤ 4) : okP (f_X6_where x1 o_walkIsOld o_endsAreOld told_pieceCount told_dragCount told_settings told_howFar told_tones told_currents told_warmths told_fars told_pieceCells told_pieceMonths told_pieceHighs told_pieceAges told_pieceNeeds told_dragCells told_dragEighths walk_last walk_turnsLet walk_slowsLet walk_fuel walk_glide walk_count walk_weightSum walk_toPass walk_foundNumber walk_foundWeight walk_foundTurns walk_foundSlowed walk_howFar walk_tones walk_only walk_fars walk_cellAt walk_ends walk_seen walk_begun seas_known ends_total ends_sums) (fun u => (0 ≤ u.2.2.2.2.2.2.2.1.toInt) ∧ (u.2.2.2.2.2.2.2.1.toInt ≤ 3)) := by
  obtain ⟨s0a, s0b, s1a, s1b, s2a, s2b, s3a, s3b, s4a, s4b, s5a, s5b, s6a, s6b, s7a, s7b⟩ := id h0
  have l25 : ∀ (n : Nat) (v1 : Int32) (v3 : Int32) (v4 : Int32) (o_walkIsOld : Int32) (o_endsAreOld : Int32) (walk_last : Int32) (walk_turnsLet : Int32) (walk_slowsLet : Int32) (walk_fuel : Int32) (walk_glide : Int32) (walk_count : Int32) (walk_weightSum : Int64) (walk_toPass : Int32) (walk_foundNumber : Int32) (walk_foundWeight : Int32) (walk_foundTurns : Int32) (walk_foundSlowed : Int32) (walk_howFar : Nat → Int32) (walk_tones : Nat → Int32) (walk_only : Nat → Int32) (walk_fars : Nat → Int32) (walk_cellAt : Nat → Int32) (walk_ends : Nat → Int64) (walk_seen : Nat → Int32) (walk_begun : Nat → Int32) (seas_known : Nat → Int32) (ends_total : Int64) (ends_sums : Nat → Int64), (10 - v4.toInt).toNat < n → (0 ≤ (v1).toInt) → ((v1).toInt ≤ 9) → (0 ≤ (v4).toInt) → ((v4).toInt ≤ 10) → (0 ≤ (walk_glide).toInt) → ((walk_glide).toInt ≤ 3) → okP (f_X6_where_L25 n v1 v3 v4 o_walkIsOld o_endsAreOld told_pieceCount told_dragCount told_settings told_howFar told_tones told_currents told_warmths told_fars told_pieceCells told_pieceMonths told_pieceHighs told_pieceAges told_pieceNeeds told_dragCells told_dragEighths walk_last walk_turnsLet walk_slowsLet walk_fuel walk_glide walk_count walk_weightSum walk_toPass walk_foundNumber walk_foundWeight walk_foundTurns walk_foundSlowed walk_howFar walk_tones walk_only walk_fars walk_cellAt walk_ends walk_seen walk_begun seas_known ends_total ends_sums) (fun u => (0 ≤ u.2.2.2.2.2.2.2.1.toInt) ∧ (u.2.2.2.2.2.2.2.1.toInt ≤ 3)) := by
    intro n
    induction n with
    | zero =>
      intro v1 v3 v4 o_walkIsOld o_endsAreOld walk_last walk_turnsLet walk_slowsLet walk_fuel walk_glide walk_count walk_weightSum walk_toPass walk_foundNumber walk_foundWeight walk_foundTurns walk_foundSlowed walk_howFar walk_tones walk_only walk_fars walk_cellAt walk_ends walk_seen walk_begun seas_known ends_total ends_sums hm
      exact absurd hm (Nat.not_lt_zero _)
    | succ n25 ih25 =>
      intro v1 v3 v4 o_walkIsOld o_endsAreOld walk_last walk_turnsLet walk_slowsLet walk_fuel walk_glide walk_count walk_weightSum walk_toPass walk_foundNumber walk_foundWeight walk_foundTurns walk_foundSlowed walk_howFar walk_tones walk_only walk_fars walk_cellAt walk_ends walk_seen walk_begun seas_known ends_total ends_sums hm25 g25_0 g25_1 g25_2 g25_3 g25_4 g25_5
      show okP (f_X6_where_L25b (f_X6_where_L25 n25) v1 v3 v4 o_walkIsOld o_endsAreOld told_pieceCount told_dragCount told_settings told_howFar told_tones told_currents told_warmths told_fars told_pieceCells told_pieceMonths told_pieceHighs told_pieceAges told_pieceNeeds told_dragCells told_dragEighths walk_last walk_turnsLet walk_slowsLet walk_fuel walk_glide walk_count walk_weightSum walk_toPass walk_foundNumber walk_foundWeight walk_foundTurns walk_foundSlowed walk_howFar walk_tones walk_only walk_fars walk_cellAt walk_ends walk_seen walk_begun seas_known ends_total ends_sums) (fun u => (0 ≤ u.2.2.2.2.2.2.2.1.toInt) ∧ (u.2.2.2.2.2.2.2.1.toInt ≤ 3))
      unfold f_X6_where_L25b
      refine ok_ite (fun c_1 => ?_) (fun c_1 => ?_)
      · skip
        have c_1 : (10 : Int) ≤ v4.toInt := i_le.mp c_1
        exact ok_some (show (0 ≤ walk_glide.toInt) ∧ (walk_glide.toInt ≤ 3) from ⟨by omega, by omega⟩)
      · skip
        have c_1 : ¬ (10 : Int) ≤ v4.toInt := fun z => c_1 (i_le.mpr z)
        first | (have f_2 : (10 * v1).toInt = (10 : Int) * v1.toInt := i_mul2 rfl rfl (by omega) (by omega)) | skip
        first | (have f_3 : ((10 * v1) + v4).toInt = (10 * v1).toInt + v4.toInt := i_add2 rfl rfl (by omega) (by omega)) | skip
        have ix_4 : ¬ (((10 * v1) + v4) < 0 ∨ 100 ≤ ((10 * v1) + v4).toNatClampNeg) := ix (show 0 ≤ ((10 * v1) + v4).toInt by omega) (show ((10 * v1) + v4).toInt < (100 : Nat) by omega)
        refine ok_chk ix_4 ?_
        refine ok_ite (fun c_5 => ?_) (fun c_5 => ?_)
        · skip
          have c_5 : (ends_sums ((10 * v1) + v4).toNatClampNeg).toInt ≤ (0 : Int) := j_le.mp ((lg_cmp_le _ _).mp c_5)
          unfold f_X6_where_B53
          first | (have f_6 : (v4 + 1).toInt = v4.toInt + (1 : Int) := i_add2 rfl rfl (by omega) (by omega)) | skip
          refine ok_nmi (fun x_7 hx_7 kx_7 => ?_)
          exact ih25 v1 v3 x_7 o_walkIsOld o_endsAreOld walk_last walk_turnsLet walk_slowsLet walk_fuel walk_glide walk_count walk_weightSum walk_toPass walk_foundNumber walk_foundWeight walk_foundTurns walk_foundSlowed walk_howFar walk_tones walk_only walk_fars walk_cellAt walk_ends walk_seen walk_begun seas_known ends_total ends_sums (show (10 - x_7.toInt).toNat < n25 by omega) (show 0 ≤ (v1).toInt by omega) (show (v1).toInt ≤ 9 by omega) (show 0 ≤ (x_7).toInt by omega) (show (x_7).toInt ≤ 10 by omega) (show 0 ≤ (walk_glide).toInt by omega) (show (walk_glide).toInt ≤ 3 by omega)
        · skip
          have c_5 : ¬ (ends_sums ((10 * v1) + v4).toNatClampNeg).toInt ≤ (0 : Int) := fun z => c_5 ((lg_cmp_le _ _).mpr (j_le.mpr z))
          first | (have o_8 : (v3 ||| (1 <<< (v4 &&& 31))).toInt = 0 ∨ (v3 ||| (1 <<< (v4 &&& 31))).toInt = 1 := or01 (show v3.toInt = 0 ∨ v3.toInt = 1 by omega) (show (1 <<< (v4 &&& 31)).toInt = 0 ∨ (1 <<< (v4 &&& 31)).toInt = 1 by omega)) | skip
          refine ok_nmx (fun x_9 hx_9 => ?_)
          unfold f_X6_where_B53
          first | (have f_10 : (v4 + 1).toInt = v4.toInt + (1 : Int) := i_add2 rfl rfl (by omega) (by omega)) | skip
          refine ok_nmi (fun x_11 hx_11 kx_11 => ?_)
          exact ih25 v1 x_9 x_11 o_walkIsOld o_endsAreOld walk_last walk_turnsLet walk_slowsLet walk_fuel walk_glide walk_count walk_weightSum walk_toPass walk_foundNumber walk_foundWeight walk_foundTurns walk_foundSlowed walk_howFar walk_tones walk_only walk_fars walk_cellAt walk_ends walk_seen walk_begun seas_known ends_total ends_sums (show (10 - x_11.toInt).toNat < n25 by omega) (show 0 ≤ (v1).toInt by omega) (show (v1).toInt ≤ 9 by omega) (show 0 ≤ (x_11).toInt by omega) (show (x_11).toInt ≤ 10 by omega) (show 0 ≤ (walk_glide).toInt by omega) (show (walk_glide).toInt ≤ 3 by omega)
  unfold f_X6_where
  refine ok_bd1 (s_X6_within x1 0 9) (fun r_12 q_13 => ?_)
  replace q_13 : (r_12.toInt = 1 ∧ (0 : Int) ≤ x1.toInt ∧ x1.toInt ≤ (9 : Int)) ∨ (r_12.toInt = 0 ∧ (x1.toInt < (0 : Int) ∨ (9 : Int) < x1.toInt)) := q_13
  refine ok_ite (fun c_14 => ?_) (fun c_14 => ?_)
  · skip
    have c_14 : r_12.toInt = (0 : Int) := i_eq.mp c_14
    replace q_13 : (x1.toInt < (0 : Int) ∨ (9 : Int) < x1.toInt) := by omega
    exact ok_some (show (0 ≤ walk_glide.toInt) ∧ (walk_glide.toInt ≤ 3) from ⟨by omega, by omega⟩)
  · skip
    have c_14 : ¬ r_12.toInt = (0 : Int) := fun z => c_14 (i_eq.mpr z)
    replace q_13 : (0 : Int) ≤ x1.toInt ∧ x1.toInt ≤ (9 : Int) := by omega
    refine ok_bd25 (s_X6_weighed o_walkIsOld o_endsAreOld told_pieceCount told_dragCount told_settings told_howFar told_tones told_currents told_warmths told_fars told_pieceCells told_pieceMonths told_pieceHighs told_pieceAges told_pieceNeeds told_dragCells told_dragEighths walk_last walk_turnsLet walk_slowsLet walk_fuel walk_glide walk_count walk_weightSum walk_toPass walk_foundNumber walk_foundWeight walk_foundTurns walk_foundSlowed walk_howFar walk_tones walk_only walk_fars walk_cellAt walk_ends walk_seen walk_begun seas_known ends_total ends_sums (by first | with_reducible assumption | with_reducible rfl | omega) (show 0 ≤ (walk_glide).toInt by omega) (show (walk_glide).toInt ≤ 3 by omega) (show 0 ≤ (told_pieceCount).toInt by omega) (show (told_pieceCount).toInt ≤ 4 by omega)) (fun w_15 w_16 w_17 w_18 w_19 w_20 w_21 w_22 w_23 w_24 w_25 w_26 w_27 w_28 w_29 w_30 w_31 w_32 w_33 w_34 w_35 w_36 w_37 w_38 w_39 q_40 => ?_)
    obtain ⟨q_40_0, q_40_1⟩ : (0 ≤ w_21.toInt) ∧ (w_21.toInt ≤ 3) := q_40
    exact l25 FU x1 0 0 w_15 w_16 w_17 w_18 w_19 w_20 w_21 w_22 w_23 w_24 w_25 w_26 w_27 w_28 w_29 w_30 w_31 w_32 w_33 w_34 w_35 w_36 w_37 w_38 w_39 (FU_gt (show (10 - (0 : Int)).toNat < 1000000000000 by omega)) (show 0 ≤ (x1).toInt by omega) (show (x1).toInt ≤ 9 by omega) (show 0 ≤ (0 : Int) by omega) (show (0 : Int) ≤ 10 by omega) (show 0 ≤ (w_21).toInt by omega) (show (w_21).toInt ≤ 3 by omega)
set_option maxRecDepth 100000 in
set_option maxHeartbeats 4000000 in
theorem s_X6_count (x1 : Int32) (o_walkIsOld : Int32) (o_endsAreOld : Int32) (told_pieceCount : Int32) (told_dragCount : Int32) (told_settings : Nat → Int32) (told_howFar : Nat → Int32) (told_tones : Nat → Int32) (told_currents : Nat → Int32) (told_warmths : Nat → Int32) (told_fars : Nat → Int32) (told_pieceCells : Nat → Int32) (told_pieceMonths : Nat → Int32) (told_pieceHighs : Nat → Int32) (told_pieceAges : Nat → Int32) (told_pieceNeeds : Nat → Int32) (told_dragCells : Nat → Int32) (told_dragEighths : Nat → Int32) (walk_last : Int32) (walk_turnsLet : Int32) (walk_slowsLet : Int32) (walk_fuel : Int32) (walk_glide : Int32) (walk_count : Int32) (walk_weightSum : Int64) (walk_toPass : Int32) (walk_foundNumber : Int32) (walk_foundWeight : Int32) (walk_foundTurns : Int32) (walk_foundSlowed : Int32) (walk_howFar : Nat → Int32) (walk_tones : Nat → Int32) (walk_only : Nat → Int32) (walk_fars : Nat → Int32) (walk_cellAt : Nat → Int32) (walk_ends : Nat → Int64) (walk_seen : Nat → Int32) (walk_begun : Nat → Int32) (seas_known : Nat → Int32) (ends_total : Int64) (ends_sums : Nat → Int64) (h0 : SetOK told_settings) (h1 : 0 ≤ (walk_glide).toInt) (h2 : (walk_glide).toInt ≤ 3) (h3 : 0 ≤ (told_pieceCount).toInt) (h4 : (told_pieceCount).toInt ≤ 4) : okP (f_X6_count x1 o_walkIsOld o_endsAreOld told_pieceCount told_dragCount told_settings told_howFar told_tones told_currents told_warmths told_fars told_pieceCells told_pieceMonths told_pieceHighs told_pieceAges told_pieceNeeds told_dragCells told_dragEighths walk_last walk_turnsLet walk_slowsLet walk_fuel walk_glide walk_count walk_weightSum walk_toPass walk_foundNumber walk_foundWeight walk_foundTurns walk_foundSlowed walk_howFar walk_tones walk_only walk_fars walk_cellAt walk_ends walk_seen walk_begun seas_known ends_total ends_sums) (fun u => (0 ≤ u.2.2.2.2.2.2.2.1.toInt) ∧ (u.2.2.2.2.2.2.2.1.toInt ≤ 3)) := by
  obtain ⟨s0a, s0b, s1a, s1b, s2a, s2b, s3a, s3b, s4a, s4b, s5a, s5b, s6a, s6b, s7a, s7b⟩ := id h0
  unfold f_X6_count
  refine ok_ite (fun c_1 => ?_) (fun c_1 => ?_)
  · skip
    have c_1 : x1.toInt = (0 : Int) := i_eq.mp c_1
    refine ok_bd1 (s_X6_howManyAbove 7 (-1) told_howFar (show 7 < 1000 by omega)) (fun r_2 q_3 => ?_)
    exact ok_some (show (0 ≤ walk_glide.toInt) ∧ (walk_glide.toInt ≤ 3) from ⟨by omega, by omega⟩)
  have c_1 : ¬ x1.toInt = (0 : Int) := fun z => c_1 (i_eq.mpr z)
  refine ok_ite (fun c_4 => ?_) (fun c_4 => ?_)
  · skip
    have c_4 : x1.toInt = (1 : Int) := i_eq.mp c_4
    refine ok_bd1 (s_X6_howManyAbove 7 0 told_tones (show 7 < 1000 by omega)) (fun r_5 q_6 => ?_)
    exact ok_some (show (0 ≤ walk_glide.toInt) ∧ (walk_glide.toInt ≤ 3) from ⟨by omega, by omega⟩)
  have c_4 : ¬ x1.toInt = (1 : Int) := fun z => c_4 (i_eq.mpr z)
  refine ok_ite (fun c_7 => ?_) (fun c_7 => ?_)
  · skip
    have c_7 : x1.toInt = (2 : Int) := i_eq.mp c_7
    exact ok_some (show (0 ≤ walk_glide.toInt) ∧ (walk_glide.toInt ≤ 3) from ⟨by omega, by omega⟩)
  have c_7 : ¬ x1.toInt = (2 : Int) := fun z => c_7 (i_eq.mpr z)
  refine ok_ite (fun c_8 => ?_) (fun c_8 => ?_)
  · skip
    have c_8 : x1.toInt = (3 : Int) := i_eq.mp c_8
    exact ok_some (show (0 ≤ walk_glide.toInt) ∧ (walk_glide.toInt ≤ 3) from ⟨by omega, by omega⟩)
  have c_8 : ¬ x1.toInt = (3 : Int) := fun z => c_8 (i_eq.mpr z)
  refine ok_ite (fun c_9 => ?_) (fun c_9 => ?_)
  · skip
    have c_9 : x1.toInt = (4 : Int) := i_eq.mp c_9
    refine ok_bd25 (s_X6_weighed o_walkIsOld o_endsAreOld told_pieceCount told_dragCount told_settings told_howFar told_tones told_currents told_warmths told_fars told_pieceCells told_pieceMonths told_pieceHighs told_pieceAges told_pieceNeeds told_dragCells told_dragEighths walk_last walk_turnsLet walk_slowsLet walk_fuel walk_glide walk_count walk_weightSum walk_toPass walk_foundNumber walk_foundWeight walk_foundTurns walk_foundSlowed walk_howFar walk_tones walk_only walk_fars walk_cellAt walk_ends walk_seen walk_begun seas_known ends_total ends_sums (by first | with_reducible assumption | with_reducible rfl | omega) (show 0 ≤ (walk_glide).toInt by omega) (show (walk_glide).toInt ≤ 3 by omega) (show 0 ≤ (told_pieceCount).toInt by omega) (show (told_pieceCount).toInt ≤ 4 by omega)) (fun w_10 w_11 w_12 w_13 w_14 w_15 w_16 w_17 w_18 w_19 w_20 w_21 w_22 w_23 w_24 w_25 w_26 w_27 w_28 w_29 w_30 w_31 w_32 w_33 w_34 q_35 => ?_)
    obtain ⟨q_35_0, q_35_1⟩ : (0 ≤ w_16.toInt) ∧ (w_16.toInt ≤ 3) := q_35
    refine ok_bd1 (s_X6_howManyGreater 100 0 w_34 (show 100 < 1000 by omega)) (fun r_36 q_37 => ?_)
    exact ok_some (show (0 ≤ w_16.toInt) ∧ (w_16.toInt ≤ 3) from ⟨by omega, by omega⟩)
  have c_9 : ¬ x1.toInt = (4 : Int) := fun z => c_9 (i_eq.mpr z)
  exact ok_some (show (0 ≤ walk_glide.toInt) ∧ (walk_glide.toInt ≤ 3) from ⟨by omega, by omega⟩)
set_option maxRecDepth 100000 in
set_option maxHeartbeats 4000000 in
theorem s_X6_clear (o_endsAreOld : Int32) (told_pieceCount : Int32) (told_dragCount : Int32) (seas_known : Nat → Int32) (h0 : 0 ≤ (told_pieceCount).toInt) (h1 : (told_pieceCount).toInt ≤ 4) (h2 : 0 ≤ (told_dragCount).toInt) (h3 : (told_dragCount).toInt ≤ 4) : okP (f_X6_clear o_endsAreOld told_pieceCount told_dragCount seas_known) (fun u => (u.2.2.1.toInt = 0) ∧ (u.2.2.2.1.toInt = 0) ∧ (u.1.toInt = told_pieceCount.toInt + told_dragCount.toInt)) := by
  unfold f_X6_clear
  first | (have f_1 : (told_pieceCount + told_dragCount).toInt = told_pieceCount.toInt + told_dragCount.toInt := i_add2 rfl rfl (by omega) (by omega)) | skip
  refine ok_nmi (fun x_2 hx_2 kx_2 => ?_)
  refine ok_bd2 (s_X6_seaChanged o_endsAreOld seas_known) (fun w_3 w_4 q_5 => ?_)
  exact ok_some (show ((0 : Int) = 0) ∧ ((0 : Int) = 0) ∧ (x_2.toInt = told_pieceCount.toInt + told_dragCount.toInt) from ⟨by omega, by omega, by omega⟩)
set_option maxRecDepth 100000 in
set_option maxHeartbeats 4000000 in
theorem s_X6_moves (x1 : Int32) (o_walkIsOld : Int32) (o_endsAreOld : Int32) (told_pieceCount : Int32) (told_dragCount : Int32) (told_settings : Nat → Int32) (told_howFar : Nat → Int32) (told_tones : Nat → Int32) (told_currents : Nat → Int32) (told_warmths : Nat → Int32) (told_fars : Nat → Int32) (told_pieceCells : Nat → Int32) (told_pieceMonths : Nat → Int32) (told_pieceHighs : Nat → Int32) (told_pieceAges : Nat → Int32) (told_pieceNeeds : Nat → Int32) (told_dragCells : Nat → Int32) (told_dragEighths : Nat → Int32) (walk_last : Int32) (walk_turnsLet : Int32) (walk_slowsLet : Int32) (walk_fuel : Int32) (walk_glide : Int32) (walk_count : Int32) (walk_weightSum : Int64) (walk_toPass : Int32) (walk_foundNumber : Int32) (walk_foundWeight : Int32) (walk_foundTurns : Int32) (walk_foundSlowed : Int32) (walk_howFar : Nat → Int32) (walk_tones : Nat → Int32) (walk_only : Nat → Int32) (walk_fars : Nat → Int32) (walk_cellAt : Nat → Int32) (walk_ends : Nat → Int64) (walk_seen : Nat → Int32) (walk_begun : Nat → Int32) (trial_last : Int32) (trial_turnsLet : Int32) (trial_slowsLet : Int32) (trial_fuel : Int32) (trial_glide : Int32) (trial_count : Int32) (trial_weightSum : Int64) (trial_toPass : Int32) (trial_foundNumber : Int32) (trial_foundWeight : Int32) (trial_foundTurns : Int32) (trial_foundSlowed : Int32) (trial_howFar : Nat → Int32) (trial_tones : Nat → Int32) (trial_only : Nat → Int32) (trial_fars : Nat → Int32) (trial_cellAt : Nat → Int32) (trial_ends : Nat → Int64) (trial_seen : Nat → Int32) (trial_begun : Nat → Int32) (seas_known : Nat → Int32) (ends_total : Int64) (ends_sums : Nat → Int64) (otherEnds_total : Int64) (otherEnds_sums : Nat → Int64) (h0 : SetOK told_settings) (h1 : 0 ≤ (walk_glide).toInt) (h2 : (walk_glide).toInt ≤ 3) (h3 : 0 ≤ (told_pieceCount).toInt) (h4 : (told_pieceCount).toInt ≤ 4) : okP (f_X6_moves x1 o_walkIsOld o_endsAreOld told_pieceCount told_dragCount told_settings told_howFar told_tones told_currents told_warmths told_fars told_pieceCells told_pieceMonths told_pieceHighs told_pieceAges told_pieceNeeds told_dragCells told_dragEighths walk_last walk_turnsLet walk_slowsLet walk_fuel walk_glide walk_count walk_weightSum walk_toPass walk_foundNumber walk_foundWeight walk_foundTurns walk_foundSlowed walk_howFar walk_tones walk_only walk_fars walk_cellAt walk_ends walk_seen walk_begun trial_last trial_turnsLet trial_slowsLet trial_fuel trial_glide trial_count trial_weightSum trial_toPass trial_foundNumber trial_foundWeight trial_foundTurns trial_foundSlowed trial_howFar trial_tones trial_only trial_fars trial_cellAt trial_ends trial_seen trial_begun seas_known ends_total ends_sums otherEnds_total otherEnds_sums) (fun u => (0 ≤ u.2.2.2.2.2.2.2.1.toInt) ∧ (u.2.2.2.2.2.2.2.1.toInt ≤ 3)) := by
  obtain ⟨s0a, s0b, s1a, s1b, s2a, s2b, s3a, s3b, s4a, s4b, s5a, s5b, s6a, s6b, s7a, s7b⟩ := id h0
  unfold f_X6_moves
  refine ok_bd1 (s_X6_within x1 0 12) (fun r_1 q_2 => ?_)
  replace q_2 : (r_1.toInt = 1 ∧ (0 : Int) ≤ x1.toInt ∧ x1.toInt ≤ (12 : Int)) ∨ (r_1.toInt = 0 ∧ (x1.toInt < (0 : Int) ∨ (12 : Int) < x1.toInt)) := q_2
  refine ok_ite (fun c_3 => ?_) (fun c_3 => ?_)
  · skip
    have c_3 : r_1.toInt = (0 : Int) := i_eq.mp c_3
    replace q_2 : (x1.toInt < (0 : Int) ∨ (12 : Int) < x1.toInt) := by omega
    exact ok_some (show (0 ≤ walk_glide.toInt) ∧ (walk_glide.toInt ≤ 3) from ⟨by omega, by omega⟩)
  · skip
    have c_3 : ¬ r_1.toInt = (0 : Int) := fun z => c_3 (i_eq.mpr z)
    replace q_2 : (0 : Int) ≤ x1.toInt ∧ x1.toInt ≤ (12 : Int) := by omega
    refine ok_bd25 (s_X6_weighed o_walkIsOld o_endsAreOld told_pieceCount told_dragCount told_settings told_howFar told_tones told_currents told_warmths told_fars told_pieceCells told_pieceMonths told_pieceHighs told_pieceAges told_pieceNeeds told_dragCells told_dragEighths walk_last walk_turnsLet walk_slowsLet walk_fuel walk_glide walk_count walk_weightSum walk_toPass walk_foundNumber walk_foundWeight walk_foundTurns walk_foundSlowed walk_howFar walk_tones walk_only walk_fars walk_cellAt walk_ends walk_seen walk_begun seas_known ends_total ends_sums (by first | with_reducible assumption | with_reducible rfl | omega) (show 0 ≤ (walk_glide).toInt by omega) (show (walk_glide).toInt ≤ 3 by omega) (show 0 ≤ (told_pieceCount).toInt by omega) (show (told_pieceCount).toInt ≤ 4 by omega)) (fun w_4 w_5 w_6 w_7 w_8 w_9 w_10 w_11 w_12 w_13 w_14 w_15 w_16 w_17 w_18 w_19 w_20 w_21 w_22 w_23 w_24 w_25 w_26 w_27 w_28 q_29 => ?_)
    obtain ⟨q_29_0, q_29_1⟩ : (0 ≤ w_10.toInt) ∧ (w_10.toInt ≤ 3) := q_29
    refine ok_bd24 (s_X6_movedBy x1 told_pieceCount told_dragCount told_settings told_howFar told_tones told_currents told_warmths told_fars told_pieceCells told_pieceMonths told_pieceHighs told_pieceAges told_pieceNeeds told_dragCells told_dragEighths w_23 trial_last trial_turnsLet trial_slowsLet trial_fuel trial_glide trial_count trial_weightSum trial_toPass trial_foundNumber trial_foundWeight trial_foundTurns trial_foundSlowed trial_howFar trial_tones trial_only trial_fars trial_cellAt trial_ends trial_seen trial_begun w_26 otherEnds_total otherEnds_sums w_27 w_28 (by first | with_reducible assumption | with_reducible rfl | omega) (show 0 ≤ (told_pieceCount).toInt by omega) (show (told_pieceCount).toInt ≤ 4 by omega)) (fun r_30 w_31 w_32 w_33 w_34 w_35 w_36 w_37 w_38 w_39 w_40 w_41 w_42 w_43 w_44 w_45 w_46 w_47 w_48 w_49 w_50 w_51 w_52 w_53 q_54 => ?_)
    exact ok_some (show (0 ≤ w_10.toInt) ∧ (w_10.toInt ≤ 3) from ⟨by omega, by omega⟩)
set_option maxRecDepth 100000 in
set_option maxHeartbeats 4000000 in
theorem s_X6_most (o_walkIsOld : Int32) (o_endsAreOld : Int32) (told_pieceCount : Int32) (told_dragCount : Int32) (told_settings : Nat → Int32) (told_howFar : Nat → Int32) (told_tones : Nat → Int32) (told_currents : Nat → Int32) (told_warmths : Nat → Int32) (told_fars : Nat → Int32) (told_pieceCells : Nat → Int32) (told_pieceMonths : Nat → Int32) (told_pieceHighs : Nat → Int32) (told_pieceAges : Nat → Int32) (told_pieceNeeds : Nat → Int32) (told_dragCells : Nat → Int32) (told_dragEighths : Nat → Int32) (walk_last : Int32) (walk_turnsLet : Int32) (walk_slowsLet : Int32) (walk_fuel : Int32) (walk_glide : Int32) (walk_count : Int32) (walk_weightSum : Int64) (walk_toPass : Int32) (walk_foundNumber : Int32) (walk_foundWeight : Int32) (walk_foundTurns : Int32) (walk_foundSlowed : Int32) (walk_howFar : Nat → Int32) (walk_tones : Nat → Int32) (walk_only : Nat → Int32) (walk_fars : Nat → Int32) (walk_cellAt : Nat → Int32) (walk_ends : Nat → Int64) (walk_seen : Nat → Int32) (walk_begun : Nat → Int32) (trial_last : Int32) (trial_turnsLet : Int32) (trial_slowsLet : Int32) (trial_fuel : Int32) (trial_glide : Int32) (trial_count : Int32) (trial_weightSum : Int64) (trial_toPass : Int32) (trial_foundNumber : Int32) (trial_foundWeight : Int32) (trial_foundTurns : Int32) (trial_foundSlowed : Int32) (trial_howFar : Nat → Int32) (trial_tones : Nat → Int32) (trial_only : Nat → Int32) (trial_fars : Nat → Int32) (trial_cellAt : Nat → Int32) (trial_ends : Nat → Int64) (trial_seen : Nat → Int32) (trial_begun : Nat → Int32) (seas_known : Nat → Int32) (ends_total : Int64) (ends_sums : Nat → Int64) (otherEnds_total : Int64) (otherEnds_sums : Nat → Int64) (h0 : SetOK told_settings) (h1 : 0 ≤ (walk_glide).toInt) (h2 : (walk_glide).toInt ≤ 3) (h3 : 0 ≤ (told_pieceCount).toInt) (h4 : (told_pieceCount).toInt ≤ 4) : okP (f_X6_most o_walkIsOld o_endsAreOld told_pieceCount told_dragCount told_settings told_howFar told_tones told_currents told_warmths told_fars told_pieceCells told_pieceMonths told_pieceHighs told_pieceAges told_pieceNeeds told_dragCells told_dragEighths walk_last walk_turnsLet walk_slowsLet walk_fuel walk_glide walk_count walk_weightSum walk_toPass walk_foundNumber walk_foundWeight walk_foundTurns walk_foundSlowed walk_howFar walk_tones walk_only walk_fars walk_cellAt walk_ends walk_seen walk_begun trial_last trial_turnsLet trial_slowsLet trial_fuel trial_glide trial_count trial_weightSum trial_toPass trial_foundNumber trial_foundWeight trial_foundTurns trial_foundSlowed trial_howFar trial_tones trial_only trial_fars trial_cellAt trial_ends trial_seen trial_begun seas_known ends_total ends_sums otherEnds_total otherEnds_sums) (fun u => (0 ≤ u.2.2.2.2.2.2.2.1.toInt) ∧ (u.2.2.2.2.2.2.2.1.toInt ≤ 3)) := by
  obtain ⟨s0a, s0b, s1a, s1b, s2a, s2b, s3a, s3b, s4a, s4b, s5a, s5b, s6a, s6b, s7a, s7b⟩ := id h0
  have l12 : ∀ (n : Nat) (v2 : Int32) (v3 : Int32) (v4 : Int32) (o_walkIsOld : Int32) (o_endsAreOld : Int32) (walk_last : Int32) (walk_turnsLet : Int32) (walk_slowsLet : Int32) (walk_fuel : Int32) (walk_glide : Int32) (walk_count : Int32) (walk_weightSum : Int64) (walk_toPass : Int32) (walk_foundNumber : Int32) (walk_foundWeight : Int32) (walk_foundTurns : Int32) (walk_foundSlowed : Int32) (walk_howFar : Nat → Int32) (walk_tones : Nat → Int32) (walk_only : Nat → Int32) (walk_fars : Nat → Int32) (walk_cellAt : Nat → Int32) (walk_ends : Nat → Int64) (walk_seen : Nat → Int32) (walk_begun : Nat → Int32) (trial_last : Int32) (trial_turnsLet : Int32) (trial_slowsLet : Int32) (trial_fuel : Int32) (trial_glide : Int32) (trial_count : Int32) (trial_weightSum : Int64) (trial_toPass : Int32) (trial_foundNumber : Int32) (trial_foundWeight : Int32) (trial_foundTurns : Int32) (trial_foundSlowed : Int32) (trial_howFar : Nat → Int32) (trial_tones : Nat → Int32) (trial_only : Nat → Int32) (trial_fars : Nat → Int32) (trial_cellAt : Nat → Int32) (trial_ends : Nat → Int64) (trial_seen : Nat → Int32) (trial_begun : Nat → Int32) (seas_known : Nat → Int32) (ends_total : Int64) (ends_sums : Nat → Int64) (otherEnds_total : Int64) (otherEnds_sums : Nat → Int64), (13 - v4.toInt).toNat < n → (0 ≤ (v4).toInt) → ((v4).toInt ≤ 13) → (0 ≤ (walk_glide).toInt) → ((walk_glide).toInt ≤ 3) → okP (f_X6_most_L12 n v2 v3 v4 o_walkIsOld o_endsAreOld told_pieceCount told_dragCount told_settings told_howFar told_tones told_currents told_warmths told_fars told_pieceCells told_pieceMonths told_pieceHighs told_pieceAges told_pieceNeeds told_dragCells told_dragEighths walk_last walk_turnsLet walk_slowsLet walk_fuel walk_glide walk_count walk_weightSum walk_toPass walk_foundNumber walk_foundWeight walk_foundTurns walk_foundSlowed walk_howFar walk_tones walk_only walk_fars walk_cellAt walk_ends walk_seen walk_begun trial_last trial_turnsLet trial_slowsLet trial_fuel trial_glide trial_count trial_weightSum trial_toPass trial_foundNumber trial_foundWeight trial_foundTurns trial_foundSlowed trial_howFar trial_tones trial_only trial_fars trial_cellAt trial_ends trial_seen trial_begun seas_known ends_total ends_sums otherEnds_total otherEnds_sums) (fun u => (0 ≤ u.2.2.2.2.2.2.2.1.toInt) ∧ (u.2.2.2.2.2.2.2.1.toInt ≤ 3)) := by
    intro n
    induction n with
    | zero =>
      intro v2 v3 v4 o_walkIsOld o_endsAreOld walk_last walk_turnsLet walk_slowsLet walk_fuel walk_glide walk_count walk_weightSum walk_toPass walk_foundNumber walk_foundWeight walk_foundTurns walk_foundSlowed walk_howFar walk_tones walk_only walk_fars walk_cellAt walk_ends walk_seen walk_begun trial_last trial_turnsLet trial_slowsLet trial_fuel trial_glide trial_count trial_weightSum trial_toPass trial_foundNumber trial_foundWeight trial_foundTurns trial_foundSlowed trial_howFar trial_tones trial_only trial_fars trial_cellAt trial_ends trial_seen trial_begun seas_known ends_total ends_sums otherEnds_total otherEnds_sums hm
      exact absurd hm (Nat.not_lt_zero _)
    | succ n12 ih12 =>
      intro v2 v3 v4 o_walkIsOld o_endsAreOld walk_last walk_turnsLet walk_slowsLet walk_fuel walk_glide walk_count walk_weightSum walk_toPass walk_foundNumber walk_foundWeight walk_foundTurns walk_foundSlowed walk_howFar walk_tones walk_only walk_fars walk_cellAt walk_ends walk_seen walk_begun trial_last trial_turnsLet trial_slowsLet trial_fuel trial_glide trial_count trial_weightSum trial_toPass trial_foundNumber trial_foundWeight trial_foundTurns trial_foundSlowed trial_howFar trial_tones trial_only trial_fars trial_cellAt trial_ends trial_seen trial_begun seas_known ends_total ends_sums otherEnds_total otherEnds_sums hm12 g12_0 g12_1 g12_2 g12_3
      show okP (f_X6_most_L12b (f_X6_most_L12 n12) v2 v3 v4 o_walkIsOld o_endsAreOld told_pieceCount told_dragCount told_settings told_howFar told_tones told_currents told_warmths told_fars told_pieceCells told_pieceMonths told_pieceHighs told_pieceAges told_pieceNeeds told_dragCells told_dragEighths walk_last walk_turnsLet walk_slowsLet walk_fuel walk_glide walk_count walk_weightSum walk_toPass walk_foundNumber walk_foundWeight walk_foundTurns walk_foundSlowed walk_howFar walk_tones walk_only walk_fars walk_cellAt walk_ends walk_seen walk_begun trial_last trial_turnsLet trial_slowsLet trial_fuel trial_glide trial_count trial_weightSum trial_toPass trial_foundNumber trial_foundWeight trial_foundTurns trial_foundSlowed trial_howFar trial_tones trial_only trial_fars trial_cellAt trial_ends trial_seen trial_begun seas_known ends_total ends_sums otherEnds_total otherEnds_sums) (fun u => (0 ≤ u.2.2.2.2.2.2.2.1.toInt) ∧ (u.2.2.2.2.2.2.2.1.toInt ≤ 3))
      unfold f_X6_most_L12b
      refine ok_ite (fun c_1 => ?_) (fun c_1 => ?_)
      · skip
        have c_1 : (13 : Int) ≤ v4.toInt := i_le.mp c_1
        exact ok_some (show (0 ≤ walk_glide.toInt) ∧ (walk_glide.toInt ≤ 3) from ⟨by omega, by omega⟩)
      · skip
        have c_1 : ¬ (13 : Int) ≤ v4.toInt := fun z => c_1 (i_le.mpr z)
        refine ok_bd24 (s_X6_movedBy v4 told_pieceCount told_dragCount told_settings told_howFar told_tones told_currents told_warmths told_fars told_pieceCells told_pieceMonths told_pieceHighs told_pieceAges told_pieceNeeds told_dragCells told_dragEighths walk_ends trial_last trial_turnsLet trial_slowsLet trial_fuel trial_glide trial_count trial_weightSum trial_toPass trial_foundNumber trial_foundWeight trial_foundTurns trial_foundSlowed trial_howFar trial_tones trial_only trial_fars trial_cellAt trial_ends trial_seen trial_begun seas_known otherEnds_total otherEnds_sums ends_total ends_sums (by first | with_reducible assumption | with_reducible rfl | omega) (show 0 ≤ (told_pieceCount).toInt by omega) (show (told_pieceCount).toInt ≤ 4 by omega)) (fun r_2 w_3 w_4 w_5 w_6 w_7 w_8 w_9 w_10 w_11 w_12 w_13 w_14 w_15 w_16 w_17 w_18 w_19 w_20 w_21 w_22 w_23 w_24 w_25 q_26 => ?_)
        refine ok_ite (fun c_27 => ?_) (fun c_27 => ?_)
        · skip
          have c_27 : r_2.toInt ≤ v3.toInt := i_le.mp c_27
          unfold f_X6_most_B40
          first | (have f_28 : (v4 + 1).toInt = v4.toInt + (1 : Int) := i_add2 rfl rfl (by omega) (by omega)) | skip
          refine ok_nmi (fun x_29 hx_29 kx_29 => ?_)
          exact ih12 v2 v3 x_29 o_walkIsOld o_endsAreOld walk_last walk_turnsLet walk_slowsLet walk_fuel walk_glide walk_count walk_weightSum walk_toPass walk_foundNumber walk_foundWeight walk_foundTurns walk_foundSlowed walk_howFar walk_tones walk_only walk_fars walk_cellAt walk_ends walk_seen walk_begun w_3 w_4 w_5 w_6 w_7 w_8 w_9 w_10 w_11 w_12 w_13 w_14 w_15 w_16 w_17 w_18 w_19 w_20 w_21 w_22 w_23 ends_total ends_sums w_24 w_25 (show (13 - x_29.toInt).toNat < n12 by omega) (show 0 ≤ (x_29).toInt by omega) (show (x_29).toInt ≤ 13 by omega) (show 0 ≤ (walk_glide).toInt by omega) (show (walk_glide).toInt ≤ 3 by omega)
        · skip
          have c_27 : ¬ r_2.toInt ≤ v3.toInt := fun z => c_27 (i_le.mpr z)
          unfold f_X6_most_B40
          first | (have f_30 : (v4 + 1).toInt = v4.toInt + (1 : Int) := i_add2 rfl rfl (by omega) (by omega)) | skip
          refine ok_nmi (fun x_31 hx_31 kx_31 => ?_)
          exact ih12 v4 r_2 x_31 o_walkIsOld o_endsAreOld walk_last walk_turnsLet walk_slowsLet walk_fuel walk_glide walk_count walk_weightSum walk_toPass walk_foundNumber walk_foundWeight walk_foundTurns walk_foundSlowed walk_howFar walk_tones walk_only walk_fars walk_cellAt walk_ends walk_seen walk_begun w_3 w_4 w_5 w_6 w_7 w_8 w_9 w_10 w_11 w_12 w_13 w_14 w_15 w_16 w_17 w_18 w_19 w_20 w_21 w_22 w_23 ends_total ends_sums w_24 w_25 (show (13 - x_31.toInt).toNat < n12 by omega) (show 0 ≤ (x_31).toInt by omega) (show (x_31).toInt ≤ 13 by omega) (show 0 ≤ (walk_glide).toInt by omega) (show (walk_glide).toInt ≤ 3 by omega)
  unfold f_X6_most
  refine ok_bd25 (s_X6_weighed o_walkIsOld o_endsAreOld told_pieceCount told_dragCount told_settings told_howFar told_tones told_currents told_warmths told_fars told_pieceCells told_pieceMonths told_pieceHighs told_pieceAges told_pieceNeeds told_dragCells told_dragEighths walk_last walk_turnsLet walk_slowsLet walk_fuel walk_glide walk_count walk_weightSum walk_toPass walk_foundNumber walk_foundWeight walk_foundTurns walk_foundSlowed walk_howFar walk_tones walk_only walk_fars walk_cellAt walk_ends walk_seen walk_begun seas_known ends_total ends_sums (by first | with_reducible assumption | with_reducible rfl | omega) (show 0 ≤ (walk_glide).toInt by omega) (show (walk_glide).toInt ≤ 3 by omega) (show 0 ≤ (told_pieceCount).toInt by omega) (show (told_pieceCount).toInt ≤ 4 by omega)) (fun w_32 w_33 w_34 w_35 w_36 w_37 w_38 w_39 w_40 w_41 w_42 w_43 w_44 w_45 w_46 w_47 w_48 w_49 w_50 w_51 w_52 w_53 w_54 w_55 w_56 q_57 => ?_)
  obtain ⟨q_57_0, q_57_1⟩ : (0 ≤ w_38.toInt) ∧ (w_38.toInt ≤ 3) := q_57
  exact l12 FU 0 (-1) 0 w_32 w_33 w_34 w_35 w_36 w_37 w_38 w_39 w_40 w_41 w_42 w_43 w_44 w_45 w_46 w_47 w_48 w_49 w_50 w_51 w_52 w_53 trial_last trial_turnsLet trial_slowsLet trial_fuel trial_glide trial_count trial_weightSum trial_toPass trial_foundNumber trial_foundWeight trial_foundTurns trial_foundSlowed trial_howFar trial_tones trial_only trial_fars trial_cellAt trial_ends trial_seen trial_begun w_54 w_55 w_56 otherEnds_total otherEnds_sums (FU_gt (show (13 - (0 : Int)).toNat < 1000000000000 by omega)) (show 0 ≤ (0 : Int) by omega) (show (0 : Int) ≤ 13 by omega) (show 0 ≤ (w_38).toInt by omega) (show (w_38).toInt ≤ 3 by omega)
set_option maxRecDepth 100000 in
set_option maxHeartbeats 4000000 in
theorem s_X6_next (o_walkIsOld : Int32) (o_endsAreOld : Int32) (told_pieceCount : Int32) (told_dragCount : Int32) (told_settings : Nat → Int32) (told_howFar : Nat → Int32) (told_tones : Nat → Int32) (told_currents : Nat → Int32) (told_warmths : Nat → Int32) (told_depths : Nat → Int32) (told_fars : Nat → Int32) (told_pieceCells : Nat → Int32) (told_pieceMonths : Nat → Int32) (told_pieceHighs : Nat → Int32) (told_pieceAges : Nat → Int32) (told_pieceNeeds : Nat → Int32) (told_dragCells : Nat → Int32) (told_dragEighths : Nat → Int32) (walk_last : Int32) (walk_turnsLet : Int32) (walk_slowsLet : Int32) (walk_fuel : Int32) (walk_glide : Int32) (walk_count : Int32) (walk_weightSum : Int64) (walk_toPass : Int32) (walk_foundNumber : Int32) (walk_foundWeight : Int32) (walk_foundTurns : Int32) (walk_foundSlowed : Int32) (walk_howFar : Nat → Int32) (walk_tones : Nat → Int32) (walk_only : Nat → Int32) (walk_fars : Nat → Int32) (walk_cellAt : Nat → Int32) (walk_ends : Nat → Int64) (walk_seen : Nat → Int32) (walk_begun : Nat → Int32) (seas_known : Nat → Int32) (ends_total : Int64) (ends_sums : Nat → Int64) (h0 : SetOK told_settings) (h1 : 0 ≤ (walk_glide).toInt) (h2 : (walk_glide).toInt ≤ 3) (h3 : 0 ≤ (told_pieceCount).toInt) (h4 : (told_pieceCount).toInt ≤ 4) : okP (f_X6_next o_walkIsOld o_endsAreOld told_pieceCount told_dragCount told_settings told_howFar told_tones told_currents told_warmths told_depths told_fars told_pieceCells told_pieceMonths told_pieceHighs told_pieceAges told_pieceNeeds told_dragCells told_dragEighths walk_last walk_turnsLet walk_slowsLet walk_fuel walk_glide walk_count walk_weightSum walk_toPass walk_foundNumber walk_foundWeight walk_foundTurns walk_foundSlowed walk_howFar walk_tones walk_only walk_fars walk_cellAt walk_ends walk_seen walk_begun seas_known ends_total ends_sums) (fun u => (0 ≤ u.2.2.2.2.2.2.2.1.toInt) ∧ (u.2.2.2.2.2.2.2.1.toInt ≤ 3)) := by
  obtain ⟨s0a, s0b, s1a, s1b, s2a, s2b, s3a, s3b, s4a, s4b, s5a, s5b, s6a, s6b, s7a, s7b⟩ := id h0
  have l13 : ∀ (n : Nat) (v2 : Int32) (v3 : Int32) (o_walkIsOld : Int32) (o_endsAreOld : Int32) (walk_last : Int32) (walk_turnsLet : Int32) (walk_slowsLet : Int32) (walk_fuel : Int32) (walk_glide : Int32) (walk_count : Int32) (walk_weightSum : Int64) (walk_toPass : Int32) (walk_foundNumber : Int32) (walk_foundWeight : Int32) (walk_foundTurns : Int32) (walk_foundSlowed : Int32) (walk_howFar : Nat → Int32) (walk_tones : Nat → Int32) (walk_only : Nat → Int32) (walk_fars : Nat → Int32) (walk_cellAt : Nat → Int32) (walk_ends : Nat → Int64) (walk_seen : Nat → Int32) (walk_begun : Nat → Int32) (seas_known : Nat → Int32) (ends_total : Int64) (ends_sums : Nat → Int64), (100 - v3.toInt).toNat < n → (0 ≤ (v3).toInt) → ((v3).toInt ≤ 100) → (v2.toInt = -4 ∨ (0 ≤ v2.toInt ∧ v2.toInt ≤ 99)) → (0 ≤ (walk_glide).toInt) → ((walk_glide).toInt ≤ 3) → okP (f_X6_next_L13 n v2 v3 o_walkIsOld o_endsAreOld told_pieceCount told_dragCount told_settings told_howFar told_tones told_currents told_warmths told_depths told_fars told_pieceCells told_pieceMonths told_pieceHighs told_pieceAges told_pieceNeeds told_dragCells told_dragEighths walk_last walk_turnsLet walk_slowsLet walk_fuel walk_glide walk_count walk_weightSum walk_toPass walk_foundNumber walk_foundWeight walk_foundTurns walk_foundSlowed walk_howFar walk_tones walk_only walk_fars walk_cellAt walk_ends walk_seen walk_begun seas_known ends_total ends_sums) (fun u => (0 ≤ u.2.2.2.2.2.2.2.1.toInt) ∧ (u.2.2.2.2.2.2.2.1.toInt ≤ 3)) := by
    intro n
    induction n with
    | zero =>
      intro v2 v3 o_walkIsOld o_endsAreOld walk_last walk_turnsLet walk_slowsLet walk_fuel walk_glide walk_count walk_weightSum walk_toPass walk_foundNumber walk_foundWeight walk_foundTurns walk_foundSlowed walk_howFar walk_tones walk_only walk_fars walk_cellAt walk_ends walk_seen walk_begun seas_known ends_total ends_sums hm
      exact absurd hm (Nat.not_lt_zero _)
    | succ n13 ih13 =>
      intro v2 v3 o_walkIsOld o_endsAreOld walk_last walk_turnsLet walk_slowsLet walk_fuel walk_glide walk_count walk_weightSum walk_toPass walk_foundNumber walk_foundWeight walk_foundTurns walk_foundSlowed walk_howFar walk_tones walk_only walk_fars walk_cellAt walk_ends walk_seen walk_begun seas_known ends_total ends_sums hm13 g13_0 g13_1 g13_2 g13_3 g13_4
      show okP (f_X6_next_L13b (f_X6_next_L13 n13) v2 v3 o_walkIsOld o_endsAreOld told_pieceCount told_dragCount told_settings told_howFar told_tones told_currents told_warmths told_depths told_fars told_pieceCells told_pieceMonths told_pieceHighs told_pieceAges told_pieceNeeds told_dragCells told_dragEighths walk_last walk_turnsLet walk_slowsLet walk_fuel walk_glide walk_count walk_weightSum walk_toPass walk_foundNumber walk_foundWeight walk_foundTurns walk_foundSlowed walk_howFar walk_tones walk_only walk_fars walk_cellAt walk_ends walk_seen walk_begun seas_known ends_total ends_sums) (fun u => (0 ≤ u.2.2.2.2.2.2.2.1.toInt) ∧ (u.2.2.2.2.2.2.2.1.toInt ≤ 3))
      unfold f_X6_next_L13b
      refine ok_ite (fun c_1 => ?_) (fun c_1 => ?_)
      · skip
        have c_1 : (100 : Int) ≤ v3.toInt := i_le.mp c_1
        exact ok_some (show (0 ≤ walk_glide.toInt) ∧ (walk_glide.toInt ≤ 3) from ⟨by omega, by omega⟩)
      · skip
        have c_1 : ¬ (100 : Int) ≤ v3.toInt := fun z => c_1 (i_le.mpr z)
        have ix_2 : ¬ (v3 < 0 ∨ 100 ≤ v3.toNatClampNeg) := ix (show 0 ≤ v3.toInt by omega) (show v3.toInt < (100 : Nat) by omega)
        refine ok_chk ix_2 ?_
        refine ok_ite (fun c_3 => ?_) (fun c_3 => ?_)
        · skip
          have c_3 : (ends_sums v3.toNatClampNeg).toInt ≤ (0 : Int) := j_le.mp ((lg_cmp_le _ _).mp c_3)
          unfold f_X6_next_B79
          first | (have f_4 : (v3 + 1).toInt = v3.toInt + (1 : Int) := i_add2 rfl rfl (by omega) (by omega)) | skip
          refine ok_nmi (fun x_5 hx_5 kx_5 => ?_)
          exact ih13 v2 x_5 o_walkIsOld o_endsAreOld walk_last walk_turnsLet walk_slowsLet walk_fuel walk_glide walk_count walk_weightSum walk_toPass walk_foundNumber walk_foundWeight walk_foundTurns walk_foundSlowed walk_howFar walk_tones walk_only walk_fars walk_cellAt walk_ends walk_seen walk_begun seas_known ends_total ends_sums (show (100 - x_5.toInt).toNat < n13 by omega) (show 0 ≤ (x_5).toInt by omega) (show (x_5).toInt ≤ 100 by omega) (show v2.toInt = -4 ∨ (0 ≤ v2.toInt ∧ v2.toInt ≤ 99) by omega) (show 0 ≤ (walk_glide).toInt by omega) (show (walk_glide).toInt ≤ 3 by omega)
        · skip
          have c_3 : ¬ (ends_sums v3.toNatClampNeg).toInt ≤ (0 : Int) := fun z => c_3 ((lg_cmp_le _ _).mpr (j_le.mpr z))
          refine ok_bd1 (s_X4_isDragged v3 told_dragCount told_dragCells) (fun r_6 q_7 => ?_)
          replace q_7 : r_6.toInt = 0 ∨ r_6.toInt = 1 := q_7
          refine ok_ite (fun c_8 => ?_) (fun c_8 => ?_)
          · skip
            have c_8 : r_6.toInt = (0 : Int) := i_eq.mp c_8
            refine ok_ite (fun c_9 => ?_) (fun c_9 => ?_)
            · skip
              have c_9 : v2.toInt < (0 : Int) := i_lt.mp c_9
              unfold f_X6_next_B77
              unfold f_X6_next_B79
              first | (have f_10 : (v3 + 1).toInt = v3.toInt + (1 : Int) := i_add2 rfl rfl (by omega) (by omega)) | skip
              refine ok_nmi (fun x_11 hx_11 kx_11 => ?_)
              exact ih13 v3 x_11 o_walkIsOld o_endsAreOld walk_last walk_turnsLet walk_slowsLet walk_fuel walk_glide walk_count walk_weightSum walk_toPass walk_foundNumber walk_foundWeight walk_foundTurns walk_foundSlowed walk_howFar walk_tones walk_only walk_fars walk_cellAt walk_ends walk_seen walk_begun seas_known ends_total ends_sums (show (100 - x_11.toInt).toNat < n13 by omega) (show 0 ≤ (x_11).toInt by omega) (show (x_11).toInt ≤ 100 by omega) (show v3.toInt = -4 ∨ (0 ≤ v3.toInt ∧ v3.toInt ≤ 99) by omega) (show 0 ≤ (walk_glide).toInt by omega) (show (walk_glide).toInt ≤ 3 by omega)
            · skip
              have c_9 : ¬ v2.toInt < (0 : Int) := fun z => c_9 (i_lt.mpr z)
              refine ok_chk ix_2 ?_
              have ix_12 : ¬ (v2 < 0 ∨ 100 ≤ v2.toNatClampNeg) := ix (show 0 ≤ v2.toInt by omega) (show v2.toInt < (100 : Nat) by omega)
              refine ok_chk ix_12 ?_
              first | (have f_13 : ((told_depths v2.toNatClampNeg).toInt64).toInt = (told_depths v2.toNatClampNeg).toInt := j_i2l _) | skip
              refine ok_chk ix_12 ?_
              refine ok_chk ix_2 ?_
              first | (have f_14 : ((told_depths v3.toNatClampNeg).toInt64).toInt = (told_depths v3.toNatClampNeg).toInt := j_i2l _) | skip
              refine ok_ite (fun c_15 => ?_) (fun c_15 => ?_)
              · skip
                have c_15 : ((ends_sums v3.toNatClampNeg) * ((told_depths v2.toNatClampNeg).toInt64)).toInt ≤ ((ends_sums v2.toNatClampNeg) * ((told_depths v3.toNatClampNeg).toInt64)).toInt := j_le.mp ((lg_cmp_le _ _).mp c_15)
                unfold f_X6_next_B79
                first | (have f_16 : (v3 + 1).toInt = v3.toInt + (1 : Int) := i_add2 rfl rfl (by omega) (by omega)) | skip
                refine ok_nmi (fun x_17 hx_17 kx_17 => ?_)
                exact ih13 v2 x_17 o_walkIsOld o_endsAreOld walk_last walk_turnsLet walk_slowsLet walk_fuel walk_glide walk_count walk_weightSum walk_toPass walk_foundNumber walk_foundWeight walk_foundTurns walk_foundSlowed walk_howFar walk_tones walk_only walk_fars walk_cellAt walk_ends walk_seen walk_begun seas_known ends_total ends_sums (show (100 - x_17.toInt).toNat < n13 by omega) (show 0 ≤ (x_17).toInt by omega) (show (x_17).toInt ≤ 100 by omega) (show v2.toInt = -4 ∨ (0 ≤ v2.toInt ∧ v2.toInt ≤ 99) by omega) (show 0 ≤ (walk_glide).toInt by omega) (show (walk_glide).toInt ≤ 3 by omega)
              · skip
                have c_15 : ¬ ((ends_sums v3.toNatClampNeg) * ((told_depths v2.toNatClampNeg).toInt64)).toInt ≤ ((ends_sums v2.toNatClampNeg) * ((told_depths v3.toNatClampNeg).toInt64)).toInt := fun z => c_15 ((lg_cmp_le _ _).mpr (j_le.mpr z))
                unfold f_X6_next_B77
                unfold f_X6_next_B79
                first | (have f_18 : (v3 + 1).toInt = v3.toInt + (1 : Int) := i_add2 rfl rfl (by omega) (by omega)) | skip
                refine ok_nmi (fun x_19 hx_19 kx_19 => ?_)
                exact ih13 v3 x_19 o_walkIsOld o_endsAreOld walk_last walk_turnsLet walk_slowsLet walk_fuel walk_glide walk_count walk_weightSum walk_toPass walk_foundNumber walk_foundWeight walk_foundTurns walk_foundSlowed walk_howFar walk_tones walk_only walk_fars walk_cellAt walk_ends walk_seen walk_begun seas_known ends_total ends_sums (show (100 - x_19.toInt).toNat < n13 by omega) (show 0 ≤ (x_19).toInt by omega) (show (x_19).toInt ≤ 100 by omega) (show v3.toInt = -4 ∨ (0 ≤ v3.toInt ∧ v3.toInt ≤ 99) by omega) (show 0 ≤ (walk_glide).toInt by omega) (show (walk_glide).toInt ≤ 3 by omega)
          · skip
            have c_8 : ¬ r_6.toInt = (0 : Int) := fun z => c_8 (i_eq.mpr z)
            unfold f_X6_next_B79
            first | (have f_20 : (v3 + 1).toInt = v3.toInt + (1 : Int) := i_add2 rfl rfl (by omega) (by omega)) | skip
            refine ok_nmi (fun x_21 hx_21 kx_21 => ?_)
            exact ih13 v2 x_21 o_walkIsOld o_endsAreOld walk_last walk_turnsLet walk_slowsLet walk_fuel walk_glide walk_count walk_weightSum walk_toPass walk_foundNumber walk_foundWeight walk_foundTurns walk_foundSlowed walk_howFar walk_tones walk_only walk_fars walk_cellAt walk_ends walk_seen walk_begun seas_known ends_total ends_sums (show (100 - x_21.toInt).toNat < n13 by omega) (show 0 ≤ (x_21).toInt by omega) (show (x_21).toInt ≤ 100 by omega) (show v2.toInt = -4 ∨ (0 ≤ v2.toInt ∧ v2.toInt ≤ 99) by omega) (show 0 ≤ (walk_glide).toInt by omega) (show (walk_glide).toInt ≤ 3 by omega)
  unfold f_X6_next
  refine ok_bd25 (s_X6_weighed o_walkIsOld o_endsAreOld told_pieceCount told_dragCount told_settings told_howFar told_tones told_currents told_warmths told_fars told_pieceCells told_pieceMonths told_pieceHighs told_pieceAges told_pieceNeeds told_dragCells told_dragEighths walk_last walk_turnsLet walk_slowsLet walk_fuel walk_glide walk_count walk_weightSum walk_toPass walk_foundNumber walk_foundWeight walk_foundTurns walk_foundSlowed walk_howFar walk_tones walk_only walk_fars walk_cellAt walk_ends walk_seen walk_begun seas_known ends_total ends_sums (by first | with_reducible assumption | with_reducible rfl | omega) (show 0 ≤ (walk_glide).toInt by omega) (show (walk_glide).toInt ≤ 3 by omega) (show 0 ≤ (told_pieceCount).toInt by omega) (show (told_pieceCount).toInt ≤ 4 by omega)) (fun w_22 w_23 w_24 w_25 w_26 w_27 w_28 w_29 w_30 w_31 w_32 w_33 w_34 w_35 w_36 w_37 w_38 w_39 w_40 w_41 w_42 w_43 w_44 w_45 w_46 q_47 => ?_)
  obtain ⟨q_47_0, q_47_1⟩ : (0 ≤ w_28.toInt) ∧ (w_28.toInt ≤ 3) := q_47
  exact l13 FU (-4) 0 w_22 w_23 w_24 w_25 w_26 w_27 w_28 w_29 w_30 w_31 w_32 w_33 w_34 w_35 w_36 w_37 w_38 w_39 w_40 w_41 w_42 w_43 w_44 w_45 w_46 (FU_gt (show (100 - (0 : Int)).toNat < 1000000000000 by omega)) (show 0 ≤ (0 : Int) by omega) (show (0 : Int) ≤ 100 by omega) (show (-4 : Int) = -4 ∨ (0 ≤ (-4 : Int) ∧ (-4 : Int) ≤ 99) by omega) (show 0 ≤ (w_28).toInt by omega) (show (w_28).toInt ≤ 3 by omega)
set_option maxRecDepth 100000 in
set_option maxHeartbeats 4000000 in
theorem s_X6_should (x1 : Int32) (x2 : Int32) (x3 : Int32) (x4 : Int32) (o_walkIsOld : Int32) (o_endsAreOld : Int32) (told_pieceCount : Int32) (told_dragCount : Int32) (told_settings : Nat → Int32) (told_howFar : Nat → Int32) (told_tones : Nat → Int32) (told_currents : Nat → Int32) (told_warmths : Nat → Int32) (told_fars : Nat → Int32) (told_pieceCells : Nat → Int32) (told_pieceMonths : Nat → Int32) (told_pieceHighs : Nat → Int32) (told_pieceAges : Nat → Int32) (told_pieceNeeds : Nat → Int32) (told_dragCells : Nat → Int32) (told_dragEighths : Nat → Int32) (walk_last : Int32) (walk_turnsLet : Int32) (walk_slowsLet : Int32) (walk_fuel : Int32) (walk_glide : Int32) (walk_count : Int32) (walk_weightSum : Int64) (walk_toPass : Int32) (walk_foundNumber : Int32) (walk_foundWeight : Int32) (walk_foundTurns : Int32) (walk_foundSlowed : Int32) (walk_howFar : Nat → Int32) (walk_tones : Nat → Int32) (walk_only : Nat → Int32) (walk_fars : Nat → Int32) (walk_cellAt : Nat → Int32) (walk_ends : Nat → Int64) (walk_seen : Nat → Int32) (walk_begun : Nat → Int32) (seas_known : Nat → Int32) (ends_total : Int64) (ends_sums : Nat → Int64) (h0 : SetOK told_settings) (h1 : 0 ≤ (walk_glide).toInt) (h2 : (walk_glide).toInt ≤ 3) (h3 : 0 ≤ (told_pieceCount).toInt) (h4 : (told_pieceCount).toInt ≤ 4) : okP (f_X6_should x1 x2 x3 x4 o_walkIsOld o_endsAreOld told_pieceCount told_dragCount told_settings told_howFar told_tones told_currents told_warmths told_fars told_pieceCells told_pieceMonths told_pieceHighs told_pieceAges told_pieceNeeds told_dragCells told_dragEighths walk_last walk_turnsLet walk_slowsLet walk_fuel walk_glide walk_count walk_weightSum walk_toPass walk_foundNumber walk_foundWeight walk_foundTurns walk_foundSlowed walk_howFar walk_tones walk_only walk_fars walk_cellAt walk_ends walk_seen walk_begun seas_known ends_total ends_sums) (fun u => (0 ≤ u.2.2.2.2.2.2.2.1.toInt) ∧ (u.2.2.2.2.2.2.2.1.toInt ≤ 3)) := by
  obtain ⟨s0a, s0b, s1a, s1b, s2a, s2b, s3a, s3b, s4a, s4b, s5a, s5b, s6a, s6b, s7a, s7b⟩ := id h0
  have l52 : ∀ (n : Nat) (v1 : Int32) (v2 : Int32) (v3 : Int32) (v4 : Int32) (v6 : Int64) (v8 : Int32) (o_walkIsOld : Int32) (o_endsAreOld : Int32) (walk_last : Int32) (walk_turnsLet : Int32) (walk_slowsLet : Int32) (walk_fuel : Int32) (walk_glide : Int32) (walk_count : Int32) (walk_weightSum : Int64) (walk_toPass : Int32) (walk_foundNumber : Int32) (walk_foundWeight : Int32) (walk_foundTurns : Int32) (walk_foundSlowed : Int32) (walk_howFar : Nat → Int32) (walk_tones : Nat → Int32) (walk_only : Nat → Int32) (walk_fars : Nat → Int32) (walk_cellAt : Nat → Int32) (walk_ends : Nat → Int64) (walk_seen : Nat → Int32) (walk_begun : Nat → Int32) (seas_known : Nat → Int32) (ends_total : Int64) (ends_sums : Nat → Int64), (100 - v8.toInt).toNat < n → (0 ≤ (v8).toInt) → ((v8).toInt ≤ 100) → (0 ≤ (walk_glide).toInt) → ((walk_glide).toInt ≤ 3) → okP (f_X6_should_L52 n v1 v2 v3 v4 v6 v8 o_walkIsOld o_endsAreOld told_pieceCount told_dragCount told_settings told_howFar told_tones told_currents told_warmths told_fars told_pieceCells told_pieceMonths told_pieceHighs told_pieceAges told_pieceNeeds told_dragCells told_dragEighths walk_last walk_turnsLet walk_slowsLet walk_fuel walk_glide walk_count walk_weightSum walk_toPass walk_foundNumber walk_foundWeight walk_foundTurns walk_foundSlowed walk_howFar walk_tones walk_only walk_fars walk_cellAt walk_ends walk_seen walk_begun seas_known ends_total ends_sums) (fun u => (0 ≤ u.2.2.2.2.2.2.2.1.toInt) ∧ (u.2.2.2.2.2.2.2.1.toInt ≤ 3)) := by
    intro n
    induction n with
    | zero =>
      intro v1 v2 v3 v4 v6 v8 o_walkIsOld o_endsAreOld walk_last walk_turnsLet walk_slowsLet walk_fuel walk_glide walk_count walk_weightSum walk_toPass walk_foundNumber walk_foundWeight walk_foundTurns walk_foundSlowed walk_howFar walk_tones walk_only walk_fars walk_cellAt walk_ends walk_seen walk_begun seas_known ends_total ends_sums hm
      exact absurd hm (Nat.not_lt_zero _)
    | succ n52 ih52 =>
      intro v1 v2 v3 v4 v6 v8 o_walkIsOld o_endsAreOld walk_last walk_turnsLet walk_slowsLet walk_fuel walk_glide walk_count walk_weightSum walk_toPass walk_foundNumber walk_foundWeight walk_foundTurns walk_foundSlowed walk_howFar walk_tones walk_only walk_fars walk_cellAt walk_ends walk_seen walk_begun seas_known ends_total ends_sums hm52 g52_0 g52_1 g52_2 g52_3
      show okP (f_X6_should_L52b (f_X6_should_L52 n52) v1 v2 v3 v4 v6 v8 o_walkIsOld o_endsAreOld told_pieceCount told_dragCount told_settings told_howFar told_tones told_currents told_warmths told_fars told_pieceCells told_pieceMonths told_pieceHighs told_pieceAges told_pieceNeeds told_dragCells told_dragEighths walk_last walk_turnsLet walk_slowsLet walk_fuel walk_glide walk_count walk_weightSum walk_toPass walk_foundNumber walk_foundWeight walk_foundTurns walk_foundSlowed walk_howFar walk_tones walk_only walk_fars walk_cellAt walk_ends walk_seen walk_begun seas_known ends_total ends_sums) (fun u => (0 ≤ u.2.2.2.2.2.2.2.1.toInt) ∧ (u.2.2.2.2.2.2.2.1.toInt ≤ 3))
      unfold f_X6_should_L52b
      refine ok_ite (fun c_1 => ?_) (fun c_1 => ?_)
      · skip
        have c_1 : (100 : Int) ≤ v8.toInt := i_le.mp c_1
        refine ok_bd1 (s_X6_partOf v6 ends_total v4) (fun r_2 q_3 => ?_)
        exact ok_some (show (0 ≤ walk_glide.toInt) ∧ (walk_glide.toInt ≤ 3) from ⟨by omega, by omega⟩)
      · skip
        have c_1 : ¬ (100 : Int) ≤ v8.toInt := fun z => c_1 (i_le.mpr z)
        have ix_4 : ¬ (v8 < 0 ∨ 100 ≤ v8.toNatClampNeg) := ix (show 0 ≤ v8.toInt by omega) (show v8.toInt < (100 : Nat) by omega)
        refine ok_chk ix_4 ?_
        refine ok_ite (fun c_5 => ?_) (fun c_5 => ?_)
        · skip
          have c_5 : (ends_sums v8.toNatClampNeg).toInt ≤ (0 : Int) := j_le.mp ((lg_cmp_le _ _).mp c_5)
          unfold f_X6_should_B100
          first | (have f_6 : (v8 + 1).toInt = v8.toInt + (1 : Int) := i_add2 rfl rfl (by omega) (by omega)) | skip
          refine ok_nmi (fun x_7 hx_7 kx_7 => ?_)
          exact ih52 v1 v2 v3 v4 v6 x_7 o_walkIsOld o_endsAreOld walk_last walk_turnsLet walk_slowsLet walk_fuel walk_glide walk_count walk_weightSum walk_toPass walk_foundNumber walk_foundWeight walk_foundTurns walk_foundSlowed walk_howFar walk_tones walk_only walk_fars walk_cellAt walk_ends walk_seen walk_begun seas_known ends_total ends_sums (show (100 - x_7.toInt).toNat < n52 by omega) (show 0 ≤ (x_7).toInt by omega) (show (x_7).toInt ≤ 100 by omega) (show 0 ≤ (walk_glide).toInt by omega) (show (walk_glide).toInt ≤ 3 by omega)
        · skip
          have c_5 : ¬ (ends_sums v8.toNatClampNeg).toInt ≤ (0 : Int) := fun z => c_5 ((lg_cmp_le _ _).mpr (j_le.mpr z))
          refine ok_bd1 (s_X1_behind v8 v2 v3 told_settings told_currents (show 0 ≤ (v8).toInt by omega) (show (v8).toInt ≤ 99 by omega)) (fun r_8 q_9 => ?_)
          obtain ⟨q_9_0, q_9_1⟩ : (0 ≤ r_8.toInt) ∧ (r_8.toInt ≤ 99) := q_9
          refine ok_ite (fun c_10 => ?_) (fun c_10 => ?_)
          · skip
            have c_10 : r_8.toInt = v1.toInt := i_eq.mp c_10
            refine ok_chk ix_4 ?_
            first | (have f_11 : (v6 + (ends_sums v8.toNatClampNeg)).toInt = v6.toInt + (ends_sums v8.toNatClampNeg).toInt := j_add2 rfl rfl (by omega) (by omega)) | skip
            refine ok_nmj (fun x_12 hx_12 kx_12 => ?_)
            unfold f_X6_should_B100
            first | (have f_13 : (v8 + 1).toInt = v8.toInt + (1 : Int) := i_add2 rfl rfl (by omega) (by omega)) | skip
            refine ok_nmi (fun x_14 hx_14 kx_14 => ?_)
            exact ih52 v1 v2 v3 v4 x_12 x_14 o_walkIsOld o_endsAreOld walk_last walk_turnsLet walk_slowsLet walk_fuel walk_glide walk_count walk_weightSum walk_toPass walk_foundNumber walk_foundWeight walk_foundTurns walk_foundSlowed walk_howFar walk_tones walk_only walk_fars walk_cellAt walk_ends walk_seen walk_begun seas_known ends_total ends_sums (show (100 - x_14.toInt).toNat < n52 by omega) (show 0 ≤ (x_14).toInt by omega) (show (x_14).toInt ≤ 100 by omega) (show 0 ≤ (walk_glide).toInt by omega) (show (walk_glide).toInt ≤ 3 by omega)
          · skip
            have c_10 : ¬ r_8.toInt = v1.toInt := fun z => c_10 (i_eq.mpr z)
            unfold f_X6_should_B100
            first | (have f_15 : (v8 + 1).toInt = v8.toInt + (1 : Int) := i_add2 rfl rfl (by omega) (by omega)) | skip
            refine ok_nmi (fun x_16 hx_16 kx_16 => ?_)
            exact ih52 v1 v2 v3 v4 v6 x_16 o_walkIsOld o_endsAreOld walk_last walk_turnsLet walk_slowsLet walk_fuel walk_glide walk_count walk_weightSum walk_toPass walk_foundNumber walk_foundWeight walk_foundTurns walk_foundSlowed walk_howFar walk_tones walk_only walk_fars walk_cellAt walk_ends walk_seen walk_begun seas_known ends_total ends_sums (show (100 - x_16.toInt).toNat < n52 by omega) (show 0 ≤ (x_16).toInt by omega) (show (x_16).toInt ≤ 100 by omega) (show 0 ≤ (walk_glide).toInt by omega) (show (walk_glide).toInt ≤ 3 by omega)
  unfold f_X6_should
  refine ok_bd1 (s_X6_isCell x1) (fun r_17 q_18 => ?_)
  replace q_18 : (r_17.toInt = 1 ∧ 0 ≤ x1.toInt ∧ x1.toInt < 100) ∨ (r_17.toInt = 0 ∧ (x1.toInt < 0 ∨ 100 ≤ x1.toInt)) := q_18
  refine ok_ite (fun c_19 => ?_) (fun c_19 => ?_)
  · skip
    have c_19 : r_17.toInt = (0 : Int) := i_eq.mp c_19
    replace q_18 : (x1.toInt < 0 ∨ 100 ≤ x1.toInt) := by omega
    exact ok_some (show (0 ≤ walk_glide.toInt) ∧ (walk_glide.toInt ≤ 3) from ⟨by omega, by omega⟩)
  · skip
    have c_19 : ¬ r_17.toInt = (0 : Int) := fun z => c_19 (i_eq.mpr z)
    replace q_18 : 0 ≤ x1.toInt ∧ x1.toInt < 100 := by omega
    refine ok_bd1 (s_X6_within x2 0 24) (fun r_20 q_21 => ?_)
    replace q_21 : (r_20.toInt = 1 ∧ (0 : Int) ≤ x2.toInt ∧ x2.toInt ≤ (24 : Int)) ∨ (r_20.toInt = 0 ∧ (x2.toInt < (0 : Int) ∨ (24 : Int) < x2.toInt)) := q_21
    refine ok_ite (fun c_22 => ?_) (fun c_22 => ?_)
    · skip
      have c_22 : r_20.toInt = (0 : Int) := i_eq.mp c_22
      replace q_21 : (x2.toInt < (0 : Int) ∨ (24 : Int) < x2.toInt) := by omega
      exact ok_some (show (0 ≤ walk_glide.toInt) ∧ (walk_glide.toInt ≤ 3) from ⟨by omega, by omega⟩)
    · skip
      have c_22 : ¬ r_20.toInt = (0 : Int) := fun z => c_22 (i_eq.mpr z)
      replace q_21 : (0 : Int) ≤ x2.toInt ∧ x2.toInt ≤ (24 : Int) := by omega
      refine ok_bd1 (s_X6_within x3 0 1) (fun r_23 q_24 => ?_)
      replace q_24 : (r_23.toInt = 1 ∧ (0 : Int) ≤ x3.toInt ∧ x3.toInt ≤ (1 : Int)) ∨ (r_23.toInt = 0 ∧ (x3.toInt < (0 : Int) ∨ (1 : Int) < x3.toInt)) := q_24
      refine ok_ite (fun c_25 => ?_) (fun c_25 => ?_)
      · skip
        have c_25 : r_23.toInt = (0 : Int) := i_eq.mp c_25
        replace q_24 : (x3.toInt < (0 : Int) ∨ (1 : Int) < x3.toInt) := by omega
        exact ok_some (show (0 ≤ walk_glide.toInt) ∧ (walk_glide.toInt ≤ 3) from ⟨by omega, by omega⟩)
      · skip
        have c_25 : ¬ r_23.toInt = (0 : Int) := fun z => c_25 (i_eq.mpr z)
        replace q_24 : (0 : Int) ≤ x3.toInt ∧ x3.toInt ≤ (1 : Int) := by omega
        refine ok_bd1 (s_X6_within x4 0 1) (fun r_26 q_27 => ?_)
        replace q_27 : (r_26.toInt = 1 ∧ (0 : Int) ≤ x4.toInt ∧ x4.toInt ≤ (1 : Int)) ∨ (r_26.toInt = 0 ∧ (x4.toInt < (0 : Int) ∨ (1 : Int) < x4.toInt)) := q_27
        refine ok_ite (fun c_28 => ?_) (fun c_28 => ?_)
        · skip
          have c_28 : r_26.toInt = (0 : Int) := i_eq.mp c_28
          replace q_27 : (x4.toInt < (0 : Int) ∨ (1 : Int) < x4.toInt) := by omega
          exact ok_some (show (0 ≤ walk_glide.toInt) ∧ (walk_glide.toInt ≤ 3) from ⟨by omega, by omega⟩)
        · skip
          have c_28 : ¬ r_26.toInt = (0 : Int) := fun z => c_28 (i_eq.mpr z)
          replace q_27 : (0 : Int) ≤ x4.toInt ∧ x4.toInt ≤ (1 : Int) := by omega
          refine ok_bd25 (s_X6_weighed o_walkIsOld o_endsAreOld told_pieceCount told_dragCount told_settings told_howFar told_tones told_currents told_warmths told_fars told_pieceCells told_pieceMonths told_pieceHighs told_pieceAges told_pieceNeeds told_dragCells told_dragEighths walk_last walk_turnsLet walk_slowsLet walk_fuel walk_glide walk_count walk_weightSum walk_toPass walk_foundNumber walk_foundWeight walk_foundTurns walk_foundSlowed walk_howFar walk_tones walk_only walk_fars walk_cellAt walk_ends walk_seen walk_begun seas_known ends_total ends_sums (by first | with_reducible assumption | with_reducible rfl | omega) (show 0 ≤ (walk_glide).toInt by omega) (show (walk_glide).toInt ≤ 3 by omega) (show 0 ≤ (told_pieceCount).toInt by omega) (show (told_pieceCount).toInt ≤ 4 by omega)) (fun w_29 w_30 w_31 w_32 w_33 w_34 w_35 w_36 w_37 w_38 w_39 w_40 w_41 w_42 w_43 w_44 w_45 w_46 w_47 w_48 w_49 w_50 w_51 w_52 w_53 q_54 => ?_)
          obtain ⟨q_54_0, q_54_1⟩ : (0 ≤ w_35.toInt) ∧ (w_35.toInt ≤ 3) := q_54
          exact l52 FU x1 x2 x3 x4 0 0 w_29 w_30 w_31 w_32 w_33 w_34 w_35 w_36 w_37 w_38 w_39 w_40 w_41 w_42 w_43 w_44 w_45 w_46 w_47 w_48 w_49 w_50 w_51 w_52 w_53 (FU_gt (show (100 - (0 : Int)).toNat < 1000000000000 by omega)) (show 0 ≤ (0 : Int) by omega) (show (0 : Int) ≤ 100 by omega) (show 0 ≤ (w_35).toInt by omega) (show (w_35).toInt ≤ 3 by omega)
set_option maxRecDepth 100000 in
set_option maxHeartbeats 4000000 in
theorem s_X6_held (x1 : Int32) (x2 : Int32) (x3 : Int32) (told_settings : Nat → Int32) (told_howFar : Nat → Int32) (told_tones : Nat → Int32) (told_fars : Nat → Int32) (trial_last : Int32) (trial_turnsLet : Int32) (trial_slowsLet : Int32) (trial_fuel : Int32) (trial_glide : Int32) (trial_count : Int32) (trial_weightSum : Int64) (trial_toPass : Int32) (trial_foundNumber : Int32) (trial_foundWeight : Int32) (trial_foundTurns : Int32) (trial_foundSlowed : Int32) (trial_howFar : Nat → Int32) (trial_tones : Nat → Int32) (trial_only : Nat → Int32) (trial_fars : Nat → Int32) (trial_cellAt : Nat → Int32) (trial_ends : Nat → Int64) (trial_seen : Nat → Int32) (trial_begun : Nat → Int32) (sh_lane : Nat → Int32) (sh_size : Nat → Int32) (sh_items : Nat → Nat → Int32) (h0 : SetOK told_settings) (h1 : ∀ j : Nat, j < 4 → 0 ≤ (sh_size j).toInt ∧ (sh_size j).toInt ≤ 16) : okP (f_X6_held x1 x2 x3 told_settings told_howFar told_tones told_fars trial_last trial_turnsLet trial_slowsLet trial_fuel trial_glide trial_count trial_weightSum trial_toPass trial_foundNumber trial_foundWeight trial_foundTurns trial_foundSlowed trial_howFar trial_tones trial_only trial_fars trial_cellAt trial_ends trial_seen trial_begun sh_lane sh_size sh_items) (fun u => True) := by
  obtain ⟨s0a, s0b, s1a, s1b, s2a, s2b, s3a, s3b, s4a, s4b, s5a, s5b, s6a, s6b, s7a, s7b⟩ := id h0
  unfold f_X6_held
  first | (have f_1 : ((told_settings 2) + 1).toInt = (told_settings 2).toInt + (1 : Int) := i_add2 rfl rfl (by omega) (by omega)) | skip
  refine ok_nmi (fun x_2 hx_2 kx_2 => ?_)
  refine ok_bd1 (s_X6_wrongRow x1 x2 x3 x_2 sh_lane sh_size (by first | with_reducible assumption | with_reducible rfl | omega)) (fun r_3 q_4 => ?_)
  replace q_4 : (¬ (0 ≤ x1.toInt ∧ x1.toInt < 4 ∧ 0 ≤ x2.toInt ∧ x2.toInt < 3) ∧ r_3.toInt = -1) ∨ ((0 ≤ x1.toInt ∧ x1.toInt < 4 ∧ 0 ≤ x2.toInt ∧ x2.toInt < 3) ∧ (sh_lane x1.toNatClampNeg).toInt = -1 ∧ r_3.toInt = -11) ∨ ((0 ≤ x1.toInt ∧ x1.toInt < 4 ∧ 0 ≤ x2.toInt ∧ x2.toInt < 3) ∧ ¬ (sh_lane x1.toNatClampNeg).toInt = -1 ∧ ¬ (sh_lane x1.toNatClampNeg).toInt = x2.toInt ∧ r_3.toInt = -12) ∨ ((0 ≤ x1.toInt ∧ x1.toInt < 4 ∧ 0 ≤ x2.toInt ∧ x2.toInt < 3) ∧ ¬ (sh_lane x1.toNatClampNeg).toInt = -1 ∧ (sh_lane x1.toNatClampNeg).toInt = x2.toInt ∧ ¬ (0 ≤ x3.toInt ∧ 0 ≤ x_2.toInt ∧ x3.toInt + x_2.toInt ≤ (sh_size x1.toNatClampNeg).toInt) ∧ r_3.toInt = -13) ∨ ((0 ≤ x1.toInt ∧ x1.toInt < 4 ∧ 0 ≤ x2.toInt ∧ x2.toInt < 3) ∧ ¬ (sh_lane x1.toNatClampNeg).toInt = -1 ∧ (sh_lane x1.toNatClampNeg).toInt = x2.toInt ∧ 0 ≤ x3.toInt ∧ 0 ≤ x_2.toInt ∧ x3.toInt + x_2.toInt ≤ (sh_size x1.toNatClampNeg).toInt ∧ r_3.toInt = 0) := q_4
  refine ok_ite (fun c_5 => ?_) (fun c_5 => ?_)
  · skip
    have c_5 : (0 : Int) ≤ r_3.toInt := i_le.mp c_5
    have ix_7 : ¬ (x1 < 0 ∨ 4 ≤ x1.toNatClampNeg) := ix (show 0 ≤ x1.toInt by omega) (show x1.toInt < (4 : Nat) by omega)
    refine ok_chk ix_7 ?_
    refine ok_nmx (fun j_6 hj_6 => ?_)
    have kj_6 : (j_6 : Int) = x1.toInt := by rw [hj_6]; exact clI (by omega)
    obtain ⟨hsj_6a, hsj_6b⟩ := h1 j_6 (by omega)
    first | (have f_8 : (x3 + x_2).toInt = x3.toInt + x_2.toInt := i_add2 rfl rfl (by omega) (by omega)) | skip
    first | (have f_9 : ((x3 + x_2) - 1).toInt = (x3 + x_2).toInt - (1 : Int) := i_sub2 rfl rfl (by omega) (by omega)) | skip
    refine ok_bd1 (s_X2_at ((x3 + x_2) - 1) (sh_size j_6) (sh_items j_6) (show 0 ≤ ((sh_size j_6)).toInt by omega) (show ((sh_size j_6)).toInt ≤ 16 by omega)) (fun r_10 q_11 => ?_)
    refine ok_bd10 (s_X5_begin trial_last trial_turnsLet trial_slowsLet trial_fuel trial_glide trial_howFar trial_tones trial_only trial_fars trial_cellAt told_settings told_howFar told_tones told_fars) (fun w_12 w_13 w_14 w_15 w_16 w_17 w_18 w_19 w_20 w_21 q_22 => ?_)
    obtain ⟨q_22_0, q_22_1, q_22_2⟩ : (w_16.toInt = (told_settings 6).toInt) ∧ (w_12.toInt = (told_settings 2).toInt) ∧ ((w_21 0).toInt = (told_settings 1).toInt) := q_22
    refine ok_bd2 (s_X5_leaveOutRings w_17 w_18) (fun w_23 w_24 q_25 => ?_)
    refine ok_bd1 (s_X5_keepTo x3 w_12 w_19 (sh_size j_6) (sh_items j_6) (show 0 ≤ ((sh_size j_6)).toInt by omega) (show ((sh_size j_6)).toInt ≤ 16 by omega)) (fun w_26 q_27 => ?_)
    refine ok_bd11 (s_X5_goAll w_12 w_13 w_14 w_15 w_16 trial_count trial_weightSum trial_toPass trial_foundNumber trial_foundWeight trial_foundTurns trial_foundSlowed w_23 w_24 w_26 w_20 w_21 trial_ends trial_seen trial_begun (w_21 0) (by first | with_reducible assumption | with_reducible rfl | omega) (show 0 ≤ ((w_21 0)).toInt by omega) (show ((w_21 0)).toInt ≤ 99 by omega) (show 0 ≤ (w_16).toInt by omega) (show (w_16).toInt ≤ 3 by omega)) (fun w_28 w_29 w_30 w_31 w_32 w_33 w_34 w_35 w_36 w_37 w_38 q_39 => ?_)
    refine ok_ite (fun c_40 => ?_) (fun c_40 => ?_)
    · skip
      have c_40 : w_28.toInt = (0 : Int) := i_eq.mp c_40
      exact ok_some trivial
    · skip
      have c_40 : ¬ w_28.toInt = (0 : Int) := fun z => c_40 (i_eq.mpr z)
      refine ok_bd1 (s_X6_isCell r_10) (fun r_41 q_42 => ?_)
      replace q_42 : (r_41.toInt = 1 ∧ 0 ≤ r_10.toInt ∧ r_10.toInt < 100) ∨ (r_41.toInt = 0 ∧ (r_10.toInt < 0 ∨ 100 ≤ r_10.toInt)) := q_42
      refine ok_ite (fun c_43 => ?_) (fun c_43 => ?_)
      · skip
        have c_43 : r_41.toInt = (0 : Int) := i_eq.mp c_43
        replace q_42 : (r_10.toInt < 0 ∨ 100 ≤ r_10.toInt) := by omega
        exact ok_some trivial
      · skip
        have c_43 : ¬ r_41.toInt = (0 : Int) := fun z => c_43 (i_eq.mpr z)
        replace q_42 : 0 ≤ r_10.toInt ∧ r_10.toInt < 100 := by omega
        refine ok_bd10 (s_X5_begin w_12 w_13 w_14 w_15 w_16 w_23 w_24 w_26 w_20 w_35 told_settings told_howFar told_tones told_fars) (fun w_44 w_45 w_46 w_47 w_48 w_49 w_50 w_51 w_52 w_53 q_54 => ?_)
        obtain ⟨q_54_0, q_54_1, q_54_2⟩ : (w_48.toInt = (told_settings 6).toInt) ∧ (w_44.toInt = (told_settings 2).toInt) ∧ ((w_53 0).toInt = (told_settings 1).toInt) := q_54
        refine ok_bd2 (s_X5_takeRingsOf x3 w_44 w_49 w_50 w_52 (sh_size j_6) (sh_items j_6) (show 0 ≤ ((sh_size j_6)).toInt by omega) (show ((sh_size j_6)).toInt ≤ 16 by omega)) (fun w_55 w_56 q_57 => ?_)
        refine ok_bd11 (s_X5_goAll w_44 w_45 w_46 w_47 w_48 w_28 w_29 w_30 w_31 w_32 w_33 w_34 w_55 w_56 w_51 w_52 w_53 w_36 w_37 w_38 (w_53 0) (by first | with_reducible assumption | with_reducible rfl | omega) (show 0 ≤ ((w_53 0)).toInt by omega) (show ((w_53 0)).toInt ≤ 99 by omega) (show 0 ≤ (w_48).toInt by omega) (show (w_48).toInt ≤ 3 by omega)) (fun w_58 w_59 w_60 w_61 w_62 w_63 w_64 w_65 w_66 w_67 w_68 q_69 => ?_)
        have ix_70 : ¬ (r_10 < 0 ∨ 100 ≤ r_10.toNatClampNeg) := ix (show 0 ≤ r_10.toInt by omega) (show r_10.toInt < (100 : Nat) by omega)
        refine ok_chk ix_70 ?_
        refine ok_bd1 (s_X6_howManyGreater 100 (w_66 r_10.toNatClampNeg) w_66 (show 100 < 1000 by omega)) (fun r_71 q_72 => ?_)
        exact ok_some trivial
  · skip
    have c_5 : ¬ (0 : Int) ≤ r_3.toInt := fun z => c_5 (i_le.mpr z)
    exact ok_some trivial
set_option maxRecDepth 100000 in
set_option maxHeartbeats 4000000 in
theorem s_X6_image (o_hasImage : Int32) (told_pieceCount : Int32) (told_dragCount : Int32) (told_settings : Nat → Int32) (told_howFar : Nat → Int32) (told_tones : Nat → Int32) (told_currents : Nat → Int32) (told_warmths : Nat → Int32) (told_depths : Nat → Int32) (told_fars : Nat → Int32) (told_pieceCells : Nat → Int32) (told_pieceMonths : Nat → Int32) (told_pieceHighs : Nat → Int32) (told_pieceAges : Nat → Int32) (told_pieceNeeds : Nat → Int32) (told_dragCells : Nat → Int32) (told_dragEighths : Nat → Int32) (kept_pieceCount : Int32) (kept_dragCount : Int32) (kept_settings : Nat → Int32) (kept_howFar : Nat → Int32) (kept_tones : Nat → Int32) (kept_currents : Nat → Int32) (kept_warmths : Nat → Int32) (kept_depths : Nat → Int32) (kept_fars : Nat → Int32) (kept_pieceCells : Nat → Int32) (kept_pieceMonths : Nat → Int32) (kept_pieceHighs : Nat → Int32) (kept_pieceAges : Nat → Int32) (kept_pieceNeeds : Nat → Int32) (kept_dragCells : Nat → Int32) (kept_dragEighths : Nat → Int32) : okP (f_X6_image o_hasImage told_pieceCount told_dragCount told_settings told_howFar told_tones told_currents told_warmths told_depths told_fars told_pieceCells told_pieceMonths told_pieceHighs told_pieceAges told_pieceNeeds told_dragCells told_dragEighths kept_pieceCount kept_dragCount kept_settings kept_howFar kept_tones kept_currents kept_warmths kept_depths kept_fars kept_pieceCells kept_pieceMonths kept_pieceHighs kept_pieceAges kept_pieceNeeds kept_dragCells kept_dragEighths) (fun u => (u.1.toInt = 1) ∧ (u.2.1.toInt = 1) ∧ (u.2.2.1 = told_pieceCount) ∧ (u.2.2.2.1 = told_dragCount) ∧ (u.2.2.2.2.1 = va_cpy told_settings kept_settings 0 0 8) ∧ (u.2.2.2.2.2.1 = va_cpy told_howFar kept_howFar 0 0 7) ∧ (u.2.2.2.2.2.2.1 = va_cpy told_tones kept_tones 0 0 7) ∧ (u.2.2.2.2.2.2.2.1 = va_cpy told_currents kept_currents 0 0 200) ∧ (u.2.2.2.2.2.2.2.2.1 = va_cpy told_warmths kept_warmths 0 0 200) ∧ (u.2.2.2.2.2.2.2.2.2.1 = va_cpy told_depths kept_depths 0 0 100) ∧ (u.2.2.2.2.2.2.2.2.2.2.1 = va_cpy told_fars kept_fars 0 0 100) ∧ (u.2.2.2.2.2.2.2.2.2.2.2.1 = va_cpy told_pieceCells kept_pieceCells 0 0 4) ∧ (u.2.2.2.2.2.2.2.2.2.2.2.2.1 = va_cpy told_pieceMonths kept_pieceMonths 0 0 4) ∧ (u.2.2.2.2.2.2.2.2.2.2.2.2.2.1 = va_cpy told_pieceHighs kept_pieceHighs 0 0 4) ∧ (u.2.2.2.2.2.2.2.2.2.2.2.2.2.2.1 = va_cpy told_pieceAges kept_pieceAges 0 0 4) ∧ (u.2.2.2.2.2.2.2.2.2.2.2.2.2.2.2.1 = va_cpy told_pieceNeeds kept_pieceNeeds 0 0 4) ∧ (u.2.2.2.2.2.2.2.2.2.2.2.2.2.2.2.2.1 = va_cpy told_dragCells kept_dragCells 0 0 4) ∧ (u.2.2.2.2.2.2.2.2.2.2.2.2.2.2.2.2.2 = va_cpy told_dragEighths kept_dragEighths 0 0 4)) := by
  unfold f_X6_image
  refine ok_bd16 (s_X4_take kept_pieceCount kept_dragCount kept_settings kept_howFar kept_tones kept_currents kept_warmths kept_depths kept_fars kept_pieceCells kept_pieceMonths kept_pieceHighs kept_pieceAges kept_pieceNeeds kept_dragCells kept_dragEighths told_pieceCount told_dragCount told_settings told_howFar told_tones told_currents told_warmths told_depths told_fars told_pieceCells told_pieceMonths told_pieceHighs told_pieceAges told_pieceNeeds told_dragCells told_dragEighths) (fun w_1 w_2 w_3 w_4 w_5 w_6 w_7 w_8 w_9 w_10 w_11 w_12 w_13 w_14 w_15 w_16 q_17 => ?_)
  obtain ⟨q_17_0, q_17_1, q_17_2, q_17_3, q_17_4, q_17_5, q_17_6, q_17_7, q_17_8, q_17_9, q_17_10, q_17_11, q_17_12, q_17_13, q_17_14, q_17_15⟩ : (w_1 = told_pieceCount) ∧ (w_2 = told_dragCount) ∧ (w_3 = va_cpy told_settings kept_settings 0 0 8) ∧ (w_4 = va_cpy told_howFar kept_howFar 0 0 7) ∧ (w_5 = va_cpy told_tones kept_tones 0 0 7) ∧ (w_6 = va_cpy told_currents kept_currents 0 0 200) ∧ (w_7 = va_cpy told_warmths kept_warmths 0 0 200) ∧ (w_8 = va_cpy told_depths kept_depths 0 0 100) ∧ (w_9 = va_cpy told_fars kept_fars 0 0 100) ∧ (w_10 = va_cpy told_pieceCells kept_pieceCells 0 0 4) ∧ (w_11 = va_cpy told_pieceMonths kept_pieceMonths 0 0 4) ∧ (w_12 = va_cpy told_pieceHighs kept_pieceHighs 0 0 4) ∧ (w_13 = va_cpy told_pieceAges kept_pieceAges 0 0 4) ∧ (w_14 = va_cpy told_pieceNeeds kept_pieceNeeds 0 0 4) ∧ (w_15 = va_cpy told_dragCells kept_dragCells 0 0 4) ∧ (w_16 = va_cpy told_dragEighths kept_dragEighths 0 0 4) := q_17
  exact ok_some (show ((1 : Int) = 1) ∧ ((1 : Int) = 1) ∧ (w_1 = told_pieceCount) ∧ (w_2 = told_dragCount) ∧ (w_3 = va_cpy told_settings kept_settings 0 0 8) ∧ (w_4 = va_cpy told_howFar kept_howFar 0 0 7) ∧ (w_5 = va_cpy told_tones kept_tones 0 0 7) ∧ (w_6 = va_cpy told_currents kept_currents 0 0 200) ∧ (w_7 = va_cpy told_warmths kept_warmths 0 0 200) ∧ (w_8 = va_cpy told_depths kept_depths 0 0 100) ∧ (w_9 = va_cpy told_fars kept_fars 0 0 100) ∧ (w_10 = va_cpy told_pieceCells kept_pieceCells 0 0 4) ∧ (w_11 = va_cpy told_pieceMonths kept_pieceMonths 0 0 4) ∧ (w_12 = va_cpy told_pieceHighs kept_pieceHighs 0 0 4) ∧ (w_13 = va_cpy told_pieceAges kept_pieceAges 0 0 4) ∧ (w_14 = va_cpy told_pieceNeeds kept_pieceNeeds 0 0 4) ∧ (w_15 = va_cpy told_dragCells kept_dragCells 0 0 4) ∧ (w_16 = va_cpy told_dragEighths kept_dragEighths 0 0 4) from ⟨by omega, by omega, by first | with_reducible assumption | with_reducible rfl | omega, by first | with_reducible assumption | with_reducible rfl | omega, by first | with_reducible assumption | with_reducible rfl | omega, by first | with_reducible assumption | with_reducible rfl | omega, by first | with_reducible assumption | with_reducible rfl | omega, by first | with_reducible assumption | with_reducible rfl | omega, by first | with_reducible assumption | with_reducible rfl | omega, by first | with_reducible assumption | with_reducible rfl | omega, by first | with_reducible assumption | with_reducible rfl | omega, by first | with_reducible assumption | with_reducible rfl | omega, by first | with_reducible assumption | with_reducible rfl | omega, by first | with_reducible assumption | with_reducible rfl | omega, by first | with_reducible assumption | with_reducible rfl | omega, by first | with_reducible assumption | with_reducible rfl | omega, by first | with_reducible assumption | with_reducible rfl | omega, by first | with_reducible assumption | with_reducible rfl | omega⟩)
set_option maxRecDepth 100000 in
set_option maxHeartbeats 4000000 in
theorem s_X6_restore (o_hasImage : Int32) (o_walkIsOld : Int32) (o_endsAreOld : Int32) (told_pieceCount : Int32) (told_dragCount : Int32) (told_settings : Nat → Int32) (told_howFar : Nat → Int32) (told_tones : Nat → Int32) (told_currents : Nat → Int32) (told_warmths : Nat → Int32) (told_depths : Nat → Int32) (told_fars : Nat → Int32) (told_pieceCells : Nat → Int32) (told_pieceMonths : Nat → Int32) (told_pieceHighs : Nat → Int32) (told_pieceAges : Nat → Int32) (told_pieceNeeds : Nat → Int32) (told_dragCells : Nat → Int32) (told_dragEighths : Nat → Int32) (kept_pieceCount : Int32) (kept_dragCount : Int32) (kept_settings : Nat → Int32) (kept_howFar : Nat → Int32) (kept_tones : Nat → Int32) (kept_currents : Nat → Int32) (kept_warmths : Nat → Int32) (kept_depths : Nat → Int32) (kept_fars : Nat → Int32) (kept_pieceCells : Nat → Int32) (kept_pieceMonths : Nat → Int32) (kept_pieceHighs : Nat → Int32) (kept_pieceAges : Nat → Int32) (kept_pieceNeeds : Nat → Int32) (kept_dragCells : Nat → Int32) (kept_dragEighths : Nat → Int32) (seas_known : Nat → Int32) : okP (f_X6_restore o_hasImage o_walkIsOld o_endsAreOld told_pieceCount told_dragCount told_settings told_howFar told_tones told_currents told_warmths told_depths told_fars told_pieceCells told_pieceMonths told_pieceHighs told_pieceAges told_pieceNeeds told_dragCells told_dragEighths kept_pieceCount kept_dragCount kept_settings kept_howFar kept_tones kept_currents kept_warmths kept_depths kept_fars kept_pieceCells kept_pieceMonths kept_pieceHighs kept_pieceAges kept_pieceNeeds kept_dragCells kept_dragEighths seas_known) (fun u => ((o_hasImage.toInt = 0 ∧ u.1.toInt = -4 ∧ u.2.2.2.1 = told_pieceCount ∧ u.2.2.2.2.1 = told_dragCount ∧ u.2.2.2.2.2.1 = told_settings ∧ u.2.2.2.2.2.2.1 = told_howFar ∧ u.2.2.2.2.2.2.2.1 = told_tones ∧ u.2.2.2.2.2.2.2.2.1 = told_currents ∧ u.2.2.2.2.2.2.2.2.2.1 = told_warmths ∧ u.2.2.2.2.2.2.2.2.2.2.1 = told_depths ∧ u.2.2.2.2.2.2.2.2.2.2.2.1 = told_fars ∧ u.2.2.2.2.2.2.2.2.2.2.2.2.1 = told_pieceCells ∧ u.2.2.2.2.2.2.2.2.2.2.2.2.2.1 = told_pieceMonths ∧ u.2.2.2.2.2.2.2.2.2.2.2.2.2.2.1 = told_pieceHighs ∧ u.2.2.2.2.2.2.2.2.2.2.2.2.2.2.2.1 = told_pieceAges ∧ u.2.2.2.2.2.2.2.2.2.2.2.2.2.2.2.2.1 = told_pieceNeeds ∧ u.2.2.2.2.2.2.2.2.2.2.2.2.2.2.2.2.2.1 = told_dragCells ∧ u.2.2.2.2.2.2.2.2.2.2.2.2.2.2.2.2.2.2.1 = told_dragEighths) ∨ (¬ o_hasImage.toInt = 0 ∧ u.1.toInt = 1 ∧ u.2.2.2.1 = kept_pieceCount ∧ u.2.2.2.2.1 = kept_dragCount ∧ u.2.2.2.2.2.1 = va_cpy kept_settings told_settings 0 0 8 ∧ u.2.2.2.2.2.2.1 = va_cpy kept_howFar told_howFar 0 0 7 ∧ u.2.2.2.2.2.2.2.1 = va_cpy kept_tones told_tones 0 0 7 ∧ u.2.2.2.2.2.2.2.2.1 = va_cpy kept_currents told_currents 0 0 200 ∧ u.2.2.2.2.2.2.2.2.2.1 = va_cpy kept_warmths told_warmths 0 0 200 ∧ u.2.2.2.2.2.2.2.2.2.2.1 = va_cpy kept_depths told_depths 0 0 100 ∧ u.2.2.2.2.2.2.2.2.2.2.2.1 = va_cpy kept_fars told_fars 0 0 100 ∧ u.2.2.2.2.2.2.2.2.2.2.2.2.1 = va_cpy kept_pieceCells told_pieceCells 0 0 4 ∧ u.2.2.2.2.2.2.2.2.2.2.2.2.2.1 = va_cpy kept_pieceMonths told_pieceMonths 0 0 4 ∧ u.2.2.2.2.2.2.2.2.2.2.2.2.2.2.1 = va_cpy kept_pieceHighs told_pieceHighs 0 0 4 ∧ u.2.2.2.2.2.2.2.2.2.2.2.2.2.2.2.1 = va_cpy kept_pieceAges told_pieceAges 0 0 4 ∧ u.2.2.2.2.2.2.2.2.2.2.2.2.2.2.2.2.1 = va_cpy kept_pieceNeeds told_pieceNeeds 0 0 4 ∧ u.2.2.2.2.2.2.2.2.2.2.2.2.2.2.2.2.2.1 = va_cpy kept_dragCells told_dragCells 0 0 4 ∧ u.2.2.2.2.2.2.2.2.2.2.2.2.2.2.2.2.2.2.1 = va_cpy kept_dragEighths told_dragEighths 0 0 4))) := by
  unfold f_X6_restore
  refine ok_ite (fun c_1 => ?_) (fun c_1 => ?_)
  · skip
    have c_1 : o_hasImage.toInt = (0 : Int) := i_eq.mp c_1
    exact ok_some (show ((o_hasImage.toInt = 0 ∧ (-4 : Int) = -4 ∧ told_pieceCount = told_pieceCount ∧ told_dragCount = told_dragCount ∧ told_settings = told_settings ∧ told_howFar = told_howFar ∧ told_tones = told_tones ∧ told_currents = told_currents ∧ told_warmths = told_warmths ∧ told_depths = told_depths ∧ told_fars = told_fars ∧ told_pieceCells = told_pieceCells ∧ told_pieceMonths = told_pieceMonths ∧ told_pieceHighs = told_pieceHighs ∧ told_pieceAges = told_pieceAges ∧ told_pieceNeeds = told_pieceNeeds ∧ told_dragCells = told_dragCells ∧ told_dragEighths = told_dragEighths) ∨ (¬ o_hasImage.toInt = 0 ∧ (-4 : Int) = 1 ∧ told_pieceCount = kept_pieceCount ∧ told_dragCount = kept_dragCount ∧ told_settings = va_cpy kept_settings told_settings 0 0 8 ∧ told_howFar = va_cpy kept_howFar told_howFar 0 0 7 ∧ told_tones = va_cpy kept_tones told_tones 0 0 7 ∧ told_currents = va_cpy kept_currents told_currents 0 0 200 ∧ told_warmths = va_cpy kept_warmths told_warmths 0 0 200 ∧ told_depths = va_cpy kept_depths told_depths 0 0 100 ∧ told_fars = va_cpy kept_fars told_fars 0 0 100 ∧ told_pieceCells = va_cpy kept_pieceCells told_pieceCells 0 0 4 ∧ told_pieceMonths = va_cpy kept_pieceMonths told_pieceMonths 0 0 4 ∧ told_pieceHighs = va_cpy kept_pieceHighs told_pieceHighs 0 0 4 ∧ told_pieceAges = va_cpy kept_pieceAges told_pieceAges 0 0 4 ∧ told_pieceNeeds = va_cpy kept_pieceNeeds told_pieceNeeds 0 0 4 ∧ told_dragCells = va_cpy kept_dragCells told_dragCells 0 0 4 ∧ told_dragEighths = va_cpy kept_dragEighths told_dragEighths 0 0 4)) from by first | with_reducible assumption | with_reducible rfl | exact Or.inl ⟨by omega, by omega, rfl, rfl, rfl, rfl, rfl, rfl, rfl, rfl, rfl, rfl, rfl, rfl, rfl, rfl, rfl, rfl⟩ | exact Or.inr ⟨by omega, by omega, by assumption, by assumption, by assumption, by assumption, by assumption, by assumption, by assumption, by assumption, by assumption, by assumption, by assumption, by assumption, by assumption, by assumption, by assumption, by assumption⟩ | omega)
  · skip
    have c_1 : ¬ o_hasImage.toInt = (0 : Int) := fun z => c_1 (i_eq.mpr z)
    refine ok_bd16 (s_X4_take told_pieceCount told_dragCount told_settings told_howFar told_tones told_currents told_warmths told_depths told_fars told_pieceCells told_pieceMonths told_pieceHighs told_pieceAges told_pieceNeeds told_dragCells told_dragEighths kept_pieceCount kept_dragCount kept_settings kept_howFar kept_tones kept_currents kept_warmths kept_depths kept_fars kept_pieceCells kept_pieceMonths kept_pieceHighs kept_pieceAges kept_pieceNeeds kept_dragCells kept_dragEighths) (fun w_2 w_3 w_4 w_5 w_6 w_7 w_8 w_9 w_10 w_11 w_12 w_13 w_14 w_15 w_16 w_17 q_18 => ?_)
    obtain ⟨q_18_0, q_18_1, q_18_2, q_18_3, q_18_4, q_18_5, q_18_6, q_18_7, q_18_8, q_18_9, q_18_10, q_18_11, q_18_12, q_18_13, q_18_14, q_18_15⟩ : (w_2 = kept_pieceCount) ∧ (w_3 = kept_dragCount) ∧ (w_4 = va_cpy kept_settings told_settings 0 0 8) ∧ (w_5 = va_cpy kept_howFar told_howFar 0 0 7) ∧ (w_6 = va_cpy kept_tones told_tones 0 0 7) ∧ (w_7 = va_cpy kept_currents told_currents 0 0 200) ∧ (w_8 = va_cpy kept_warmths told_warmths 0 0 200) ∧ (w_9 = va_cpy kept_depths told_depths 0 0 100) ∧ (w_10 = va_cpy kept_fars told_fars 0 0 100) ∧ (w_11 = va_cpy kept_pieceCells told_pieceCells 0 0 4) ∧ (w_12 = va_cpy kept_pieceMonths told_pieceMonths 0 0 4) ∧ (w_13 = va_cpy kept_pieceHighs told_pieceHighs 0 0 4) ∧ (w_14 = va_cpy kept_pieceAges told_pieceAges 0 0 4) ∧ (w_15 = va_cpy kept_pieceNeeds told_pieceNeeds 0 0 4) ∧ (w_16 = va_cpy kept_dragCells told_dragCells 0 0 4) ∧ (w_17 = va_cpy kept_dragEighths told_dragEighths 0 0 4) := q_18
    refine ok_bd2 (s_X6_waysChanged o_walkIsOld o_endsAreOld) (fun w_19 w_20 q_21 => ?_)
    refine ok_bd2 (s_X6_seaChanged w_20 seas_known) (fun w_22 w_23 q_24 => ?_)
    exact ok_some (show ((o_hasImage.toInt = 0 ∧ (1 : Int) = -4 ∧ w_2 = told_pieceCount ∧ w_3 = told_dragCount ∧ w_4 = told_settings ∧ w_5 = told_howFar ∧ w_6 = told_tones ∧ w_7 = told_currents ∧ w_8 = told_warmths ∧ w_9 = told_depths ∧ w_10 = told_fars ∧ w_11 = told_pieceCells ∧ w_12 = told_pieceMonths ∧ w_13 = told_pieceHighs ∧ w_14 = told_pieceAges ∧ w_15 = told_pieceNeeds ∧ w_16 = told_dragCells ∧ w_17 = told_dragEighths) ∨ (¬ o_hasImage.toInt = 0 ∧ (1 : Int) = 1 ∧ w_2 = kept_pieceCount ∧ w_3 = kept_dragCount ∧ w_4 = va_cpy kept_settings told_settings 0 0 8 ∧ w_5 = va_cpy kept_howFar told_howFar 0 0 7 ∧ w_6 = va_cpy kept_tones told_tones 0 0 7 ∧ w_7 = va_cpy kept_currents told_currents 0 0 200 ∧ w_8 = va_cpy kept_warmths told_warmths 0 0 200 ∧ w_9 = va_cpy kept_depths told_depths 0 0 100 ∧ w_10 = va_cpy kept_fars told_fars 0 0 100 ∧ w_11 = va_cpy kept_pieceCells told_pieceCells 0 0 4 ∧ w_12 = va_cpy kept_pieceMonths told_pieceMonths 0 0 4 ∧ w_13 = va_cpy kept_pieceHighs told_pieceHighs 0 0 4 ∧ w_14 = va_cpy kept_pieceAges told_pieceAges 0 0 4 ∧ w_15 = va_cpy kept_pieceNeeds told_pieceNeeds 0 0 4 ∧ w_16 = va_cpy kept_dragCells told_dragCells 0 0 4 ∧ w_17 = va_cpy kept_dragEighths told_dragEighths 0 0 4)) from by first | with_reducible assumption | with_reducible rfl | exact Or.inl ⟨by omega, by omega, rfl, rfl, rfl, rfl, rfl, rfl, rfl, rfl, rfl, rfl, rfl, rfl, rfl, rfl, rfl, rfl⟩ | exact Or.inr ⟨by omega, by omega, by assumption, by assumption, by assumption, by assumption, by assumption, by assumption, by assumption, by assumption, by assumption, by assumption, by assumption, by assumption, by assumption, by assumption, by assumption, by assumption⟩ | omega)
set_option maxRecDepth 100000 in
set_option maxHeartbeats 4000000 in
theorem s_X6_sheet (x1 : Int32) (x2 : Int32) (x3 : Int32) (sh_lane : Nat → Int32) (sh_size : Nat → Int32) (sh_items : Nat → Nat → Int32) (h0 : ∀ j : Nat, j < 4 → 0 ≤ (sh_size j).toInt ∧ (sh_size j).toInt ≤ 16) : okP (f_X6_sheet x1 x2 x3 sh_lane sh_size sh_items) (fun u => (∀ j : Nat, j < 4 → 0 ≤ (u.2.2.1 j).toInt ∧ (u.2.2.1 j).toInt ≤ 16) ∧ ((¬ (0 ≤ x1.toInt ∧ x1.toInt < 4 ∧ 0 ≤ x2.toInt ∧ x2.toInt < 3 ∧ x3.toInt ≤ 16) ∧ u.1.toInt = -1 ∧ u.2.1 = sh_lane ∧ u.2.2.1 = sh_size) ∨ ((0 ≤ x1.toInt ∧ x1.toInt < 4 ∧ 0 ≤ x2.toInt ∧ x2.toInt < 3 ∧ x3.toInt ≤ 16) ∧ x3.toInt < 0 ∧ u.1.toInt = -14 ∧ u.2.1 = sh_lane ∧ u.2.2.1 = sh_size) ∨ ((0 ≤ x1.toInt ∧ x1.toInt < 4 ∧ 0 ≤ x2.toInt ∧ x2.toInt < 3 ∧ x3.toInt ≤ 16) ∧ 0 ≤ x3.toInt ∧ u.1.toInt = x3.toInt ∧ u.2.1 = va_up sh_lane x1.toNatClampNeg x2 ∧ u.2.2.1 = va_up sh_size x1.toNatClampNeg x3))) := by
  unfold f_X6_sheet
  refine ok_bd1 (s_X6_isSheet x1) (fun r_1 q_2 => ?_)
  replace q_2 : (r_1.toInt = 1 ∧ 0 ≤ x1.toInt ∧ x1.toInt < 4) ∨ (r_1.toInt = 0 ∧ (x1.toInt < 0 ∨ 4 ≤ x1.toInt)) := q_2
  refine ok_ite (fun c_3 => ?_) (fun c_3 => ?_)
  · skip
    have c_3 : r_1.toInt = (0 : Int) := i_eq.mp c_3
    replace q_2 : (x1.toInt < 0 ∨ 4 ≤ x1.toInt) := by omega
    exact ok_some (show (∀ j : Nat, j < 4 → 0 ≤ (sh_size j).toInt ∧ (sh_size j).toInt ≤ 16) ∧ ((¬ (0 ≤ x1.toInt ∧ x1.toInt < 4 ∧ 0 ≤ x2.toInt ∧ x2.toInt < 3 ∧ x3.toInt ≤ 16) ∧ (-1 : Int) = -1 ∧ sh_lane = sh_lane ∧ sh_size = sh_size) ∨ ((0 ≤ x1.toInt ∧ x1.toInt < 4 ∧ 0 ≤ x2.toInt ∧ x2.toInt < 3 ∧ x3.toInt ≤ 16) ∧ x3.toInt < 0 ∧ (-1 : Int) = -14 ∧ sh_lane = sh_lane ∧ sh_size = sh_size) ∨ ((0 ≤ x1.toInt ∧ x1.toInt < 4 ∧ 0 ≤ x2.toInt ∧ x2.toInt < 3 ∧ x3.toInt ≤ 16) ∧ 0 ≤ x3.toInt ∧ (-1 : Int) = x3.toInt ∧ sh_lane = va_up sh_lane x1.toNatClampNeg x2 ∧ sh_size = va_up sh_size x1.toNatClampNeg x3)) from ⟨by first | with_reducible assumption | with_reducible rfl | (subst_vars; exact shs_up (by assumption) (by omega) (by omega)) | exact Or.inl ⟨by omega, rfl, rfl, rfl⟩ | exact Or.inr (Or.inl ⟨by omega, by omega, rfl, rfl, rfl⟩) | exact Or.inr (Or.inr ⟨by omega, by omega, rfl, by subst_vars; rfl, by subst_vars; rfl⟩) | omega, by first | with_reducible assumption | with_reducible rfl | (subst_vars; exact shs_up (by assumption) (by omega) (by omega)) | exact Or.inl ⟨by omega, rfl, rfl, rfl⟩ | exact Or.inr (Or.inl ⟨by omega, by omega, rfl, rfl, rfl⟩) | exact Or.inr (Or.inr ⟨by omega, by omega, rfl, by subst_vars; rfl, by subst_vars; rfl⟩) | omega⟩)
  · skip
    have c_3 : ¬ r_1.toInt = (0 : Int) := fun z => c_3 (i_eq.mpr z)
    replace q_2 : 0 ≤ x1.toInt ∧ x1.toInt < 4 := by omega
    refine ok_bd1 (s_X6_isLane x2) (fun r_4 q_5 => ?_)
    replace q_5 : (r_4.toInt = 1 ∧ 0 ≤ x2.toInt ∧ x2.toInt < 3) ∨ (r_4.toInt = 0 ∧ (x2.toInt < 0 ∨ 3 ≤ x2.toInt)) := q_5
    refine ok_ite (fun c_6 => ?_) (fun c_6 => ?_)
    · skip
      have c_6 : r_4.toInt = (0 : Int) := i_eq.mp c_6
      replace q_5 : (x2.toInt < 0 ∨ 3 ≤ x2.toInt) := by omega
      exact ok_some (show (∀ j : Nat, j < 4 → 0 ≤ (sh_size j).toInt ∧ (sh_size j).toInt ≤ 16) ∧ ((¬ (0 ≤ x1.toInt ∧ x1.toInt < 4 ∧ 0 ≤ x2.toInt ∧ x2.toInt < 3 ∧ x3.toInt ≤ 16) ∧ (-1 : Int) = -1 ∧ sh_lane = sh_lane ∧ sh_size = sh_size) ∨ ((0 ≤ x1.toInt ∧ x1.toInt < 4 ∧ 0 ≤ x2.toInt ∧ x2.toInt < 3 ∧ x3.toInt ≤ 16) ∧ x3.toInt < 0 ∧ (-1 : Int) = -14 ∧ sh_lane = sh_lane ∧ sh_size = sh_size) ∨ ((0 ≤ x1.toInt ∧ x1.toInt < 4 ∧ 0 ≤ x2.toInt ∧ x2.toInt < 3 ∧ x3.toInt ≤ 16) ∧ 0 ≤ x3.toInt ∧ (-1 : Int) = x3.toInt ∧ sh_lane = va_up sh_lane x1.toNatClampNeg x2 ∧ sh_size = va_up sh_size x1.toNatClampNeg x3)) from ⟨by first | with_reducible assumption | with_reducible rfl | (subst_vars; exact shs_up (by assumption) (by omega) (by omega)) | exact Or.inl ⟨by omega, rfl, rfl, rfl⟩ | exact Or.inr (Or.inl ⟨by omega, by omega, rfl, rfl, rfl⟩) | exact Or.inr (Or.inr ⟨by omega, by omega, rfl, by subst_vars; rfl, by subst_vars; rfl⟩) | omega, by first | with_reducible assumption | with_reducible rfl | (subst_vars; exact shs_up (by assumption) (by omega) (by omega)) | exact Or.inl ⟨by omega, rfl, rfl, rfl⟩ | exact Or.inr (Or.inl ⟨by omega, by omega, rfl, rfl, rfl⟩) | exact Or.inr (Or.inr ⟨by omega, by omega, rfl, by subst_vars; rfl, by subst_vars; rfl⟩) | omega⟩)
    · skip
      have c_6 : ¬ r_4.toInt = (0 : Int) := fun z => c_6 (i_eq.mpr z)
      replace q_5 : 0 ≤ x2.toInt ∧ x2.toInt < 3 := by omega
      refine ok_ite (fun c_7 => ?_) (fun c_7 => ?_)
      · skip
        have c_7 : x3.toInt ≤ (16 : Int) := i_le.mp c_7
        refine ok_ite (fun c_8 => ?_) (fun c_8 => ?_)
        · skip
          have c_8 : (0 : Int) ≤ x3.toInt := i_le.mp c_8
          have ix_10 : ¬ (x1 < 0 ∨ 4 ≤ x1.toNatClampNeg) := ix (show 0 ≤ x1.toInt by omega) (show x1.toInt < (4 : Nat) by omega)
          refine ok_chk ix_10 ?_
          refine ok_nmx (fun j_9 hj_9 => ?_)
          have kj_9 : (j_9 : Int) = x1.toInt := by rw [hj_9]; exact clI (by omega)
          obtain ⟨hsj_9a, hsj_9b⟩ := h0 j_9 (by omega)
          refine ok_bd3 (s_X2_hold x2 x3 (sh_lane j_9) (sh_size j_9) (sh_items j_9)) (fun w_11 w_12 w_13 q_14 => ?_)
          obtain ⟨q_14_0, q_14_1⟩ : (w_11 = x2) ∧ (w_12 = x3) := q_14
          exact ok_some (show (∀ j : Nat, j < 4 → 0 ≤ ((va_up sh_size j_9 w_12) j).toInt ∧ ((va_up sh_size j_9 w_12) j).toInt ≤ 16) ∧ ((¬ (0 ≤ x1.toInt ∧ x1.toInt < 4 ∧ 0 ≤ x2.toInt ∧ x2.toInt < 3 ∧ x3.toInt ≤ 16) ∧ x3.toInt = -1 ∧ (va_up sh_lane j_9 w_11) = sh_lane ∧ (va_up sh_size j_9 w_12) = sh_size) ∨ ((0 ≤ x1.toInt ∧ x1.toInt < 4 ∧ 0 ≤ x2.toInt ∧ x2.toInt < 3 ∧ x3.toInt ≤ 16) ∧ x3.toInt < 0 ∧ x3.toInt = -14 ∧ (va_up sh_lane j_9 w_11) = sh_lane ∧ (va_up sh_size j_9 w_12) = sh_size) ∨ ((0 ≤ x1.toInt ∧ x1.toInt < 4 ∧ 0 ≤ x2.toInt ∧ x2.toInt < 3 ∧ x3.toInt ≤ 16) ∧ 0 ≤ x3.toInt ∧ x3.toInt = x3.toInt ∧ (va_up sh_lane j_9 w_11) = va_up sh_lane x1.toNatClampNeg x2 ∧ (va_up sh_size j_9 w_12) = va_up sh_size x1.toNatClampNeg x3)) from ⟨by first | with_reducible assumption | with_reducible rfl | (subst_vars; exact shs_up (by assumption) (by omega) (by omega)) | exact Or.inl ⟨by omega, rfl, rfl, rfl⟩ | exact Or.inr (Or.inl ⟨by omega, by omega, rfl, rfl, rfl⟩) | exact Or.inr (Or.inr ⟨by omega, by omega, rfl, by subst_vars; rfl, by subst_vars; rfl⟩) | omega, by first | with_reducible assumption | with_reducible rfl | (subst_vars; exact shs_up (by assumption) (by omega) (by omega)) | exact Or.inl ⟨by omega, rfl, rfl, rfl⟩ | exact Or.inr (Or.inl ⟨by omega, by omega, rfl, rfl, rfl⟩) | exact Or.inr (Or.inr ⟨by omega, by omega, rfl, by subst_vars; rfl, by subst_vars; rfl⟩) | omega⟩)
        · skip
          have c_8 : ¬ (0 : Int) ≤ x3.toInt := fun z => c_8 (i_le.mpr z)
          exact ok_some (show (∀ j : Nat, j < 4 → 0 ≤ (sh_size j).toInt ∧ (sh_size j).toInt ≤ 16) ∧ ((¬ (0 ≤ x1.toInt ∧ x1.toInt < 4 ∧ 0 ≤ x2.toInt ∧ x2.toInt < 3 ∧ x3.toInt ≤ 16) ∧ (-14 : Int) = -1 ∧ sh_lane = sh_lane ∧ sh_size = sh_size) ∨ ((0 ≤ x1.toInt ∧ x1.toInt < 4 ∧ 0 ≤ x2.toInt ∧ x2.toInt < 3 ∧ x3.toInt ≤ 16) ∧ x3.toInt < 0 ∧ (-14 : Int) = -14 ∧ sh_lane = sh_lane ∧ sh_size = sh_size) ∨ ((0 ≤ x1.toInt ∧ x1.toInt < 4 ∧ 0 ≤ x2.toInt ∧ x2.toInt < 3 ∧ x3.toInt ≤ 16) ∧ 0 ≤ x3.toInt ∧ (-14 : Int) = x3.toInt ∧ sh_lane = va_up sh_lane x1.toNatClampNeg x2 ∧ sh_size = va_up sh_size x1.toNatClampNeg x3)) from ⟨by first | with_reducible assumption | with_reducible rfl | (subst_vars; exact shs_up (by assumption) (by omega) (by omega)) | exact Or.inl ⟨by omega, rfl, rfl, rfl⟩ | exact Or.inr (Or.inl ⟨by omega, by omega, rfl, rfl, rfl⟩) | exact Or.inr (Or.inr ⟨by omega, by omega, rfl, by subst_vars; rfl, by subst_vars; rfl⟩) | omega, by first | with_reducible assumption | with_reducible rfl | (subst_vars; exact shs_up (by assumption) (by omega) (by omega)) | exact Or.inl ⟨by omega, rfl, rfl, rfl⟩ | exact Or.inr (Or.inl ⟨by omega, by omega, rfl, rfl, rfl⟩) | exact Or.inr (Or.inr ⟨by omega, by omega, rfl, by subst_vars; rfl, by subst_vars; rfl⟩) | omega⟩)
      · skip
        have c_7 : ¬ x3.toInt ≤ (16 : Int) := fun z => c_7 (i_le.mpr z)
        exact ok_some (show (∀ j : Nat, j < 4 → 0 ≤ (sh_size j).toInt ∧ (sh_size j).toInt ≤ 16) ∧ ((¬ (0 ≤ x1.toInt ∧ x1.toInt < 4 ∧ 0 ≤ x2.toInt ∧ x2.toInt < 3 ∧ x3.toInt ≤ 16) ∧ (-1 : Int) = -1 ∧ sh_lane = sh_lane ∧ sh_size = sh_size) ∨ ((0 ≤ x1.toInt ∧ x1.toInt < 4 ∧ 0 ≤ x2.toInt ∧ x2.toInt < 3 ∧ x3.toInt ≤ 16) ∧ x3.toInt < 0 ∧ (-1 : Int) = -14 ∧ sh_lane = sh_lane ∧ sh_size = sh_size) ∨ ((0 ≤ x1.toInt ∧ x1.toInt < 4 ∧ 0 ≤ x2.toInt ∧ x2.toInt < 3 ∧ x3.toInt ≤ 16) ∧ 0 ≤ x3.toInt ∧ (-1 : Int) = x3.toInt ∧ sh_lane = va_up sh_lane x1.toNatClampNeg x2 ∧ sh_size = va_up sh_size x1.toNatClampNeg x3)) from ⟨by first | with_reducible assumption | with_reducible rfl | (subst_vars; exact shs_up (by assumption) (by omega) (by omega)) | exact Or.inl ⟨by omega, rfl, rfl, rfl⟩ | exact Or.inr (Or.inl ⟨by omega, by omega, rfl, rfl, rfl⟩) | exact Or.inr (Or.inr ⟨by omega, by omega, rfl, by subst_vars; rfl, by subst_vars; rfl⟩) | omega, by first | with_reducible assumption | with_reducible rfl | (subst_vars; exact shs_up (by assumption) (by omega) (by omega)) | exact Or.inl ⟨by omega, rfl, rfl, rfl⟩ | exact Or.inr (Or.inl ⟨by omega, by omega, rfl, rfl, rfl⟩) | exact Or.inr (Or.inr ⟨by omega, by omega, rfl, by subst_vars; rfl, by subst_vars; rfl⟩) | omega⟩)
set_option maxRecDepth 100000 in
set_option maxHeartbeats 4000000 in
theorem s_X6_drop (x1 : Int32) (sh_lane : Nat → Int32) (sh_size : Nat → Int32) (h0 : ∀ j : Nat, j < 4 → 0 ≤ (sh_size j).toInt ∧ (sh_size j).toInt ≤ 16) : okP (f_X6_drop x1 sh_lane sh_size) (fun u => (∀ j : Nat, j < 4 → 0 ≤ (u.2.2 j).toInt ∧ (u.2.2 j).toInt ≤ 16) ∧ ((¬ (0 ≤ x1.toInt ∧ x1.toInt < 4) ∧ u.1.toInt = -1 ∧ u.2.1 = sh_lane ∧ u.2.2 = sh_size) ∨ ((0 ≤ x1.toInt ∧ x1.toInt < 4) ∧ (sh_lane x1.toNatClampNeg).toInt = -1 ∧ u.1.toInt = -11 ∧ u.2.1 = sh_lane ∧ u.2.2 = sh_size) ∨ ((0 ≤ x1.toInt ∧ x1.toInt < 4) ∧ ¬ (sh_lane x1.toNatClampNeg).toInt = -1 ∧ u.1.toInt = (sh_size x1.toNatClampNeg).toInt ∧ u.2.1 = va_up sh_lane x1.toNatClampNeg (-1) ∧ u.2.2 = va_up sh_size x1.toNatClampNeg 0))) := by
  unfold f_X6_drop
  refine ok_bd1 (s_X6_isSheet x1) (fun r_1 q_2 => ?_)
  replace q_2 : (r_1.toInt = 1 ∧ 0 ≤ x1.toInt ∧ x1.toInt < 4) ∨ (r_1.toInt = 0 ∧ (x1.toInt < 0 ∨ 4 ≤ x1.toInt)) := q_2
  refine ok_ite (fun c_3 => ?_) (fun c_3 => ?_)
  · skip
    have c_3 : r_1.toInt = (0 : Int) := i_eq.mp c_3
    replace q_2 : (x1.toInt < 0 ∨ 4 ≤ x1.toInt) := by omega
    exact ok_some (show (∀ j : Nat, j < 4 → 0 ≤ (sh_size j).toInt ∧ (sh_size j).toInt ≤ 16) ∧ ((¬ (0 ≤ x1.toInt ∧ x1.toInt < 4) ∧ (-1 : Int) = -1 ∧ sh_lane = sh_lane ∧ sh_size = sh_size) ∨ ((0 ≤ x1.toInt ∧ x1.toInt < 4) ∧ (sh_lane x1.toNatClampNeg).toInt = -1 ∧ (-1 : Int) = -11 ∧ sh_lane = sh_lane ∧ sh_size = sh_size) ∨ ((0 ≤ x1.toInt ∧ x1.toInt < 4) ∧ ¬ (sh_lane x1.toNatClampNeg).toInt = -1 ∧ (-1 : Int) = (sh_size x1.toNatClampNeg).toInt ∧ sh_lane = va_up sh_lane x1.toNatClampNeg (-1) ∧ sh_size = va_up sh_size x1.toNatClampNeg 0)) from ⟨by first | with_reducible assumption | with_reducible rfl | (exact shs_up (by assumption) (by omega) (by omega)) | (subst_vars; first | exact Or.inl ⟨by omega, rfl, rfl, rfl⟩ | exact Or.inr (Or.inl ⟨by omega, by omega, rfl, rfl, rfl⟩) | exact Or.inr (Or.inr ⟨by omega, by omega, by omega, rfl, rfl⟩)) | omega, by first | with_reducible assumption | with_reducible rfl | (exact shs_up (by assumption) (by omega) (by omega)) | (subst_vars; first | exact Or.inl ⟨by omega, rfl, rfl, rfl⟩ | exact Or.inr (Or.inl ⟨by omega, by omega, rfl, rfl, rfl⟩) | exact Or.inr (Or.inr ⟨by omega, by omega, by omega, rfl, rfl⟩)) | omega⟩)
  · skip
    have c_3 : ¬ r_1.toInt = (0 : Int) := fun z => c_3 (i_eq.mpr z)
    replace q_2 : 0 ≤ x1.toInt ∧ x1.toInt < 4 := by omega
    have ix_5 : ¬ (x1 < 0 ∨ 4 ≤ x1.toNatClampNeg) := ix (show 0 ≤ x1.toInt by omega) (show x1.toInt < (4 : Nat) by omega)
    refine ok_chk ix_5 ?_
    refine ok_nmx (fun j_4 hj_4 => ?_)
    have kj_4 : (j_4 : Int) = x1.toInt := by rw [hj_4]; exact clI (by omega)
    obtain ⟨hsj_4a, hsj_4b⟩ := h0 j_4 (by omega)
    refine ok_bd1 (s_X2_isNothing (sh_lane j_4)) (fun r_6 q_7 => ?_)
    replace q_7 : (r_6.toInt = 1 ∧ (sh_lane j_4).toInt = -1) ∨ (r_6.toInt = 0 ∧ ¬ (sh_lane j_4).toInt = -1) := q_7
    refine ok_ite (fun c_8 => ?_) (fun c_8 => ?_)
    · skip
      have c_8 : r_6.toInt = (0 : Int) := i_eq.mp c_8
      replace q_7 : ¬ (sh_lane j_4).toInt = -1 := by omega
      refine ok_nmi (fun x_9 hx_9 kx_9 => ?_)
      refine ok_bd2 (s_X2_holdNothing (sh_lane j_4) (sh_size j_4)) (fun w_10 w_11 q_12 => ?_)
      obtain ⟨q_12_0, q_12_1, q_12_2⟩ : (w_10 = -1) ∧ (w_11 = 0) ∧ (w_11.toInt = 0) := q_12
      exact ok_some (show (∀ j : Nat, j < 4 → 0 ≤ ((va_up sh_size j_4 w_11) j).toInt ∧ ((va_up sh_size j_4 w_11) j).toInt ≤ 16) ∧ ((¬ (0 ≤ x1.toInt ∧ x1.toInt < 4) ∧ x_9.toInt = -1 ∧ (va_up sh_lane j_4 w_10) = sh_lane ∧ (va_up sh_size j_4 w_11) = sh_size) ∨ ((0 ≤ x1.toInt ∧ x1.toInt < 4) ∧ (sh_lane x1.toNatClampNeg).toInt = -1 ∧ x_9.toInt = -11 ∧ (va_up sh_lane j_4 w_10) = sh_lane ∧ (va_up sh_size j_4 w_11) = sh_size) ∨ ((0 ≤ x1.toInt ∧ x1.toInt < 4) ∧ ¬ (sh_lane x1.toNatClampNeg).toInt = -1 ∧ x_9.toInt = (sh_size x1.toNatClampNeg).toInt ∧ (va_up sh_lane j_4 w_10) = va_up sh_lane x1.toNatClampNeg (-1) ∧ (va_up sh_size j_4 w_11) = va_up sh_size x1.toNatClampNeg 0)) from ⟨by first | with_reducible assumption | with_reducible rfl | (exact shs_up (by assumption) (by omega) (by omega)) | (subst_vars; first | exact Or.inl ⟨by omega, rfl, rfl, rfl⟩ | exact Or.inr (Or.inl ⟨by omega, by omega, rfl, rfl, rfl⟩) | exact Or.inr (Or.inr ⟨by omega, by omega, by omega, rfl, rfl⟩)) | omega, by first | with_reducible assumption | with_reducible rfl | (exact shs_up (by assumption) (by omega) (by omega)) | (subst_vars; first | exact Or.inl ⟨by omega, rfl, rfl, rfl⟩ | exact Or.inr (Or.inl ⟨by omega, by omega, rfl, rfl, rfl⟩) | exact Or.inr (Or.inr ⟨by omega, by omega, by omega, rfl, rfl⟩)) | omega⟩)
    · skip
      have c_8 : ¬ r_6.toInt = (0 : Int) := fun z => c_8 (i_eq.mpr z)
      replace q_7 : (sh_lane j_4).toInt = -1 := by omega
      exact ok_some (show (∀ j : Nat, j < 4 → 0 ≤ (sh_size j).toInt ∧ (sh_size j).toInt ≤ 16) ∧ ((¬ (0 ≤ x1.toInt ∧ x1.toInt < 4) ∧ (-11 : Int) = -1 ∧ sh_lane = sh_lane ∧ sh_size = sh_size) ∨ ((0 ≤ x1.toInt ∧ x1.toInt < 4) ∧ (sh_lane x1.toNatClampNeg).toInt = -1 ∧ (-11 : Int) = -11 ∧ sh_lane = sh_lane ∧ sh_size = sh_size) ∨ ((0 ≤ x1.toInt ∧ x1.toInt < 4) ∧ ¬ (sh_lane x1.toNatClampNeg).toInt = -1 ∧ (-11 : Int) = (sh_size x1.toNatClampNeg).toInt ∧ sh_lane = va_up sh_lane x1.toNatClampNeg (-1) ∧ sh_size = va_up sh_size x1.toNatClampNeg 0)) from ⟨by first | with_reducible assumption | with_reducible rfl | (exact shs_up (by assumption) (by omega) (by omega)) | (subst_vars; first | exact Or.inl ⟨by omega, rfl, rfl, rfl⟩ | exact Or.inr (Or.inl ⟨by omega, by omega, rfl, rfl, rfl⟩) | exact Or.inr (Or.inr ⟨by omega, by omega, by omega, rfl, rfl⟩)) | omega, by first | with_reducible assumption | with_reducible rfl | (exact shs_up (by assumption) (by omega) (by omega)) | (subst_vars; first | exact Or.inl ⟨by omega, rfl, rfl, rfl⟩ | exact Or.inr (Or.inl ⟨by omega, by omega, rfl, rfl, rfl⟩) | exact Or.inr (Or.inr ⟨by omega, by omega, by omega, rfl, rfl⟩)) | omega⟩)
set_option maxRecDepth 100000 in
set_option maxHeartbeats 4000000 in
theorem s_X6_item (x1 : Int32) (x2 : Int32) (x3 : Int32) (x4 : Int32) (sh_lane : Nat → Int32) (sh_size : Nat → Int32) (sh_items : Nat → Nat → Int32) (h0 : ∀ j : Nat, j < 4 → 0 ≤ (sh_size j).toInt ∧ (sh_size j).toInt ≤ 16) : okP (f_X6_item x1 x2 x3 x4 sh_lane sh_size sh_items) (fun u => ((¬ (0 ≤ x1.toInt ∧ x1.toInt < 4 ∧ 0 ≤ x2.toInt ∧ x2.toInt < 3) ∧ u.1.toInt = -1) ∨ ((0 ≤ x1.toInt ∧ x1.toInt < 4 ∧ 0 ≤ x2.toInt ∧ x2.toInt < 3) ∧ (sh_lane x1.toNatClampNeg).toInt = -1 ∧ u.1.toInt = -11) ∨ ((0 ≤ x1.toInt ∧ x1.toInt < 4 ∧ 0 ≤ x2.toInt ∧ x2.toInt < 3) ∧ ¬ (sh_lane x1.toNatClampNeg).toInt = -1 ∧ ¬ (sh_lane x1.toNatClampNeg).toInt = x2.toInt ∧ u.1.toInt = -12) ∨ ((0 ≤ x1.toInt ∧ x1.toInt < 4 ∧ 0 ≤ x2.toInt ∧ x2.toInt < 3) ∧ ¬ (sh_lane x1.toNatClampNeg).toInt = -1 ∧ (sh_lane x1.toNatClampNeg).toInt = x2.toInt ∧ ¬ (0 ≤ x3.toInt ∧ 0 ≤ (1 : Int) ∧ x3.toInt + (1 : Int) ≤ (sh_size x1.toNatClampNeg).toInt) ∧ u.1.toInt = -13) ∨ ((0 ≤ x1.toInt ∧ x1.toInt < 4 ∧ 0 ≤ x2.toInt ∧ x2.toInt < 3) ∧ ¬ (sh_lane x1.toNatClampNeg).toInt = -1 ∧ (sh_lane x1.toNatClampNeg).toInt = x2.toInt ∧ 0 ≤ x3.toInt ∧ 0 ≤ (1 : Int) ∧ x3.toInt + (1 : Int) ≤ (sh_size x1.toNatClampNeg).toInt ∧ u.1.toInt = 1))) := by
  unfold f_X6_item
  refine ok_bd1 (s_X6_wrongRow x1 x2 x3 1 sh_lane sh_size (by first | with_reducible assumption | with_reducible rfl | omega)) (fun r_1 q_2 => ?_)
  replace q_2 : (¬ (0 ≤ x1.toInt ∧ x1.toInt < 4 ∧ 0 ≤ x2.toInt ∧ x2.toInt < 3) ∧ r_1.toInt = -1) ∨ ((0 ≤ x1.toInt ∧ x1.toInt < 4 ∧ 0 ≤ x2.toInt ∧ x2.toInt < 3) ∧ (sh_lane x1.toNatClampNeg).toInt = -1 ∧ r_1.toInt = -11) ∨ ((0 ≤ x1.toInt ∧ x1.toInt < 4 ∧ 0 ≤ x2.toInt ∧ x2.toInt < 3) ∧ ¬ (sh_lane x1.toNatClampNeg).toInt = -1 ∧ ¬ (sh_lane x1.toNatClampNeg).toInt = x2.toInt ∧ r_1.toInt = -12) ∨ ((0 ≤ x1.toInt ∧ x1.toInt < 4 ∧ 0 ≤ x2.toInt ∧ x2.toInt < 3) ∧ ¬ (sh_lane x1.toNatClampNeg).toInt = -1 ∧ (sh_lane x1.toNatClampNeg).toInt = x2.toInt ∧ ¬ (0 ≤ x3.toInt ∧ 0 ≤ (1 : Int) ∧ x3.toInt + (1 : Int) ≤ (sh_size x1.toNatClampNeg).toInt) ∧ r_1.toInt = -13) ∨ ((0 ≤ x1.toInt ∧ x1.toInt < 4 ∧ 0 ≤ x2.toInt ∧ x2.toInt < 3) ∧ ¬ (sh_lane x1.toNatClampNeg).toInt = -1 ∧ (sh_lane x1.toNatClampNeg).toInt = x2.toInt ∧ 0 ≤ x3.toInt ∧ 0 ≤ (1 : Int) ∧ x3.toInt + (1 : Int) ≤ (sh_size x1.toNatClampNeg).toInt ∧ r_1.toInt = 0) := q_2
  refine ok_ite (fun c_3 => ?_) (fun c_3 => ?_)
  · skip
    have c_3 : (0 : Int) ≤ r_1.toInt := i_le.mp c_3
    have ix_5 : ¬ (x1 < 0 ∨ 4 ≤ x1.toNatClampNeg) := ix (show 0 ≤ x1.toInt by omega) (show x1.toInt < (4 : Nat) by omega)
    refine ok_chk ix_5 ?_
    refine ok_nmx (fun j_4 hj_4 => ?_)
    have kj_4 : (j_4 : Int) = x1.toInt := by rw [hj_4]; exact clI (by omega)
    obtain ⟨hsj_4a, hsj_4b⟩ := h0 j_4 (by omega)
    refine ok_bd1 (s_X2_put x3 x4 (sh_lane j_4) (sh_size j_4) (sh_items j_4) (show 0 ≤ ((sh_size j_4)).toInt by omega) (show ((sh_size j_4)).toInt ≤ 16 by omega)) (fun w_6 q_7 => ?_)
    exact ok_some (show ((¬ (0 ≤ x1.toInt ∧ x1.toInt < 4 ∧ 0 ≤ x2.toInt ∧ x2.toInt < 3) ∧ (1 : Int) = -1) ∨ ((0 ≤ x1.toInt ∧ x1.toInt < 4 ∧ 0 ≤ x2.toInt ∧ x2.toInt < 3) ∧ (sh_lane x1.toNatClampNeg).toInt = -1 ∧ (1 : Int) = -11) ∨ ((0 ≤ x1.toInt ∧ x1.toInt < 4 ∧ 0 ≤ x2.toInt ∧ x2.toInt < 3) ∧ ¬ (sh_lane x1.toNatClampNeg).toInt = -1 ∧ ¬ (sh_lane x1.toNatClampNeg).toInt = x2.toInt ∧ (1 : Int) = -12) ∨ ((0 ≤ x1.toInt ∧ x1.toInt < 4 ∧ 0 ≤ x2.toInt ∧ x2.toInt < 3) ∧ ¬ (sh_lane x1.toNatClampNeg).toInt = -1 ∧ (sh_lane x1.toNatClampNeg).toInt = x2.toInt ∧ ¬ (0 ≤ x3.toInt ∧ 0 ≤ (1 : Int) ∧ x3.toInt + (1 : Int) ≤ (sh_size x1.toNatClampNeg).toInt) ∧ (1 : Int) = -13) ∨ ((0 ≤ x1.toInt ∧ x1.toInt < 4 ∧ 0 ≤ x2.toInt ∧ x2.toInt < 3) ∧ ¬ (sh_lane x1.toNatClampNeg).toInt = -1 ∧ (sh_lane x1.toNatClampNeg).toInt = x2.toInt ∧ 0 ≤ x3.toInt ∧ 0 ≤ (1 : Int) ∧ x3.toInt + (1 : Int) ≤ (sh_size x1.toNatClampNeg).toInt ∧ (1 : Int) = 1)) from by first | (rcases q_2 with q | q | q | q | q <;> first | exact Or.inl q | exact Or.inr (Or.inl q) | exact Or.inr (Or.inr (Or.inl q)) | exact Or.inr (Or.inr (Or.inr (Or.inl q))) | exact Or.inr (Or.inr (Or.inr (Or.inr ⟨q.1, q.2.1, q.2.2.1, q.2.2.2.1, q.2.2.2.2.1, q.2.2.2.2.2.1, rfl⟩))) | (exfalso; omega)) | omega)
  · skip
    have c_3 : ¬ (0 : Int) ≤ r_1.toInt := fun z => c_3 (i_le.mpr z)
    exact ok_some (show ((¬ (0 ≤ x1.toInt ∧ x1.toInt < 4 ∧ 0 ≤ x2.toInt ∧ x2.toInt < 3) ∧ r_1.toInt = -1) ∨ ((0 ≤ x1.toInt ∧ x1.toInt < 4 ∧ 0 ≤ x2.toInt ∧ x2.toInt < 3) ∧ (sh_lane x1.toNatClampNeg).toInt = -1 ∧ r_1.toInt = -11) ∨ ((0 ≤ x1.toInt ∧ x1.toInt < 4 ∧ 0 ≤ x2.toInt ∧ x2.toInt < 3) ∧ ¬ (sh_lane x1.toNatClampNeg).toInt = -1 ∧ ¬ (sh_lane x1.toNatClampNeg).toInt = x2.toInt ∧ r_1.toInt = -12) ∨ ((0 ≤ x1.toInt ∧ x1.toInt < 4 ∧ 0 ≤ x2.toInt ∧ x2.toInt < 3) ∧ ¬ (sh_lane x1.toNatClampNeg).toInt = -1 ∧ (sh_lane x1.toNatClampNeg).toInt = x2.toInt ∧ ¬ (0 ≤ x3.toInt ∧ 0 ≤ (1 : Int) ∧ x3.toInt + (1 : Int) ≤ (sh_size x1.toNatClampNeg).toInt) ∧ r_1.toInt = -13) ∨ ((0 ≤ x1.toInt ∧ x1.toInt < 4 ∧ 0 ≤ x2.toInt ∧ x2.toInt < 3) ∧ ¬ (sh_lane x1.toNatClampNeg).toInt = -1 ∧ (sh_lane x1.toNatClampNeg).toInt = x2.toInt ∧ 0 ≤ x3.toInt ∧ 0 ≤ (1 : Int) ∧ x3.toInt + (1 : Int) ≤ (sh_size x1.toNatClampNeg).toInt ∧ r_1.toInt = 1)) from by first | (rcases q_2 with q | q | q | q | q <;> first | exact Or.inl q | exact Or.inr (Or.inl q) | exact Or.inr (Or.inr (Or.inl q)) | exact Or.inr (Or.inr (Or.inr (Or.inl q))) | exact Or.inr (Or.inr (Or.inr (Or.inr ⟨q.1, q.2.1, q.2.2.1, q.2.2.2.1, q.2.2.2.2.1, q.2.2.2.2.2.1, rfl⟩))) | (exfalso; omega)) | omega)
set_option maxRecDepth 100000 in
set_option maxHeartbeats 4000000 in
theorem s_X6_film (x1 : Int32) (x2 : Int32) (x3 : Int32) (x4 : Int32) (o_walkIsOld : Int32) (told_settings : Nat → Int32) (told_howFar : Nat → Int32) (told_tones : Nat → Int32) (told_fars : Nat → Int32) (walk_last : Int32) (walk_turnsLet : Int32) (walk_slowsLet : Int32) (walk_fuel : Int32) (walk_glide : Int32) (walk_count : Int32) (walk_weightSum : Int64) (walk_toPass : Int32) (walk_foundNumber : Int32) (walk_foundWeight : Int32) (walk_foundTurns : Int32) (walk_foundSlowed : Int32) (walk_howFar : Nat → Int32) (walk_tones : Nat → Int32) (walk_only : Nat → Int32) (walk_fars : Nat → Int32) (walk_cellAt : Nat → Int32) (walk_ends : Nat → Int64) (walk_seen : Nat → Int32) (walk_begun : Nat → Int32) (sh_lane : Nat → Int32) (sh_size : Nat → Int32) (sh_items : Nat → Nat → Int32) (h0 : SetOK told_settings) (h1 : ∀ j : Nat, j < 4 → 0 ≤ (sh_size j).toInt ∧ (sh_size j).toInt ≤ 16) (h2 : 0 ≤ (walk_glide).toInt) (h3 : (walk_glide).toInt ≤ 3) : okP (f_X6_film x1 x2 x3 x4 o_walkIsOld told_settings told_howFar told_tones told_fars walk_last walk_turnsLet walk_slowsLet walk_fuel walk_glide walk_count walk_weightSum walk_toPass walk_foundNumber walk_foundWeight walk_foundTurns walk_foundSlowed walk_howFar walk_tones walk_only walk_fars walk_cellAt walk_ends walk_seen walk_begun sh_lane sh_size sh_items) (fun u => (0 ≤ u.2.2.2.2.2.2.1.toInt) ∧ (u.2.2.2.2.2.2.1.toInt ≤ 3)) := by
  obtain ⟨s0a, s0b, s1a, s1b, s2a, s2b, s3a, s3b, s4a, s4b, s5a, s5b, s6a, s6b, s7a, s7b⟩ := id h0
  have l60 : ∀ (n : Nat) (v2 : Int32) (v4 : Int32) (v5 : Int32) (v8 : Int32) (o_walkIsOld : Int32) (walk_last : Int32) (walk_turnsLet : Int32) (walk_slowsLet : Int32) (walk_fuel : Int32) (walk_glide : Int32) (walk_count : Int32) (walk_weightSum : Int64) (walk_toPass : Int32) (walk_foundNumber : Int32) (walk_foundWeight : Int32) (walk_foundTurns : Int32) (walk_foundSlowed : Int32) (walk_howFar : Nat → Int32) (walk_tones : Nat → Int32) (walk_only : Nat → Int32) (walk_fars : Nat → Int32) (walk_cellAt : Nat → Int32) (walk_ends : Nat → Int64) (walk_seen : Nat → Int32) (walk_begun : Nat → Int32) (sh_items : Nat → Nat → Int32), (7 - v8.toInt).toNat < n → (0 ≤ (v8).toInt) → ((v8).toInt ≤ 7) → (0 ≤ (v2).toInt) → ((v2).toInt ≤ 3) → (0 ≤ (walk_glide).toInt) → ((walk_glide).toInt ≤ 3) → (v5.toInt ≤ 7) → okP (f_X6_film_L60 n v2 v4 v5 v8 o_walkIsOld told_settings told_howFar told_tones told_fars walk_last walk_turnsLet walk_slowsLet walk_fuel walk_glide walk_count walk_weightSum walk_toPass walk_foundNumber walk_foundWeight walk_foundTurns walk_foundSlowed walk_howFar walk_tones walk_only walk_fars walk_cellAt walk_ends walk_seen walk_begun sh_lane sh_size sh_items) (fun u => (0 ≤ u.2.2.2.2.2.2.1.toInt) ∧ (u.2.2.2.2.2.2.1.toInt ≤ 3)) := by
    intro n
    induction n with
    | zero =>
      intro v2 v4 v5 v8 o_walkIsOld walk_last walk_turnsLet walk_slowsLet walk_fuel walk_glide walk_count walk_weightSum walk_toPass walk_foundNumber walk_foundWeight walk_foundTurns walk_foundSlowed walk_howFar walk_tones walk_only walk_fars walk_cellAt walk_ends walk_seen walk_begun sh_items hm
      exact absurd hm (Nat.not_lt_zero _)
    | succ n60 ih60 =>
      intro v2 v4 v5 v8 o_walkIsOld walk_last walk_turnsLet walk_slowsLet walk_fuel walk_glide walk_count walk_weightSum walk_toPass walk_foundNumber walk_foundWeight walk_foundTurns walk_foundSlowed walk_howFar walk_tones walk_only walk_fars walk_cellAt walk_ends walk_seen walk_begun sh_items hm60 g60_0 g60_1 g60_2 g60_3 g60_4 g60_5 g60_6
      show okP (f_X6_film_L60b (f_X6_film_L60 n60) v2 v4 v5 v8 o_walkIsOld told_settings told_howFar told_tones told_fars walk_last walk_turnsLet walk_slowsLet walk_fuel walk_glide walk_count walk_weightSum walk_toPass walk_foundNumber walk_foundWeight walk_foundTurns walk_foundSlowed walk_howFar walk_tones walk_only walk_fars walk_cellAt walk_ends walk_seen walk_begun sh_lane sh_size sh_items) (fun u => (0 ≤ u.2.2.2.2.2.2.1.toInt) ∧ (u.2.2.2.2.2.2.1.toInt ≤ 3))
      unfold f_X6_film_L60b
      refine ok_ite (fun c_1 => ?_) (fun c_1 => ?_)
      · skip
        have c_1 : v5.toInt ≤ v8.toInt := i_le.mp c_1
        exact ok_some (show (0 ≤ walk_glide.toInt) ∧ (walk_glide.toInt ≤ 3) from ⟨by omega, by omega⟩)
      · skip
        have c_1 : ¬ v5.toInt ≤ v8.toInt := fun z => c_1 (i_le.mpr z)
        have ix_3 : ¬ (v2 < 0 ∨ 4 ≤ v2.toNatClampNeg) := ix (show 0 ≤ v2.toInt by omega) (show v2.toInt < (4 : Nat) by omega)
        refine ok_chk ix_3 ?_
        refine ok_nmx (fun j_2 hj_2 => ?_)
        have kj_2 : (j_2 : Int) = v2.toInt := by rw [hj_2]; exact clI (by omega)
        obtain ⟨hsj_2a, hsj_2b⟩ := h1 j_2 (by omega)
        first | (have f_4 : (v4 + v8).toInt = v4.toInt + v8.toInt := i_add2 rfl rfl (by omega) (by omega)) | skip
        have ix_5 : ¬ (v8 < 0 ∨ 7 ≤ v8.toNatClampNeg) := ix (show 0 ≤ v8.toInt by omega) (show v8.toInt < (7 : Nat) by omega)
        refine ok_chk ix_5 ?_
        refine ok_bd1 (s_X2_put (v4 + v8) (walk_cellAt v8.toNatClampNeg) (sh_lane j_2) (sh_size j_2) (sh_items j_2) (show 0 ≤ ((sh_size j_2)).toInt by omega) (show ((sh_size j_2)).toInt ≤ 16 by omega)) (fun w_6 q_7 => ?_)
        first | (have f_8 : (v8 + 1).toInt = v8.toInt + (1 : Int) := i_add2 rfl rfl (by omega) (by omega)) | skip
        refine ok_nmi (fun x_9 hx_9 kx_9 => ?_)
        exact ih60 v2 v4 v5 x_9 o_walkIsOld walk_last walk_turnsLet walk_slowsLet walk_fuel walk_glide walk_count walk_weightSum walk_toPass walk_foundNumber walk_foundWeight walk_foundTurns walk_foundSlowed walk_howFar walk_tones walk_only walk_fars walk_cellAt walk_ends walk_seen walk_begun (va_up sh_items j_2 w_6) (show (7 - x_9.toInt).toNat < n60 by omega) (show 0 ≤ (x_9).toInt by omega) (show (x_9).toInt ≤ 7 by omega) (show 0 ≤ (v2).toInt by omega) (show (v2).toInt ≤ 3 by omega) (show 0 ≤ (walk_glide).toInt by omega) (show (walk_glide).toInt ≤ 3 by omega) (show v5.toInt ≤ 7 by omega)
  unfold f_X6_film
  refine ok_ite (fun c_10 => ?_) (fun c_10 => ?_)
  · skip
    have c_10 : (0 : Int) ≤ x1.toInt := i_le.mp c_10
    first | (have f_11 : ((told_settings 2) + 1).toInt = (told_settings 2).toInt + (1 : Int) := i_add2 rfl rfl (by omega) (by omega)) | skip
    refine ok_nmi (fun x_12 hx_12 kx_12 => ?_)
    refine ok_bd1 (s_X6_wrongRow x2 x3 x4 x_12 sh_lane sh_size (by first | with_reducible assumption | with_reducible rfl | omega)) (fun r_13 q_14 => ?_)
    replace q_14 : (¬ (0 ≤ x2.toInt ∧ x2.toInt < 4 ∧ 0 ≤ x3.toInt ∧ x3.toInt < 3) ∧ r_13.toInt = -1) ∨ ((0 ≤ x2.toInt ∧ x2.toInt < 4 ∧ 0 ≤ x3.toInt ∧ x3.toInt < 3) ∧ (sh_lane x2.toNatClampNeg).toInt = -1 ∧ r_13.toInt = -11) ∨ ((0 ≤ x2.toInt ∧ x2.toInt < 4 ∧ 0 ≤ x3.toInt ∧ x3.toInt < 3) ∧ ¬ (sh_lane x2.toNatClampNeg).toInt = -1 ∧ ¬ (sh_lane x2.toNatClampNeg).toInt = x3.toInt ∧ r_13.toInt = -12) ∨ ((0 ≤ x2.toInt ∧ x2.toInt < 4 ∧ 0 ≤ x3.toInt ∧ x3.toInt < 3) ∧ ¬ (sh_lane x2.toNatClampNeg).toInt = -1 ∧ (sh_lane x2.toNatClampNeg).toInt = x3.toInt ∧ ¬ (0 ≤ x4.toInt ∧ 0 ≤ x_12.toInt ∧ x4.toInt + x_12.toInt ≤ (sh_size x2.toNatClampNeg).toInt) ∧ r_13.toInt = -13) ∨ ((0 ≤ x2.toInt ∧ x2.toInt < 4 ∧ 0 ≤ x3.toInt ∧ x3.toInt < 3) ∧ ¬ (sh_lane x2.toNatClampNeg).toInt = -1 ∧ (sh_lane x2.toNatClampNeg).toInt = x3.toInt ∧ 0 ≤ x4.toInt ∧ 0 ≤ x_12.toInt ∧ x4.toInt + x_12.toInt ≤ (sh_size x2.toNatClampNeg).toInt ∧ r_13.toInt = 0) := q_14
    refine ok_ite (fun c_15 => ?_) (fun c_15 => ?_)
    · skip
      have c_15 : (0 : Int) ≤ r_13.toInt := i_le.mp c_15
      refine ok_bd21 (s_X6_walked o_walkIsOld told_settings told_howFar told_tones told_fars walk_last walk_turnsLet walk_slowsLet walk_fuel walk_glide walk_count walk_weightSum walk_toPass walk_foundNumber walk_foundWeight walk_foundTurns walk_foundSlowed walk_howFar walk_tones walk_only walk_fars walk_cellAt walk_ends walk_seen walk_begun (by first | with_reducible assumption | with_reducible rfl | omega) (show 0 ≤ (walk_glide).toInt by omega) (show (walk_glide).toInt ≤ 3 by omega)) (fun w_16 w_17 w_18 w_19 w_20 w_21 w_22 w_23 w_24 w_25 w_26 w_27 w_28 w_29 w_30 w_31 w_32 w_33 w_34 w_35 w_36 q_37 => ?_)
      obtain ⟨q_37_0, q_37_1⟩ : (0 ≤ w_21.toInt) ∧ (w_21.toInt ≤ 3) := q_37
      refine ok_bd11 (s_X5_find x1 w_17 w_18 w_19 w_20 w_21 w_22 w_23 w_24 w_25 w_26 w_27 w_28 w_29 w_30 w_31 w_32 w_33 w_34 w_35 w_36 (show 0 ≤ (w_21).toInt by omega) (show (w_21).toInt ≤ 3 by omega)) (fun r_38 w_39 w_40 w_41 w_42 w_43 w_44 w_45 w_46 w_47 w_48 q_49 => ?_)
      replace q_49 : r_38.toInt = 0 ∨ r_38.toInt = 1 := q_49
      refine ok_ite (fun c_50 => ?_) (fun c_50 => ?_)
      · skip
        have c_50 : r_38.toInt = (0 : Int) := i_eq.mp c_50
        exact ok_some (show (0 ≤ w_21.toInt) ∧ (w_21.toInt ≤ 3) from ⟨by omega, by omega⟩)
      · skip
        have c_50 : ¬ r_38.toInt = (0 : Int) := fun z => c_50 (i_eq.mpr z)
        exact l60 FU x2 x4 x_12 0 w_16 w_17 w_18 w_19 w_20 w_21 w_39 w_40 w_41 w_42 w_43 w_44 w_45 w_29 w_30 w_31 w_32 w_46 w_47 w_48 w_36 sh_items (FU_gt (show (7 - (0 : Int)).toNat < 1000000000000 by omega)) (show 0 ≤ (0 : Int) by omega) (show (0 : Int) ≤ 7 by omega) (show 0 ≤ (x2).toInt by omega) (show (x2).toInt ≤ 3 by omega) (show 0 ≤ (w_21).toInt by omega) (show (w_21).toInt ≤ 3 by omega) (show x_12.toInt ≤ 7 by omega)
    · skip
      have c_15 : ¬ (0 : Int) ≤ r_13.toInt := fun z => c_15 (i_le.mpr z)
      exact ok_some (show (0 ≤ walk_glide.toInt) ∧ (walk_glide.toInt ≤ 3) from ⟨by omega, by omega⟩)
  · skip
    have c_10 : ¬ (0 : Int) ≤ x1.toInt := fun z => c_10 (i_le.mpr z)
    exact ok_some (show (0 ≤ walk_glide.toInt) ∧ (walk_glide.toInt ≤ 3) from ⟨by omega, by omega⟩)
set_option maxRecDepth 100000 in
set_option maxHeartbeats 4000000 in
theorem s_X6_copy (x1 : Int32) (x2 : Int32) (x3 : Int32) (x4 : Int32) (x5 : Int32) (sh_lane : Nat → Int32) (sh_size : Nat → Int32) (sh_items : Nat → Nat → Int32) (h0 : ∀ j : Nat, j < 4 → 0 ≤ (sh_size j).toInt ∧ (sh_size j).toInt ≤ 16) : okP (f_X6_copy x1 x2 x3 x4 x5 sh_lane sh_size sh_items) (fun u => ((¬ (0 ≤ x1.toInt ∧ x1.toInt < 4 ∧ 0 ≤ x3.toInt ∧ x3.toInt < 4) ∧ u.1.toInt = -1) ∨ ((0 ≤ x1.toInt ∧ x1.toInt < 4 ∧ 0 ≤ x3.toInt ∧ x3.toInt < 4) ∧ ((sh_lane x1.toNatClampNeg).toInt = -1 ∨ (sh_lane x3.toNatClampNeg).toInt = -1) ∧ u.1.toInt = -11) ∨ ((0 ≤ x1.toInt ∧ x1.toInt < 4 ∧ 0 ≤ x3.toInt ∧ x3.toInt < 4) ∧ ¬ (sh_lane x1.toNatClampNeg).toInt = -1 ∧ ¬ (sh_lane x3.toNatClampNeg).toInt = -1 ∧ ¬ (sh_lane x1.toNatClampNeg).toInt = (sh_lane x3.toNatClampNeg).toInt ∧ u.1.toInt = -12) ∨ ((0 ≤ x1.toInt ∧ x1.toInt < 4 ∧ 0 ≤ x3.toInt ∧ x3.toInt < 4) ∧ ¬ (sh_lane x1.toNatClampNeg).toInt = -1 ∧ ¬ (sh_lane x3.toNatClampNeg).toInt = -1 ∧ (sh_lane x1.toNatClampNeg).toInt = (sh_lane x3.toNatClampNeg).toInt ∧ ¬ (0 ≤ x2.toInt ∧ 0 ≤ x5.toInt ∧ x2.toInt + x5.toInt ≤ (sh_size x1.toNatClampNeg).toInt ∧ 0 ≤ x4.toInt ∧ x4.toInt + x5.toInt ≤ (sh_size x3.toNatClampNeg).toInt) ∧ u.1.toInt = -13) ∨ ((0 ≤ x1.toInt ∧ x1.toInt < 4 ∧ 0 ≤ x3.toInt ∧ x3.toInt < 4) ∧ ¬ (sh_lane x1.toNatClampNeg).toInt = -1 ∧ ¬ (sh_lane x3.toNatClampNeg).toInt = -1 ∧ (sh_lane x1.toNatClampNeg).toInt = (sh_lane x3.toNatClampNeg).toInt ∧ 0 ≤ x2.toInt ∧ 0 ≤ x5.toInt ∧ x2.toInt + x5.toInt ≤ (sh_size x1.toNatClampNeg).toInt ∧ 0 ≤ x4.toInt ∧ x4.toInt + x5.toInt ≤ (sh_size x3.toNatClampNeg).toInt ∧ u.1.toInt = x5.toInt))) := by
  unfold f_X6_copy
  refine ok_bd1 (s_X6_isSheet x1) (fun r_1 q_2 => ?_)
  replace q_2 : (r_1.toInt = 1 ∧ 0 ≤ x1.toInt ∧ x1.toInt < 4) ∨ (r_1.toInt = 0 ∧ (x1.toInt < 0 ∨ 4 ≤ x1.toInt)) := q_2
  refine ok_ite (fun c_3 => ?_) (fun c_3 => ?_)
  · skip
    have c_3 : r_1.toInt = (0 : Int) := i_eq.mp c_3
    replace q_2 : (x1.toInt < 0 ∨ 4 ≤ x1.toInt) := by omega
    exact ok_some (show ((¬ (0 ≤ x1.toInt ∧ x1.toInt < 4 ∧ 0 ≤ x3.toInt ∧ x3.toInt < 4) ∧ (-1 : Int) = -1) ∨ ((0 ≤ x1.toInt ∧ x1.toInt < 4 ∧ 0 ≤ x3.toInt ∧ x3.toInt < 4) ∧ ((sh_lane x1.toNatClampNeg).toInt = -1 ∨ (sh_lane x3.toNatClampNeg).toInt = -1) ∧ (-1 : Int) = -11) ∨ ((0 ≤ x1.toInt ∧ x1.toInt < 4 ∧ 0 ≤ x3.toInt ∧ x3.toInt < 4) ∧ ¬ (sh_lane x1.toNatClampNeg).toInt = -1 ∧ ¬ (sh_lane x3.toNatClampNeg).toInt = -1 ∧ ¬ (sh_lane x1.toNatClampNeg).toInt = (sh_lane x3.toNatClampNeg).toInt ∧ (-1 : Int) = -12) ∨ ((0 ≤ x1.toInt ∧ x1.toInt < 4 ∧ 0 ≤ x3.toInt ∧ x3.toInt < 4) ∧ ¬ (sh_lane x1.toNatClampNeg).toInt = -1 ∧ ¬ (sh_lane x3.toNatClampNeg).toInt = -1 ∧ (sh_lane x1.toNatClampNeg).toInt = (sh_lane x3.toNatClampNeg).toInt ∧ ¬ (0 ≤ x2.toInt ∧ 0 ≤ x5.toInt ∧ x2.toInt + x5.toInt ≤ (sh_size x1.toNatClampNeg).toInt ∧ 0 ≤ x4.toInt ∧ x4.toInt + x5.toInt ≤ (sh_size x3.toNatClampNeg).toInt) ∧ (-1 : Int) = -13) ∨ ((0 ≤ x1.toInt ∧ x1.toInt < 4 ∧ 0 ≤ x3.toInt ∧ x3.toInt < 4) ∧ ¬ (sh_lane x1.toNatClampNeg).toInt = -1 ∧ ¬ (sh_lane x3.toNatClampNeg).toInt = -1 ∧ (sh_lane x1.toNatClampNeg).toInt = (sh_lane x3.toNatClampNeg).toInt ∧ 0 ≤ x2.toInt ∧ 0 ≤ x5.toInt ∧ x2.toInt + x5.toInt ≤ (sh_size x1.toNatClampNeg).toInt ∧ 0 ≤ x4.toInt ∧ x4.toInt + x5.toInt ≤ (sh_size x3.toNatClampNeg).toInt ∧ (-1 : Int) = x5.toInt)) from by first | (subst_vars; first | exact Or.inl ⟨by omega, rfl⟩ | exact Or.inr (Or.inl ⟨by omega, by omega, rfl⟩) | exact Or.inr (Or.inr (Or.inl ⟨by omega, by omega, by omega, by omega, rfl⟩)) | exact Or.inr (Or.inr (Or.inr (Or.inl ⟨by omega, by omega, by omega, by omega, by omega, rfl⟩))) | exact Or.inr (Or.inr (Or.inr (Or.inr (⟨by omega, by omega, by omega, by omega, by omega, by omega, by omega, by omega, by omega, rfl⟩))))) | (subst_vars; omega) | omega)
  · skip
    have c_3 : ¬ r_1.toInt = (0 : Int) := fun z => c_3 (i_eq.mpr z)
    replace q_2 : 0 ≤ x1.toInt ∧ x1.toInt < 4 := by omega
    refine ok_bd1 (s_X6_isSheet x3) (fun r_4 q_5 => ?_)
    replace q_5 : (r_4.toInt = 1 ∧ 0 ≤ x3.toInt ∧ x3.toInt < 4) ∨ (r_4.toInt = 0 ∧ (x3.toInt < 0 ∨ 4 ≤ x3.toInt)) := q_5
    refine ok_ite (fun c_6 => ?_) (fun c_6 => ?_)
    · skip
      have c_6 : r_4.toInt = (0 : Int) := i_eq.mp c_6
      replace q_5 : (x3.toInt < 0 ∨ 4 ≤ x3.toInt) := by omega
      exact ok_some (show ((¬ (0 ≤ x1.toInt ∧ x1.toInt < 4 ∧ 0 ≤ x3.toInt ∧ x3.toInt < 4) ∧ (-1 : Int) = -1) ∨ ((0 ≤ x1.toInt ∧ x1.toInt < 4 ∧ 0 ≤ x3.toInt ∧ x3.toInt < 4) ∧ ((sh_lane x1.toNatClampNeg).toInt = -1 ∨ (sh_lane x3.toNatClampNeg).toInt = -1) ∧ (-1 : Int) = -11) ∨ ((0 ≤ x1.toInt ∧ x1.toInt < 4 ∧ 0 ≤ x3.toInt ∧ x3.toInt < 4) ∧ ¬ (sh_lane x1.toNatClampNeg).toInt = -1 ∧ ¬ (sh_lane x3.toNatClampNeg).toInt = -1 ∧ ¬ (sh_lane x1.toNatClampNeg).toInt = (sh_lane x3.toNatClampNeg).toInt ∧ (-1 : Int) = -12) ∨ ((0 ≤ x1.toInt ∧ x1.toInt < 4 ∧ 0 ≤ x3.toInt ∧ x3.toInt < 4) ∧ ¬ (sh_lane x1.toNatClampNeg).toInt = -1 ∧ ¬ (sh_lane x3.toNatClampNeg).toInt = -1 ∧ (sh_lane x1.toNatClampNeg).toInt = (sh_lane x3.toNatClampNeg).toInt ∧ ¬ (0 ≤ x2.toInt ∧ 0 ≤ x5.toInt ∧ x2.toInt + x5.toInt ≤ (sh_size x1.toNatClampNeg).toInt ∧ 0 ≤ x4.toInt ∧ x4.toInt + x5.toInt ≤ (sh_size x3.toNatClampNeg).toInt) ∧ (-1 : Int) = -13) ∨ ((0 ≤ x1.toInt ∧ x1.toInt < 4 ∧ 0 ≤ x3.toInt ∧ x3.toInt < 4) ∧ ¬ (sh_lane x1.toNatClampNeg).toInt = -1 ∧ ¬ (sh_lane x3.toNatClampNeg).toInt = -1 ∧ (sh_lane x1.toNatClampNeg).toInt = (sh_lane x3.toNatClampNeg).toInt ∧ 0 ≤ x2.toInt ∧ 0 ≤ x5.toInt ∧ x2.toInt + x5.toInt ≤ (sh_size x1.toNatClampNeg).toInt ∧ 0 ≤ x4.toInt ∧ x4.toInt + x5.toInt ≤ (sh_size x3.toNatClampNeg).toInt ∧ (-1 : Int) = x5.toInt)) from by first | (subst_vars; first | exact Or.inl ⟨by omega, rfl⟩ | exact Or.inr (Or.inl ⟨by omega, by omega, rfl⟩) | exact Or.inr (Or.inr (Or.inl ⟨by omega, by omega, by omega, by omega, rfl⟩)) | exact Or.inr (Or.inr (Or.inr (Or.inl ⟨by omega, by omega, by omega, by omega, by omega, rfl⟩))) | exact Or.inr (Or.inr (Or.inr (Or.inr (⟨by omega, by omega, by omega, by omega, by omega, by omega, by omega, by omega, by omega, rfl⟩))))) | (subst_vars; omega) | omega)
    · skip
      have c_6 : ¬ r_4.toInt = (0 : Int) := fun z => c_6 (i_eq.mpr z)
      replace q_5 : 0 ≤ x3.toInt ∧ x3.toInt < 4 := by omega
      have ix_8 : ¬ (x1 < 0 ∨ 4 ≤ x1.toNatClampNeg) := ix (show 0 ≤ x1.toInt by omega) (show x1.toInt < (4 : Nat) by omega)
      refine ok_chk ix_8 ?_
      refine ok_nmx (fun j_7 hj_7 => ?_)
      have kj_7 : (j_7 : Int) = x1.toInt := by rw [hj_7]; exact clI (by omega)
      obtain ⟨hsj_7a, hsj_7b⟩ := h0 j_7 (by omega)
      have ix_10 : ¬ (x3 < 0 ∨ 4 ≤ x3.toNatClampNeg) := ix (show 0 ≤ x3.toInt by omega) (show x3.toInt < (4 : Nat) by omega)
      refine ok_chk ix_10 ?_
      refine ok_nmx (fun j_9 hj_9 => ?_)
      have kj_9 : (j_9 : Int) = x3.toInt := by rw [hj_9]; exact clI (by omega)
      obtain ⟨hsj_9a, hsj_9b⟩ := h0 j_9 (by omega)
      refine ok_bd1 (s_X2_isNothing (sh_lane j_7)) (fun r_11 q_12 => ?_)
      replace q_12 : (r_11.toInt = 1 ∧ (sh_lane j_7).toInt = -1) ∨ (r_11.toInt = 0 ∧ ¬ (sh_lane j_7).toInt = -1) := q_12
      refine ok_ite (fun c_13 => ?_) (fun c_13 => ?_)
      · skip
        have c_13 : r_11.toInt = (0 : Int) := i_eq.mp c_13
        replace q_12 : ¬ (sh_lane j_7).toInt = -1 := by omega
        refine ok_bd1 (s_X2_isNothing (sh_lane j_9)) (fun r_14 q_15 => ?_)
        replace q_15 : (r_14.toInt = 1 ∧ (sh_lane j_9).toInt = -1) ∨ (r_14.toInt = 0 ∧ ¬ (sh_lane j_9).toInt = -1) := q_15
        refine ok_ite (fun c_16 => ?_) (fun c_16 => ?_)
        · skip
          have c_16 : r_14.toInt = (0 : Int) := i_eq.mp c_16
          replace q_15 : ¬ (sh_lane j_9).toInt = -1 := by omega
          refine ok_ite (fun c_17 => ?_) (fun c_17 => ?_)
          · skip
            have c_17 : ((sh_lane j_7)).toInt = ((sh_lane j_9)).toInt := i_eq.mp c_17
            refine ok_bd1 (s_X2_has x2 x5 (sh_size j_7) (show 0 ≤ ((sh_size j_7)).toInt by first | omega | (subst_vars; omega)) (show ((sh_size j_7)).toInt ≤ 16 by first | omega | (subst_vars; omega))) (fun r_18 q_19 => ?_)
            replace q_19 : (r_18.toInt = 1 ∧ 0 ≤ x2.toInt ∧ 0 ≤ x5.toInt ∧ x2.toInt + x5.toInt ≤ (sh_size j_7).toInt) ∨ (r_18.toInt = 0 ∧ (x2.toInt < 0 ∨ x5.toInt < 0 ∨ (sh_size j_7).toInt < x2.toInt + x5.toInt)) := q_19
            refine ok_ite (fun c_20 => ?_) (fun c_20 => ?_)
            · skip
              have c_20 : r_18.toInt = (0 : Int) := i_eq.mp c_20
              replace q_19 : (x2.toInt < 0 ∨ x5.toInt < 0 ∨ (sh_size j_7).toInt < x2.toInt + x5.toInt) := by omega
              exact ok_some (show ((¬ (0 ≤ x1.toInt ∧ x1.toInt < 4 ∧ 0 ≤ x3.toInt ∧ x3.toInt < 4) ∧ (-13 : Int) = -1) ∨ ((0 ≤ x1.toInt ∧ x1.toInt < 4 ∧ 0 ≤ x3.toInt ∧ x3.toInt < 4) ∧ ((sh_lane x1.toNatClampNeg).toInt = -1 ∨ (sh_lane x3.toNatClampNeg).toInt = -1) ∧ (-13 : Int) = -11) ∨ ((0 ≤ x1.toInt ∧ x1.toInt < 4 ∧ 0 ≤ x3.toInt ∧ x3.toInt < 4) ∧ ¬ (sh_lane x1.toNatClampNeg).toInt = -1 ∧ ¬ (sh_lane x3.toNatClampNeg).toInt = -1 ∧ ¬ (sh_lane x1.toNatClampNeg).toInt = (sh_lane x3.toNatClampNeg).toInt ∧ (-13 : Int) = -12) ∨ ((0 ≤ x1.toInt ∧ x1.toInt < 4 ∧ 0 ≤ x3.toInt ∧ x3.toInt < 4) ∧ ¬ (sh_lane x1.toNatClampNeg).toInt = -1 ∧ ¬ (sh_lane x3.toNatClampNeg).toInt = -1 ∧ (sh_lane x1.toNatClampNeg).toInt = (sh_lane x3.toNatClampNeg).toInt ∧ ¬ (0 ≤ x2.toInt ∧ 0 ≤ x5.toInt ∧ x2.toInt + x5.toInt ≤ (sh_size x1.toNatClampNeg).toInt ∧ 0 ≤ x4.toInt ∧ x4.toInt + x5.toInt ≤ (sh_size x3.toNatClampNeg).toInt) ∧ (-13 : Int) = -13) ∨ ((0 ≤ x1.toInt ∧ x1.toInt < 4 ∧ 0 ≤ x3.toInt ∧ x3.toInt < 4) ∧ ¬ (sh_lane x1.toNatClampNeg).toInt = -1 ∧ ¬ (sh_lane x3.toNatClampNeg).toInt = -1 ∧ (sh_lane x1.toNatClampNeg).toInt = (sh_lane x3.toNatClampNeg).toInt ∧ 0 ≤ x2.toInt ∧ 0 ≤ x5.toInt ∧ x2.toInt + x5.toInt ≤ (sh_size x1.toNatClampNeg).toInt ∧ 0 ≤ x4.toInt ∧ x4.toInt + x5.toInt ≤ (sh_size x3.toNatClampNeg).toInt ∧ (-13 : Int) = x5.toInt)) from by first | (subst_vars; first | exact Or.inl ⟨by omega, rfl⟩ | exact Or.inr (Or.inl ⟨by omega, by omega, rfl⟩) | exact Or.inr (Or.inr (Or.inl ⟨by omega, by omega, by omega, by omega, rfl⟩)) | exact Or.inr (Or.inr (Or.inr (Or.inl ⟨by omega, by omega, by omega, by omega, by omega, rfl⟩))) | exact Or.inr (Or.inr (Or.inr (Or.inr (⟨by omega, by omega, by omega, by omega, by omega, by omega, by omega, by omega, by omega, rfl⟩))))) | (subst_vars; omega) | omega)
            · skip
              have c_20 : ¬ r_18.toInt = (0 : Int) := fun z => c_20 (i_eq.mpr z)
              replace q_19 : 0 ≤ x2.toInt ∧ 0 ≤ x5.toInt ∧ x2.toInt + x5.toInt ≤ (sh_size j_7).toInt := by omega
              refine ok_bd1 (s_X2_has x4 x5 (sh_size j_9) (show 0 ≤ ((sh_size j_9)).toInt by first | omega | (subst_vars; omega)) (show ((sh_size j_9)).toInt ≤ 16 by first | omega | (subst_vars; omega))) (fun r_21 q_22 => ?_)
              replace q_22 : (r_21.toInt = 1 ∧ 0 ≤ x4.toInt ∧ 0 ≤ x5.toInt ∧ x4.toInt + x5.toInt ≤ (sh_size j_9).toInt) ∨ (r_21.toInt = 0 ∧ (x4.toInt < 0 ∨ x5.toInt < 0 ∨ (sh_size j_9).toInt < x4.toInt + x5.toInt)) := q_22
              refine ok_ite (fun c_23 => ?_) (fun c_23 => ?_)
              · skip
                have c_23 : r_21.toInt = (0 : Int) := i_eq.mp c_23
                replace q_22 : (x4.toInt < 0 ∨ x5.toInt < 0 ∨ (sh_size j_9).toInt < x4.toInt + x5.toInt) := by omega
                exact ok_some (show ((¬ (0 ≤ x1.toInt ∧ x1.toInt < 4 ∧ 0 ≤ x3.toInt ∧ x3.toInt < 4) ∧ (-13 : Int) = -1) ∨ ((0 ≤ x1.toInt ∧ x1.toInt < 4 ∧ 0 ≤ x3.toInt ∧ x3.toInt < 4) ∧ ((sh_lane x1.toNatClampNeg).toInt = -1 ∨ (sh_lane x3.toNatClampNeg).toInt = -1) ∧ (-13 : Int) = -11) ∨ ((0 ≤ x1.toInt ∧ x1.toInt < 4 ∧ 0 ≤ x3.toInt ∧ x3.toInt < 4) ∧ ¬ (sh_lane x1.toNatClampNeg).toInt = -1 ∧ ¬ (sh_lane x3.toNatClampNeg).toInt = -1 ∧ ¬ (sh_lane x1.toNatClampNeg).toInt = (sh_lane x3.toNatClampNeg).toInt ∧ (-13 : Int) = -12) ∨ ((0 ≤ x1.toInt ∧ x1.toInt < 4 ∧ 0 ≤ x3.toInt ∧ x3.toInt < 4) ∧ ¬ (sh_lane x1.toNatClampNeg).toInt = -1 ∧ ¬ (sh_lane x3.toNatClampNeg).toInt = -1 ∧ (sh_lane x1.toNatClampNeg).toInt = (sh_lane x3.toNatClampNeg).toInt ∧ ¬ (0 ≤ x2.toInt ∧ 0 ≤ x5.toInt ∧ x2.toInt + x5.toInt ≤ (sh_size x1.toNatClampNeg).toInt ∧ 0 ≤ x4.toInt ∧ x4.toInt + x5.toInt ≤ (sh_size x3.toNatClampNeg).toInt) ∧ (-13 : Int) = -13) ∨ ((0 ≤ x1.toInt ∧ x1.toInt < 4 ∧ 0 ≤ x3.toInt ∧ x3.toInt < 4) ∧ ¬ (sh_lane x1.toNatClampNeg).toInt = -1 ∧ ¬ (sh_lane x3.toNatClampNeg).toInt = -1 ∧ (sh_lane x1.toNatClampNeg).toInt = (sh_lane x3.toNatClampNeg).toInt ∧ 0 ≤ x2.toInt ∧ 0 ≤ x5.toInt ∧ x2.toInt + x5.toInt ≤ (sh_size x1.toNatClampNeg).toInt ∧ 0 ≤ x4.toInt ∧ x4.toInt + x5.toInt ≤ (sh_size x3.toNatClampNeg).toInt ∧ (-13 : Int) = x5.toInt)) from by first | (subst_vars; first | exact Or.inl ⟨by omega, rfl⟩ | exact Or.inr (Or.inl ⟨by omega, by omega, rfl⟩) | exact Or.inr (Or.inr (Or.inl ⟨by omega, by omega, by omega, by omega, rfl⟩)) | exact Or.inr (Or.inr (Or.inr (Or.inl ⟨by omega, by omega, by omega, by omega, by omega, rfl⟩))) | exact Or.inr (Or.inr (Or.inr (Or.inr (⟨by omega, by omega, by omega, by omega, by omega, by omega, by omega, by omega, by omega, rfl⟩))))) | (subst_vars; omega) | omega)
              · skip
                have c_23 : ¬ r_21.toInt = (0 : Int) := fun z => c_23 (i_eq.mpr z)
                replace q_22 : 0 ≤ x4.toInt ∧ 0 ≤ x5.toInt ∧ x4.toInt + x5.toInt ≤ (sh_size j_9).toInt := by omega
                refine ok_chk ⟨cp_n (by omega), cp_n (by omega), cp_n (by omega), by rw [i_cl, i_cl]; omega, by rw [i_cl, i_cl]; omega⟩ ?_
                exact ok_some (show ((¬ (0 ≤ x1.toInt ∧ x1.toInt < 4 ∧ 0 ≤ x3.toInt ∧ x3.toInt < 4) ∧ x5.toInt = -1) ∨ ((0 ≤ x1.toInt ∧ x1.toInt < 4 ∧ 0 ≤ x3.toInt ∧ x3.toInt < 4) ∧ ((sh_lane x1.toNatClampNeg).toInt = -1 ∨ (sh_lane x3.toNatClampNeg).toInt = -1) ∧ x5.toInt = -11) ∨ ((0 ≤ x1.toInt ∧ x1.toInt < 4 ∧ 0 ≤ x3.toInt ∧ x3.toInt < 4) ∧ ¬ (sh_lane x1.toNatClampNeg).toInt = -1 ∧ ¬ (sh_lane x3.toNatClampNeg).toInt = -1 ∧ ¬ (sh_lane x1.toNatClampNeg).toInt = (sh_lane x3.toNatClampNeg).toInt ∧ x5.toInt = -12) ∨ ((0 ≤ x1.toInt ∧ x1.toInt < 4 ∧ 0 ≤ x3.toInt ∧ x3.toInt < 4) ∧ ¬ (sh_lane x1.toNatClampNeg).toInt = -1 ∧ ¬ (sh_lane x3.toNatClampNeg).toInt = -1 ∧ (sh_lane x1.toNatClampNeg).toInt = (sh_lane x3.toNatClampNeg).toInt ∧ ¬ (0 ≤ x2.toInt ∧ 0 ≤ x5.toInt ∧ x2.toInt + x5.toInt ≤ (sh_size x1.toNatClampNeg).toInt ∧ 0 ≤ x4.toInt ∧ x4.toInt + x5.toInt ≤ (sh_size x3.toNatClampNeg).toInt) ∧ x5.toInt = -13) ∨ ((0 ≤ x1.toInt ∧ x1.toInt < 4 ∧ 0 ≤ x3.toInt ∧ x3.toInt < 4) ∧ ¬ (sh_lane x1.toNatClampNeg).toInt = -1 ∧ ¬ (sh_lane x3.toNatClampNeg).toInt = -1 ∧ (sh_lane x1.toNatClampNeg).toInt = (sh_lane x3.toNatClampNeg).toInt ∧ 0 ≤ x2.toInt ∧ 0 ≤ x5.toInt ∧ x2.toInt + x5.toInt ≤ (sh_size x1.toNatClampNeg).toInt ∧ 0 ≤ x4.toInt ∧ x4.toInt + x5.toInt ≤ (sh_size x3.toNatClampNeg).toInt ∧ x5.toInt = x5.toInt)) from by first | (subst_vars; first | exact Or.inl ⟨by omega, rfl⟩ | exact Or.inr (Or.inl ⟨by omega, by omega, rfl⟩) | exact Or.inr (Or.inr (Or.inl ⟨by omega, by omega, by omega, by omega, rfl⟩)) | exact Or.inr (Or.inr (Or.inr (Or.inl ⟨by omega, by omega, by omega, by omega, by omega, rfl⟩))) | exact Or.inr (Or.inr (Or.inr (Or.inr (⟨by omega, by omega, by omega, by omega, by omega, by omega, by omega, by omega, by omega, rfl⟩))))) | (subst_vars; omega) | omega)
          · skip
            have c_17 : ¬ ((sh_lane j_7)).toInt = ((sh_lane j_9)).toInt := fun z => c_17 (i_eq.mpr z)
            exact ok_some (show ((¬ (0 ≤ x1.toInt ∧ x1.toInt < 4 ∧ 0 ≤ x3.toInt ∧ x3.toInt < 4) ∧ (-12 : Int) = -1) ∨ ((0 ≤ x1.toInt ∧ x1.toInt < 4 ∧ 0 ≤ x3.toInt ∧ x3.toInt < 4) ∧ ((sh_lane x1.toNatClampNeg).toInt = -1 ∨ (sh_lane x3.toNatClampNeg).toInt = -1) ∧ (-12 : Int) = -11) ∨ ((0 ≤ x1.toInt ∧ x1.toInt < 4 ∧ 0 ≤ x3.toInt ∧ x3.toInt < 4) ∧ ¬ (sh_lane x1.toNatClampNeg).toInt = -1 ∧ ¬ (sh_lane x3.toNatClampNeg).toInt = -1 ∧ ¬ (sh_lane x1.toNatClampNeg).toInt = (sh_lane x3.toNatClampNeg).toInt ∧ (-12 : Int) = -12) ∨ ((0 ≤ x1.toInt ∧ x1.toInt < 4 ∧ 0 ≤ x3.toInt ∧ x3.toInt < 4) ∧ ¬ (sh_lane x1.toNatClampNeg).toInt = -1 ∧ ¬ (sh_lane x3.toNatClampNeg).toInt = -1 ∧ (sh_lane x1.toNatClampNeg).toInt = (sh_lane x3.toNatClampNeg).toInt ∧ ¬ (0 ≤ x2.toInt ∧ 0 ≤ x5.toInt ∧ x2.toInt + x5.toInt ≤ (sh_size x1.toNatClampNeg).toInt ∧ 0 ≤ x4.toInt ∧ x4.toInt + x5.toInt ≤ (sh_size x3.toNatClampNeg).toInt) ∧ (-12 : Int) = -13) ∨ ((0 ≤ x1.toInt ∧ x1.toInt < 4 ∧ 0 ≤ x3.toInt ∧ x3.toInt < 4) ∧ ¬ (sh_lane x1.toNatClampNeg).toInt = -1 ∧ ¬ (sh_lane x3.toNatClampNeg).toInt = -1 ∧ (sh_lane x1.toNatClampNeg).toInt = (sh_lane x3.toNatClampNeg).toInt ∧ 0 ≤ x2.toInt ∧ 0 ≤ x5.toInt ∧ x2.toInt + x5.toInt ≤ (sh_size x1.toNatClampNeg).toInt ∧ 0 ≤ x4.toInt ∧ x4.toInt + x5.toInt ≤ (sh_size x3.toNatClampNeg).toInt ∧ (-12 : Int) = x5.toInt)) from by first | (subst_vars; first | exact Or.inl ⟨by omega, rfl⟩ | exact Or.inr (Or.inl ⟨by omega, by omega, rfl⟩) | exact Or.inr (Or.inr (Or.inl ⟨by omega, by omega, by omega, by omega, rfl⟩)) | exact Or.inr (Or.inr (Or.inr (Or.inl ⟨by omega, by omega, by omega, by omega, by omega, rfl⟩))) | exact Or.inr (Or.inr (Or.inr (Or.inr (⟨by omega, by omega, by omega, by omega, by omega, by omega, by omega, by omega, by omega, rfl⟩))))) | (subst_vars; omega) | omega)
        · skip
          have c_16 : ¬ r_14.toInt = (0 : Int) := fun z => c_16 (i_eq.mpr z)
          replace q_15 : (sh_lane j_9).toInt = -1 := by omega
          exact ok_some (show ((¬ (0 ≤ x1.toInt ∧ x1.toInt < 4 ∧ 0 ≤ x3.toInt ∧ x3.toInt < 4) ∧ (-11 : Int) = -1) ∨ ((0 ≤ x1.toInt ∧ x1.toInt < 4 ∧ 0 ≤ x3.toInt ∧ x3.toInt < 4) ∧ ((sh_lane x1.toNatClampNeg).toInt = -1 ∨ (sh_lane x3.toNatClampNeg).toInt = -1) ∧ (-11 : Int) = -11) ∨ ((0 ≤ x1.toInt ∧ x1.toInt < 4 ∧ 0 ≤ x3.toInt ∧ x3.toInt < 4) ∧ ¬ (sh_lane x1.toNatClampNeg).toInt = -1 ∧ ¬ (sh_lane x3.toNatClampNeg).toInt = -1 ∧ ¬ (sh_lane x1.toNatClampNeg).toInt = (sh_lane x3.toNatClampNeg).toInt ∧ (-11 : Int) = -12) ∨ ((0 ≤ x1.toInt ∧ x1.toInt < 4 ∧ 0 ≤ x3.toInt ∧ x3.toInt < 4) ∧ ¬ (sh_lane x1.toNatClampNeg).toInt = -1 ∧ ¬ (sh_lane x3.toNatClampNeg).toInt = -1 ∧ (sh_lane x1.toNatClampNeg).toInt = (sh_lane x3.toNatClampNeg).toInt ∧ ¬ (0 ≤ x2.toInt ∧ 0 ≤ x5.toInt ∧ x2.toInt + x5.toInt ≤ (sh_size x1.toNatClampNeg).toInt ∧ 0 ≤ x4.toInt ∧ x4.toInt + x5.toInt ≤ (sh_size x3.toNatClampNeg).toInt) ∧ (-11 : Int) = -13) ∨ ((0 ≤ x1.toInt ∧ x1.toInt < 4 ∧ 0 ≤ x3.toInt ∧ x3.toInt < 4) ∧ ¬ (sh_lane x1.toNatClampNeg).toInt = -1 ∧ ¬ (sh_lane x3.toNatClampNeg).toInt = -1 ∧ (sh_lane x1.toNatClampNeg).toInt = (sh_lane x3.toNatClampNeg).toInt ∧ 0 ≤ x2.toInt ∧ 0 ≤ x5.toInt ∧ x2.toInt + x5.toInt ≤ (sh_size x1.toNatClampNeg).toInt ∧ 0 ≤ x4.toInt ∧ x4.toInt + x5.toInt ≤ (sh_size x3.toNatClampNeg).toInt ∧ (-11 : Int) = x5.toInt)) from by first | (subst_vars; first | exact Or.inl ⟨by omega, rfl⟩ | exact Or.inr (Or.inl ⟨by omega, by omega, rfl⟩) | exact Or.inr (Or.inr (Or.inl ⟨by omega, by omega, by omega, by omega, rfl⟩)) | exact Or.inr (Or.inr (Or.inr (Or.inl ⟨by omega, by omega, by omega, by omega, by omega, rfl⟩))) | exact Or.inr (Or.inr (Or.inr (Or.inr (⟨by omega, by omega, by omega, by omega, by omega, by omega, by omega, by omega, by omega, rfl⟩))))) | (subst_vars; omega) | omega)
      · skip
        have c_13 : ¬ r_11.toInt = (0 : Int) := fun z => c_13 (i_eq.mpr z)
        replace q_12 : (sh_lane j_7).toInt = -1 := by omega
        exact ok_some (show ((¬ (0 ≤ x1.toInt ∧ x1.toInt < 4 ∧ 0 ≤ x3.toInt ∧ x3.toInt < 4) ∧ (-11 : Int) = -1) ∨ ((0 ≤ x1.toInt ∧ x1.toInt < 4 ∧ 0 ≤ x3.toInt ∧ x3.toInt < 4) ∧ ((sh_lane x1.toNatClampNeg).toInt = -1 ∨ (sh_lane x3.toNatClampNeg).toInt = -1) ∧ (-11 : Int) = -11) ∨ ((0 ≤ x1.toInt ∧ x1.toInt < 4 ∧ 0 ≤ x3.toInt ∧ x3.toInt < 4) ∧ ¬ (sh_lane x1.toNatClampNeg).toInt = -1 ∧ ¬ (sh_lane x3.toNatClampNeg).toInt = -1 ∧ ¬ (sh_lane x1.toNatClampNeg).toInt = (sh_lane x3.toNatClampNeg).toInt ∧ (-11 : Int) = -12) ∨ ((0 ≤ x1.toInt ∧ x1.toInt < 4 ∧ 0 ≤ x3.toInt ∧ x3.toInt < 4) ∧ ¬ (sh_lane x1.toNatClampNeg).toInt = -1 ∧ ¬ (sh_lane x3.toNatClampNeg).toInt = -1 ∧ (sh_lane x1.toNatClampNeg).toInt = (sh_lane x3.toNatClampNeg).toInt ∧ ¬ (0 ≤ x2.toInt ∧ 0 ≤ x5.toInt ∧ x2.toInt + x5.toInt ≤ (sh_size x1.toNatClampNeg).toInt ∧ 0 ≤ x4.toInt ∧ x4.toInt + x5.toInt ≤ (sh_size x3.toNatClampNeg).toInt) ∧ (-11 : Int) = -13) ∨ ((0 ≤ x1.toInt ∧ x1.toInt < 4 ∧ 0 ≤ x3.toInt ∧ x3.toInt < 4) ∧ ¬ (sh_lane x1.toNatClampNeg).toInt = -1 ∧ ¬ (sh_lane x3.toNatClampNeg).toInt = -1 ∧ (sh_lane x1.toNatClampNeg).toInt = (sh_lane x3.toNatClampNeg).toInt ∧ 0 ≤ x2.toInt ∧ 0 ≤ x5.toInt ∧ x2.toInt + x5.toInt ≤ (sh_size x1.toNatClampNeg).toInt ∧ 0 ≤ x4.toInt ∧ x4.toInt + x5.toInt ≤ (sh_size x3.toNatClampNeg).toInt ∧ (-11 : Int) = x5.toInt)) from by first | (subst_vars; first | exact Or.inl ⟨by omega, rfl⟩ | exact Or.inr (Or.inl ⟨by omega, by omega, rfl⟩) | exact Or.inr (Or.inr (Or.inl ⟨by omega, by omega, by omega, by omega, rfl⟩)) | exact Or.inr (Or.inr (Or.inr (Or.inl ⟨by omega, by omega, by omega, by omega, by omega, rfl⟩))) | exact Or.inr (Or.inr (Or.inr (Or.inr (⟨by omega, by omega, by omega, by omega, by omega, by omega, by omega, by omega, by omega, rfl⟩))))) | (subst_vars; omega) | omega)
