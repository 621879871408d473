set_option maxRecDepth 100000 in
set_option maxHeartbeats 4000000 in
theorem s_X7_in (x1 : Int64) (x2 : Int64) (x3 : Int64) : okP (f_X7_in x1 x2 x3) (fun u => ((u.toInt = 1 ∧ x2.toInt ≤ x1.toInt ∧ x1.toInt ≤ x3.toInt) ∨ (u.toInt = 0 ∧ (x1.toInt < x2.toInt ∨ x3.toInt < x1.toInt)))) := by
  unfold f_X7_in
  refine ok_ite (fun c_1 => ?_) (fun c_1 => ?_)
  · skip
    have c_1 : x1.toInt < x2.toInt := j_lt.mp ((lg_cmp_lt _ _).mp c_1)
    exact ok_some (show (((0 : Int) = 1 ∧ x2.toInt ≤ x1.toInt ∧ x1.toInt ≤ x3.toInt) ∨ ((0 : Int) = 0 ∧ (x1.toInt < x2.toInt ∨ x3.toInt < x1.toInt))) from by omega)
  · skip
    have c_1 : ¬ x1.toInt < x2.toInt := fun z => c_1 ((lg_cmp_lt _ _).mpr (j_lt.mpr z))
    refine ok_ite (fun c_2 => ?_) (fun c_2 => ?_)
    · skip
      have c_2 : x3.toInt < x1.toInt := j_lt.mp ((lg_cmp_gt _ _).mp c_2)
      exact ok_some (show (((0 : Int) = 1 ∧ x2.toInt ≤ x1.toInt ∧ x1.toInt ≤ x3.toInt) ∨ ((0 : Int) = 0 ∧ (x1.toInt < x2.toInt ∨ x3.toInt < x1.toInt))) from by omega)
    · skip
      have c_2 : ¬ x3.toInt < x1.toInt := fun z => c_2 ((lg_cmp_gt _ _).mpr (j_lt.mpr z))
      exact ok_some (show (((1 : Int) = 1 ∧ x2.toInt ≤ x1.toInt ∧ x1.toInt ≤ x3.toInt) ∨ ((1 : Int) = 0 ∧ (x1.toInt < x2.toInt ∨ x3.toInt < x1.toInt))) from by omega)
set_option maxRecDepth 100000 in
set_option maxHeartbeats 4000000 in
theorem s_X7_isCell (x1 : Int32) : okP (f_X7_isCell x1) (fun u => ((u.toInt = 1 ∧ 0 ≤ x1.toInt ∧ x1.toInt < 100) ∨ (u.toInt = 0 ∧ (x1.toInt < 0 ∨ 100 ≤ x1.toInt)))) := by
  unfold f_X7_isCell
  first | (have f_1 : (x1.toInt64).toInt = x1.toInt := j_i2l _) | skip
  refine ok_bd1 (s_X7_in x1.toInt64 0 99) (fun r_2 q_3 => ?_)
  replace q_3 : (r_2.toInt = 1 ∧ (0 : Int) ≤ x1.toInt64.toInt ∧ x1.toInt64.toInt ≤ (99 : Int)) ∨ (r_2.toInt = 0 ∧ (x1.toInt64.toInt < (0 : Int) ∨ (99 : Int) < x1.toInt64.toInt)) := q_3
  refine ok_chk (b01 (show r_2.toInt = 0 ∨ r_2.toInt = 1 by omega)) ?_
  exact ok_some (show ((r_2.toInt = 1 ∧ 0 ≤ x1.toInt ∧ x1.toInt < 100) ∨ (r_2.toInt = 0 ∧ (x1.toInt < 0 ∨ 100 ≤ x1.toInt))) from by omega)
set_option maxRecDepth 100000 in
set_option maxHeartbeats 4000000 in
theorem s_X7_isSheet (x1 : Int32) : okP (f_X7_isSheet x1) (fun u => ((u.toInt = 1 ∧ 0 ≤ x1.toInt ∧ x1.toInt < 4) ∨ (u.toInt = 0 ∧ (x1.toInt < 0 ∨ 4 ≤ x1.toInt)))) := by
  unfold f_X7_isSheet
  first | (have f_1 : (x1.toInt64).toInt = x1.toInt := j_i2l _) | skip
  refine ok_bd1 (s_X7_in x1.toInt64 0 3) (fun r_2 q_3 => ?_)
  replace q_3 : (r_2.toInt = 1 ∧ (0 : Int) ≤ x1.toInt64.toInt ∧ x1.toInt64.toInt ≤ (3 : Int)) ∨ (r_2.toInt = 0 ∧ (x1.toInt64.toInt < (0 : Int) ∨ (3 : Int) < x1.toInt64.toInt)) := q_3
  refine ok_chk (b01 (show r_2.toInt = 0 ∨ r_2.toInt = 1 by omega)) ?_
  exact ok_some (show ((r_2.toInt = 1 ∧ 0 ≤ x1.toInt ∧ x1.toInt < 4) ∨ (r_2.toInt = 0 ∧ (x1.toInt < 0 ∨ 4 ≤ x1.toInt))) from by omega)
set_option maxRecDepth 100000 in
set_option maxHeartbeats 4000000 in
theorem s_X7_isLane (x1 : Int32) : okP (f_X7_isLane x1) (fun u => ((u.toInt = 1 ∧ 0 ≤ x1.toInt ∧ x1.toInt < 3) ∨ (u.toInt = 0 ∧ (x1.toInt < 0 ∨ 3 ≤ x1.toInt)))) := by
  unfold f_X7_isLane
  first | (have f_1 : (x1.toInt64).toInt = x1.toInt := j_i2l _) | skip
  refine ok_bd1 (s_X7_in x1.toInt64 0 2) (fun r_2 q_3 => ?_)
  replace q_3 : (r_2.toInt = 1 ∧ (0 : Int) ≤ x1.toInt64.toInt ∧ x1.toInt64.toInt ≤ (2 : Int)) ∨ (r_2.toInt = 0 ∧ (x1.toInt64.toInt < (0 : Int) ∨ (2 : Int) < x1.toInt64.toInt)) := q_3
  refine ok_chk (b01 (show r_2.toInt = 0 ∨ r_2.toInt = 1 by omega)) ?_
  exact ok_some (show ((r_2.toInt = 1 ∧ 0 ≤ x1.toInt ∧ x1.toInt < 3) ∨ (r_2.toInt = 0 ∧ (x1.toInt < 0 ∨ 3 ≤ x1.toInt))) from by omega)
set_option maxRecDepth 100000 in
set_option maxHeartbeats 4000000 in
theorem s_X7_rowStep (x1 : Int32) : okP (f_X7_rowStep x1) (fun u => (-1 ≤ u.toInt) ∧ (u.toInt ≤ 1)) := by
  unfold f_X7_rowStep
  refine ok_ite (fun c_1 => ?_) (fun c_1 => ?_)
  · skip
    have c_1 : x1.toInt = (7 : Int) := i_eq.mp c_1
    exact ok_some (show (-1 ≤ (-1 : Int)) ∧ ((-1 : Int) ≤ 1) from ⟨by omega, by omega⟩)
  · skip
    have c_1 : ¬ x1.toInt = (7 : Int) := fun z => c_1 (i_eq.mpr z)
    refine ok_ite (fun c_2 => ?_) (fun c_2 => ?_)
    · skip
      have c_2 : (2 : Int) ≤ x1.toInt := i_le.mp c_2
      refine ok_ite (fun c_3 => ?_) (fun c_3 => ?_)
      · skip
        have c_3 : x1.toInt ≤ (2 : Int) := i_le.mp c_3
        exact ok_some (show (-1 ≤ (0 : Int)) ∧ ((0 : Int) ≤ 1) from ⟨by omega, by omega⟩)
      · skip
        have c_3 : ¬ x1.toInt ≤ (2 : Int) := fun z => c_3 (i_le.mpr z)
        refine ok_ite (fun c_4 => ?_) (fun c_4 => ?_)
        · skip
          have c_4 : (6 : Int) ≤ x1.toInt := i_le.mp c_4
          exact ok_some (show (-1 ≤ (0 : Int)) ∧ ((0 : Int) ≤ 1) from ⟨by omega, by omega⟩)
        · skip
          have c_4 : ¬ (6 : Int) ≤ x1.toInt := fun z => c_4 (i_le.mpr z)
          exact ok_some (show (-1 ≤ (1 : Int)) ∧ ((1 : Int) ≤ 1) from ⟨by omega, by omega⟩)
    · skip
      have c_2 : ¬ (2 : Int) ≤ x1.toInt := fun z => c_2 (i_le.mpr z)
      exact ok_some (show (-1 ≤ (-1 : Int)) ∧ ((-1 : Int) ≤ 1) from ⟨by omega, by omega⟩)
set_option maxRecDepth 100000 in
set_option maxHeartbeats 4000000 in
theorem s_X7_columnStep (x1 : Int32) : okP (f_X7_columnStep x1) (fun u => (-1 ≤ u.toInt) ∧ (u.toInt ≤ 1)) := by
  unfold f_X7_columnStep
  refine ok_ite (fun c_1 => ?_) (fun c_1 => ?_)
  · skip
    have c_1 : x1.toInt ≤ (0 : Int) := i_le.mp c_1
    unfold f_X7_columnStep_B13
    refine ok_ite (fun c_2 => ?_) (fun c_2 => ?_)
    · skip
      have c_2 : x1.toInt ≤ (4 : Int) := i_le.mp c_2
      exact ok_some (show (-1 ≤ (0 : Int)) ∧ ((0 : Int) ≤ 1) from ⟨by omega, by omega⟩)
    · skip
      have c_2 : ¬ x1.toInt ≤ (4 : Int) := fun z => c_2 (i_le.mpr z)
      refine ok_ite (fun c_3 => ?_) (fun c_3 => ?_)
      · skip
        have c_3 : (8 : Int) ≤ x1.toInt := i_le.mp c_3
        exact ok_some (show (-1 ≤ (0 : Int)) ∧ ((0 : Int) ≤ 1) from ⟨by omega, by omega⟩)
      · skip
        have c_3 : ¬ (8 : Int) ≤ x1.toInt := fun z => c_3 (i_le.mpr z)
        exact ok_some (show (-1 ≤ (-1 : Int)) ∧ ((-1 : Int) ≤ 1) from ⟨by omega, by omega⟩)
  · skip
    have c_1 : ¬ x1.toInt ≤ (0 : Int) := fun z => c_1 (i_le.mpr z)
    refine ok_ite (fun c_4 => ?_) (fun c_4 => ?_)
    · skip
      have c_4 : (4 : Int) ≤ x1.toInt := i_le.mp c_4
      unfold f_X7_columnStep_B13
      refine ok_ite (fun c_5 => ?_) (fun c_5 => ?_)
      · skip
        have c_5 : x1.toInt ≤ (4 : Int) := i_le.mp c_5
        exact ok_some (show (-1 ≤ (0 : Int)) ∧ ((0 : Int) ≤ 1) from ⟨by omega, by omega⟩)
      · skip
        have c_5 : ¬ x1.toInt ≤ (4 : Int) := fun z => c_5 (i_le.mpr z)
        refine ok_ite (fun c_6 => ?_) (fun c_6 => ?_)
        · skip
          have c_6 : (8 : Int) ≤ x1.toInt := i_le.mp c_6
          exact ok_some (show (-1 ≤ (0 : Int)) ∧ ((0 : Int) ≤ 1) from ⟨by omega, by omega⟩)
        · skip
          have c_6 : ¬ (8 : Int) ≤ x1.toInt := fun z => c_6 (i_le.mpr z)
          exact ok_some (show (-1 ≤ (-1 : Int)) ∧ ((-1 : Int) ≤ 1) from ⟨by omega, by omega⟩)
    · skip
      have c_4 : ¬ (4 : Int) ≤ x1.toInt := fun z => c_4 (i_le.mpr z)
      exact ok_some (show (-1 ≤ (1 : Int)) ∧ ((1 : Int) ≤ 1) from ⟨by omega, by omega⟩)
set_option maxRecDepth 100000 in
set_option maxHeartbeats 4000000 in
theorem s_X7_gone (x1 : Int32) (x2 : Int32) (x3 : Int32) : okP (f_X7_gone x1 x2 x3) (fun u => (u.toInt = -4 ∨ (0 ≤ u.toInt ∧ u.toInt ≤ 99))) := by
  unfold f_X7_gone
  first | (have f_1 : (x1 / 10).toInt = x1.toInt / (10 : Int) := i_div2 rfl rfl (by omega) (by omega)) | skip
  refine ok_bd1 (s_X7_rowStep x2) (fun r_2 q_3 => ?_)
  obtain ⟨q_3_0, q_3_1⟩ : (-1 ≤ r_2.toInt) ∧ (r_2.toInt ≤ 1) := q_3
  first | (have f_4 : ((x1 / 10) + (r_2 * x3)).toInt = (x1 / 10).toInt + (r_2 * x3).toInt := i_add2 rfl rfl (by omega) (by omega)) | skip
  refine ok_nmi (fun x_5 hx_5 kx_5 => ?_)
  first | (have f_6 : (x1 - x1 / 10 * 10).toInt = x1.toInt % (10 : Int) := i_rem2 rfl rfl (by omega) (by omega)) | skip
  refine ok_bd1 (s_X7_columnStep x2) (fun r_7 q_8 => ?_)
  obtain ⟨q_8_0, q_8_1⟩ : (-1 ≤ r_7.toInt) ∧ (r_7.toInt ≤ 1) := q_8
  first | (have f_9 : ((x1 - x1 / 10 * 10) + (r_7 * x3)).toInt = (x1 - x1 / 10 * 10).toInt + (r_7 * x3).toInt := i_add2 rfl rfl (by omega) (by omega)) | skip
  refine ok_nmi (fun x_10 hx_10 kx_10 => ?_)
  first | (have f_11 : (x_5.toInt64).toInt = x_5.toInt := j_i2l _) | skip
  refine ok_bd1 (s_X7_in x_5.toInt64 0 9) (fun r_12 q_13 => ?_)
  replace q_13 : (r_12.toInt = 1 ∧ (0 : Int) ≤ x_5.toInt64.toInt ∧ x_5.toInt64.toInt ≤ (9 : Int)) ∨ (r_12.toInt = 0 ∧ (x_5.toInt64.toInt < (0 : Int) ∨ (9 : Int) < x_5.toInt64.toInt)) := q_13
  refine ok_ite (fun c_14 => ?_) (fun c_14 => ?_)
  · skip
    have c_14 : r_12.toInt = (0 : Int) := i_eq.mp c_14
    replace q_13 : (x_5.toInt64.toInt < (0 : Int) ∨ (9 : Int) < x_5.toInt64.toInt) := by omega
    exact ok_some (show ((-4 : Int) = -4 ∨ (0 ≤ (-4 : Int) ∧ (-4 : Int) ≤ 99)) from by omega)
  · skip
    have c_14 : ¬ r_12.toInt = (0 : Int) := fun z => c_14 (i_eq.mpr z)
    replace q_13 : (0 : Int) ≤ x_5.toInt64.toInt ∧ x_5.toInt64.toInt ≤ (9 : Int) := by omega
    first | (have f_15 : (x_10.toInt64).toInt = x_10.toInt := j_i2l _) | skip
    refine ok_bd1 (s_X7_in x_10.toInt64 0 9) (fun r_16 q_17 => ?_)
    replace q_17 : (r_16.toInt = 1 ∧ (0 : Int) ≤ x_10.toInt64.toInt ∧ x_10.toInt64.toInt ≤ (9 : Int)) ∨ (r_16.toInt = 0 ∧ (x_10.toInt64.toInt < (0 : Int) ∨ (9 : Int) < x_10.toInt64.toInt)) := q_17
    refine ok_ite (fun c_18 => ?_) (fun c_18 => ?_)
    · skip
      have c_18 : r_16.toInt = (0 : Int) := i_eq.mp c_18
      replace q_17 : (x_10.toInt64.toInt < (0 : Int) ∨ (9 : Int) < x_10.toInt64.toInt) := by omega
      exact ok_some (show ((-4 : Int) = -4 ∨ (0 ≤ (-4 : Int) ∧ (-4 : Int) ≤ 99)) from by omega)
    · skip
      have c_18 : ¬ r_16.toInt = (0 : Int) := fun z => c_18 (i_eq.mpr z)
      replace q_17 : (0 : Int) ≤ x_10.toInt64.toInt ∧ x_10.toInt64.toInt ≤ (9 : Int) := by omega
      first | (have f_19 : (10 * x_5).toInt = (10 : Int) * x_5.toInt := i_mul2 rfl rfl (by omega) (by omega)) | skip
      first | (have f_20 : ((10 * x_5) + x_10).toInt = (10 * x_5).toInt + x_10.toInt := i_add2 rfl rfl (by omega) (by omega)) | skip
      exact ok_some (show (((10 * x_5) + x_10).toInt = -4 ∨ (0 ≤ ((10 * x_5) + x_10).toInt ∧ ((10 * x_5) + x_10).toInt ≤ 99)) from by omega)
set_option maxRecDepth 100000 in
set_option maxHeartbeats 4000000 in
theorem s_X7_set (x1 : Int32) (x2 : Int32) (o_sets : Nat → Int32) (h0 : SetOK o_sets) : okP (f_X7_set x1 x2 o_sets) (fun u => (SetOK u.2) ∧ ((SetV x1.toInt x2.toInt ∧ u.1 = o_sets x1.toNatClampNeg ∧ u.2 = upd o_sets x1.toNatClampNeg x2) ∨ (¬ SetV x1.toInt x2.toInt ∧ u.1.toInt = -1 ∧ u.2 = o_sets))) := by
  unfold f_X7_set
  first | (have f_1 : (x1.toInt64).toInt = x1.toInt := j_i2l _) | skip
  refine ok_bd1 (s_X7_in x1.toInt64 0 7) (fun r_2 q_3 => ?_)
  replace q_3 : (r_2.toInt = 1 ∧ (0 : Int) ≤ x1.toInt64.toInt ∧ x1.toInt64.toInt ≤ (7 : Int)) ∨ (r_2.toInt = 0 ∧ (x1.toInt64.toInt < (0 : Int) ∨ (7 : Int) < x1.toInt64.toInt)) := q_3
  refine ok_ite (fun c_4 => ?_) (fun c_4 => ?_)
  · skip
    have c_4 : r_2.toInt = (0 : Int) := i_eq.mp c_4
    replace q_3 : (x1.toInt64.toInt < (0 : Int) ∨ (7 : Int) < x1.toInt64.toInt) := by omega
    exact ok_some (show (SetOK o_sets) ∧ ((SetV x1.toInt x2.toInt ∧ (-1) = o_sets x1.toNatClampNeg ∧ o_sets = upd o_sets x1.toNatClampNeg x2) ∨ (¬ SetV x1.toInt x2.toInt ∧ (-1 : Int) = -1 ∧ o_sets = o_sets)) from ⟨by first | with_reducible assumption | with_reducible rfl | exact SetOK_upd2 (by assumption) (by omega) (by omega) (by omega) ⟨fun _ => by omega, fun _ => by omega, fun _ => by omega, fun _ => by omega, fun _ => by omega, fun _ => by omega, fun _ => by omega⟩ | exact Or.inr ⟨by unfold SetV; omega, rfl, rfl⟩ | exact Or.inl ⟨by unfold SetV; omega, by assumption, rfl⟩ | omega, by first | with_reducible assumption | with_reducible rfl | exact SetOK_upd2 (by assumption) (by omega) (by omega) (by omega) ⟨fun _ => by omega, fun _ => by omega, fun _ => by omega, fun _ => by omega, fun _ => by omega, fun _ => by omega, fun _ => by omega⟩ | exact Or.inr ⟨by unfold SetV; omega, rfl, rfl⟩ | exact Or.inl ⟨by unfold SetV; omega, by assumption, rfl⟩ | omega⟩)
  · skip
    have c_4 : ¬ r_2.toInt = (0 : Int) := fun z => c_4 (i_eq.mpr z)
    replace q_3 : (0 : Int) ≤ x1.toInt64.toInt ∧ x1.toInt64.toInt ≤ (7 : Int) := by omega
    refine ok_ite (fun c_5 => ?_) (fun c_5 => ?_)
    · skip
      have c_5 : (2 : Int) ≤ x1.toInt := i_le.mp c_5
      refine ok_ite (fun c_6 => ?_) (fun c_6 => ?_)
      · skip
        have c_6 : x1.toInt = (2 : Int) := i_eq.mp c_6
        unfold f_X7_set_B74
        first | (have f_7 : (x2.toInt64).toInt = x2.toInt := j_i2l _) | skip
        refine ok_ite (fun c_8 => ?_) (fun c_8 => ?_)
        · skip
          have c_8 : x1.toInt = (2 : Int) := i_eq.mp c_8
          unfold f_X7_set_B87
          first | (have f_9 : ((6 : Int32).toInt64).toInt = (6 : Int) := j_i2l _) | skip
          refine ok_bd1 (s_X7_in x2.toInt64 1 ((6 : Int32).toInt64)) (fun r_10 q_11 => ?_)
          replace q_11 : (r_10.toInt = 1 ∧ (1 : Int) ≤ x2.toInt64.toInt ∧ x2.toInt64.toInt ≤ ((6 : Int32).toInt64).toInt) ∨ (r_10.toInt = 0 ∧ (x2.toInt64.toInt < (1 : Int) ∨ ((6 : Int32).toInt64).toInt < x2.toInt64.toInt)) := q_11
          refine ok_ite (fun c_12 => ?_) (fun c_12 => ?_)
          · skip
            have c_12 : r_10.toInt = (0 : Int) := i_eq.mp c_12
            replace q_11 : (x2.toInt64.toInt < (1 : Int) ∨ ((6 : Int32).toInt64).toInt < x2.toInt64.toInt) := by omega
            exact ok_some (show (SetOK o_sets) ∧ ((SetV x1.toInt x2.toInt ∧ (-1) = o_sets x1.toNatClampNeg ∧ o_sets = upd o_sets x1.toNatClampNeg x2) ∨ (¬ SetV x1.toInt x2.toInt ∧ (-1 : Int) = -1 ∧ o_sets = o_sets)) from ⟨by first | with_reducible assumption | with_reducible rfl | exact SetOK_upd2 (by assumption) (by omega) (by omega) (by omega) ⟨fun _ => by omega, fun _ => by omega, fun _ => by omega, fun _ => by omega, fun _ => by omega, fun _ => by omega, fun _ => by omega⟩ | exact Or.inr ⟨by unfold SetV; omega, rfl, rfl⟩ | exact Or.inl ⟨by unfold SetV; omega, by assumption, rfl⟩ | omega, by first | with_reducible assumption | with_reducible rfl | exact SetOK_upd2 (by assumption) (by omega) (by omega) (by omega) ⟨fun _ => by omega, fun _ => by omega, fun _ => by omega, fun _ => by omega, fun _ => by omega, fun _ => by omega, fun _ => by omega⟩ | exact Or.inr ⟨by unfold SetV; omega, rfl, rfl⟩ | exact Or.inl ⟨by unfold SetV; omega, by assumption, rfl⟩ | omega⟩)
          · skip
            have c_12 : ¬ r_10.toInt = (0 : Int) := fun z => c_12 (i_eq.mpr z)
            replace q_11 : (1 : Int) ≤ x2.toInt64.toInt ∧ x2.toInt64.toInt ≤ ((6 : Int32).toInt64).toInt := by omega
            have ix_13 : ¬ (x1 < 0 ∨ 8 ≤ x1.toNatClampNeg) := ix (show 0 ≤ x1.toInt by omega) (show x1.toInt < (8 : Nat) by omega)
            refine ok_chk ix_13 ?_
            refine ok_nmi (fun x_14 hx_14 kx_14 => ?_)
            refine ok_chk ix_13 ?_
            exact ok_some (show (SetOK (upd o_sets x1.toNatClampNeg x2)) ∧ ((SetV x1.toInt x2.toInt ∧ x_14 = o_sets x1.toNatClampNeg ∧ (upd o_sets x1.toNatClampNeg x2) = upd o_sets x1.toNatClampNeg x2) ∨ (¬ SetV x1.toInt x2.toInt ∧ x_14.toInt = -1 ∧ (upd o_sets x1.toNatClampNeg x2) = o_sets)) from ⟨by first | with_reducible assumption | with_reducible rfl | exact SetOK_upd2 (by assumption) (by omega) (by omega) (by omega) ⟨fun _ => by omega, fun _ => by omega, fun _ => by omega, fun _ => by omega, fun _ => by omega, fun _ => by omega, fun _ => by omega⟩ | exact Or.inr ⟨by unfold SetV; omega, rfl, rfl⟩ | exact Or.inl ⟨by unfold SetV; omega, by assumption, rfl⟩ | omega, by first | with_reducible assumption | with_reducible rfl | exact SetOK_upd2 (by assumption) (by omega) (by omega) (by omega) ⟨fun _ => by omega, fun _ => by omega, fun _ => by omega, fun _ => by omega, fun _ => by omega, fun _ => by omega, fun _ => by omega⟩ | exact Or.inr ⟨by unfold SetV; omega, rfl, rfl⟩ | exact Or.inl ⟨by unfold SetV; omega, by assumption, rfl⟩ | omega⟩)
        · skip
          have c_8 : ¬ x1.toInt = (2 : Int) := fun z => c_8 (i_eq.mpr z)
          unfold f_X7_set_B87
          first | (have f_15 : ((6 : Int32).toInt64).toInt = (6 : Int) := j_i2l _) | skip
          refine ok_bd1 (s_X7_in x2.toInt64 0 ((6 : Int32).toInt64)) (fun r_16 q_17 => ?_)
          replace q_17 : (r_16.toInt = 1 ∧ (0 : Int) ≤ x2.toInt64.toInt ∧ x2.toInt64.toInt ≤ ((6 : Int32).toInt64).toInt) ∨ (r_16.toInt = 0 ∧ (x2.toInt64.toInt < (0 : Int) ∨ ((6 : Int32).toInt64).toInt < x2.toInt64.toInt)) := q_17
          refine ok_ite (fun c_18 => ?_) (fun c_18 => ?_)
          · skip
            have c_18 : r_16.toInt = (0 : Int) := i_eq.mp c_18
            replace q_17 : (x2.toInt64.toInt < (0 : Int) ∨ ((6 : Int32).toInt64).toInt < x2.toInt64.toInt) := by omega
            exact ok_some (show (SetOK o_sets) ∧ ((SetV x1.toInt x2.toInt ∧ (-1) = o_sets x1.toNatClampNeg ∧ o_sets = upd o_sets x1.toNatClampNeg x2) ∨ (¬ SetV x1.toInt x2.toInt ∧ (-1 : Int) = -1 ∧ o_sets = o_sets)) from ⟨by first | with_reducible assumption | with_reducible rfl | exact SetOK_upd2 (by assumption) (by omega) (by omega) (by omega) ⟨fun _ => by omega, fun _ => by omega, fun _ => by omega, fun _ => by omega, fun _ => by omega, fun _ => by omega, fun _ => by omega⟩ | exact Or.inr ⟨by unfold SetV; omega, rfl, rfl⟩ | exact Or.inl ⟨by unfold SetV; omega, by assumption, rfl⟩ | omega, by first | with_reducible assumption | with_reducible rfl | exact SetOK_upd2 (by assumption) (by omega) (by omega) (by omega) ⟨fun _ => by omega, fun _ => by omega, fun _ => by omega, fun _ => by omega, fun _ => by omega, fun _ => by omega, fun _ => by omega⟩ | exact Or.inr ⟨by unfold SetV; omega, rfl, rfl⟩ | exact Or.inl ⟨by unfold SetV; omega, by assumption, rfl⟩ | omega⟩)
          · skip
            have c_18 : ¬ r_16.toInt = (0 : Int) := fun z => c_18 (i_eq.mpr z)
            replace q_17 : (0 : Int) ≤ x2.toInt64.toInt ∧ x2.toInt64.toInt ≤ ((6 : Int32).toInt64).toInt := by omega
            have ix_19 : ¬ (x1 < 0 ∨ 8 ≤ x1.toNatClampNeg) := ix (show 0 ≤ x1.toInt by omega) (show x1.toInt < (8 : Nat) by omega)
            refine ok_chk ix_19 ?_
            refine ok_nmi (fun x_20 hx_20 kx_20 => ?_)
            refine ok_chk ix_19 ?_
            exact ok_some (show (SetOK (upd o_sets x1.toNatClampNeg x2)) ∧ ((SetV x1.toInt x2.toInt ∧ x_20 = o_sets x1.toNatClampNeg ∧ (upd o_sets x1.toNatClampNeg x2) = upd o_sets x1.toNatClampNeg x2) ∨ (¬ SetV x1.toInt x2.toInt ∧ x_20.toInt = -1 ∧ (upd o_sets x1.toNatClampNeg x2) = o_sets)) from ⟨by first | with_reducible assumption | with_reducible rfl | exact SetOK_upd2 (by assumption) (by omega) (by omega) (by omega) ⟨fun _ => by omega, fun _ => by omega, fun _ => by omega, fun _ => by omega, fun _ => by omega, fun _ => by omega, fun _ => by omega⟩ | exact Or.inr ⟨by unfold SetV; omega, rfl, rfl⟩ | exact Or.inl ⟨by unfold SetV; omega, by assumption, rfl⟩ | omega, by first | with_reducible assumption | with_reducible rfl | exact SetOK_upd2 (by assumption) (by omega) (by omega) (by omega) ⟨fun _ => by omega, fun _ => by omega, fun _ => by omega, fun _ => by omega, fun _ => by omega, fun _ => by omega, fun _ => by omega⟩ | exact Or.inr ⟨by unfold SetV; omega, rfl, rfl⟩ | exact Or.inl ⟨by unfold SetV; omega, by assumption, rfl⟩ | omega⟩)
      · skip
        have c_6 : ¬ x1.toInt = (2 : Int) := fun z => c_6 (i_eq.mpr z)
        refine ok_ite (fun c_21 => ?_) (fun c_21 => ?_)
        · skip
          have c_21 : x1.toInt = (3 : Int) := i_eq.mp c_21
          unfold f_X7_set_B74
          first | (have f_22 : (x2.toInt64).toInt = x2.toInt := j_i2l _) | skip
          refine ok_ite (fun c_23 => ?_) (fun c_23 => ?_)
          · skip
            have c_23 : x1.toInt = (2 : Int) := i_eq.mp c_23
            unfold f_X7_set_B87
            first | (have f_24 : ((2 : Int32).toInt64).toInt = (2 : Int) := j_i2l _) | skip
            refine ok_bd1 (s_X7_in x2.toInt64 1 ((2 : Int32).toInt64)) (fun r_25 q_26 => ?_)
            replace q_26 : (r_25.toInt = 1 ∧ (1 : Int) ≤ x2.toInt64.toInt ∧ x2.toInt64.toInt ≤ ((2 : Int32).toInt64).toInt) ∨ (r_25.toInt = 0 ∧ (x2.toInt64.toInt < (1 : Int) ∨ ((2 : Int32).toInt64).toInt < x2.toInt64.toInt)) := q_26
            refine ok_ite (fun c_27 => ?_) (fun c_27 => ?_)
            · skip
              have c_27 : r_25.toInt = (0 : Int) := i_eq.mp c_27
              replace q_26 : (x2.toInt64.toInt < (1 : Int) ∨ ((2 : Int32).toInt64).toInt < x2.toInt64.toInt) := by omega
              exact ok_some (show (SetOK o_sets) ∧ ((SetV x1.toInt x2.toInt ∧ (-1) = o_sets x1.toNatClampNeg ∧ o_sets = upd o_sets x1.toNatClampNeg x2) ∨ (¬ SetV x1.toInt x2.toInt ∧ (-1 : Int) = -1 ∧ o_sets = o_sets)) from ⟨by first | with_reducible assumption | with_reducible rfl | exact SetOK_upd2 (by assumption) (by omega) (by omega) (by omega) ⟨fun _ => by omega, fun _ => by omega, fun _ => by omega, fun _ => by omega, fun _ => by omega, fun _ => by omega, fun _ => by omega⟩ | exact Or.inr ⟨by unfold SetV; omega, rfl, rfl⟩ | exact Or.inl ⟨by unfold SetV; omega, by assumption, rfl⟩ | omega, by first | with_reducible assumption | with_reducible rfl | exact SetOK_upd2 (by assumption) (by omega) (by omega) (by omega) ⟨fun _ => by omega, fun _ => by omega, fun _ => by omega, fun _ => by omega, fun _ => by omega, fun _ => by omega, fun _ => by omega⟩ | exact Or.inr ⟨by unfold SetV; omega, rfl, rfl⟩ | exact Or.inl ⟨by unfold SetV; omega, by assumption, rfl⟩ | omega⟩)
            · skip
              have c_27 : ¬ r_25.toInt = (0 : Int) := fun z => c_27 (i_eq.mpr z)
              replace q_26 : (1 : Int) ≤ x2.toInt64.toInt ∧ x2.toInt64.toInt ≤ ((2 : Int32).toInt64).toInt := by omega
              have ix_28 : ¬ (x1 < 0 ∨ 8 ≤ x1.toNatClampNeg) := ix (show 0 ≤ x1.toInt by omega) (show x1.toInt < (8 : Nat) by omega)
              refine ok_chk ix_28 ?_
              refine ok_nmi (fun x_29 hx_29 kx_29 => ?_)
              refine ok_chk ix_28 ?_
              exact ok_some (show (SetOK (upd o_sets x1.toNatClampNeg x2)) ∧ ((SetV x1.toInt x2.toInt ∧ x_29 = o_sets x1.toNatClampNeg ∧ (upd o_sets x1.toNatClampNeg x2) = upd o_sets x1.toNatClampNeg x2) ∨ (¬ SetV x1.toInt x2.toInt ∧ x_29.toInt = -1 ∧ (upd o_sets x1.toNatClampNeg x2) = o_sets)) from ⟨by first | with_reducible assumption | with_reducible rfl | exact SetOK_upd2 (by assumption) (by omega) (by omega) (by omega) ⟨fun _ => by omega, fun _ => by omega, fun _ => by omega, fun _ => by omega, fun _ => by omega, fun _ => by omega, fun _ => by omega⟩ | exact Or.inr ⟨by unfold SetV; omega, rfl, rfl⟩ | exact Or.inl ⟨by unfold SetV; omega, by assumption, rfl⟩ | omega, by first | with_reducible assumption | with_reducible rfl | exact SetOK_upd2 (by assumption) (by omega) (by omega) (by omega) ⟨fun _ => by omega, fun _ => by omega, fun _ => by omega, fun _ => by omega, fun _ => by omega, fun _ => by omega, fun _ => by omega⟩ | exact Or.inr ⟨by unfold SetV; omega, rfl, rfl⟩ | exact Or.inl ⟨by unfold SetV; omega, by assumption, rfl⟩ | omega⟩)
          · skip
            have c_23 : ¬ x1.toInt = (2 : Int) := fun z => c_23 (i_eq.mpr z)
            unfold f_X7_set_B87
            first | (have f_30 : ((2 : Int32).toInt64).toInt = (2 : Int) := j_i2l _) | skip
            refine ok_bd1 (s_X7_in x2.toInt64 0 ((2 : Int32).toInt64)) (fun r_31 q_32 => ?_)
            replace q_32 : (r_31.toInt = 1 ∧ (0 : Int) ≤ x2.toInt64.toInt ∧ x2.toInt64.toInt ≤ ((2 : Int32).toInt64).toInt) ∨ (r_31.toInt = 0 ∧ (x2.toInt64.toInt < (0 : Int) ∨ ((2 : Int32).toInt64).toInt < x2.toInt64.toInt)) := q_32
            refine ok_ite (fun c_33 => ?_) (fun c_33 => ?_)
            · skip
              have c_33 : r_31.toInt = (0 : Int) := i_eq.mp c_33
              replace q_32 : (x2.toInt64.toInt < (0 : Int) ∨ ((2 : Int32).toInt64).toInt < x2.toInt64.toInt) := by omega
              exact ok_some (show (SetOK o_sets) ∧ ((SetV x1.toInt x2.toInt ∧ (-1) = o_sets x1.toNatClampNeg ∧ o_sets = upd o_sets x1.toNatClampNeg x2) ∨ (¬ SetV x1.toInt x2.toInt ∧ (-1 : Int) = -1 ∧ o_sets = o_sets)) from ⟨by first | with_reducible assumption | with_reducible rfl | exact SetOK_upd2 (by assumption) (by omega) (by omega) (by omega) ⟨fun _ => by omega, fun _ => by omega, fun _ => by omega, fun _ => by omega, fun _ => by omega, fun _ => by omega, fun _ => by omega⟩ | exact Or.inr ⟨by unfold SetV; omega, rfl, rfl⟩ | exact Or.inl ⟨by unfold SetV; omega, by assumption, rfl⟩ | omega, by first | with_reducible assumption | with_reducible rfl | exact SetOK_upd2 (by assumption) (by omega) (by omega) (by omega) ⟨fun _ => by omega, fun _ => by omega, fun _ => by omega, fun _ => by omega, fun _ => by omega, fun _ => by omega, fun _ => by omega⟩ | exact Or.inr ⟨by unfold SetV; omega, rfl, rfl⟩ | exact Or.inl ⟨by unfold SetV; omega, by assumption, rfl⟩ | omega⟩)
            · skip
              have c_33 : ¬ r_31.toInt = (0 : Int) := fun z => c_33 (i_eq.mpr z)
              replace q_32 : (0 : Int) ≤ x2.toInt64.toInt ∧ x2.toInt64.toInt ≤ ((2 : Int32).toInt64).toInt := by omega
              have ix_34 : ¬ (x1 < 0 ∨ 8 ≤ x1.toNatClampNeg) := ix (show 0 ≤ x1.toInt by omega) (show x1.toInt < (8 : Nat) by omega)
              refine ok_chk ix_34 ?_
              refine ok_nmi (fun x_35 hx_35 kx_35 => ?_)
              refine ok_chk ix_34 ?_
              exact ok_some (show (SetOK (upd o_sets x1.toNatClampNeg x2)) ∧ ((SetV x1.toInt x2.toInt ∧ x_35 = o_sets x1.toNatClampNeg ∧ (upd o_sets x1.toNatClampNeg x2) = upd o_sets x1.toNatClampNeg x2) ∨ (¬ SetV x1.toInt x2.toInt ∧ x_35.toInt = -1 ∧ (upd o_sets x1.toNatClampNeg x2) = o_sets)) from ⟨by first | with_reducible assumption | with_reducible rfl | exact SetOK_upd2 (by assumption) (by omega) (by omega) (by omega) ⟨fun _ => by omega, fun _ => by omega, fun _ => by omega, fun _ => by omega, fun _ => by omega, fun _ => by omega, fun _ => by omega⟩ | exact Or.inr ⟨by unfold SetV; omega, rfl, rfl⟩ | exact Or.inl ⟨by unfold SetV; omega, by assumption, rfl⟩ | omega, by first | with_reducible assumption | with_reducible rfl | exact SetOK_upd2 (by assumption) (by omega) (by omega) (by omega) ⟨fun _ => by omega, fun _ => by omega, fun _ => by omega, fun _ => by omega, fun _ => by omega, fun _ => by omega, fun _ => by omega⟩ | exact Or.inr ⟨by unfold SetV; omega, rfl, rfl⟩ | exact Or.inl ⟨by unfold SetV; omega, by assumption, rfl⟩ | omega⟩)
        · skip
          have c_21 : ¬ x1.toInt = (3 : Int) := fun z => c_21 (i_eq.mpr z)
          refine ok_ite (fun c_36 => ?_) (fun c_36 => ?_)
          · skip
            have c_36 : x1.toInt = (4 : Int) := i_eq.mp c_36
            unfold f_X7_set_B74
            first | (have f_37 : (x2.toInt64).toInt = x2.toInt := j_i2l _) | skip
            refine ok_ite (fun c_38 => ?_) (fun c_38 => ?_)
            · skip
              have c_38 : x1.toInt = (2 : Int) := i_eq.mp c_38
              unfold f_X7_set_B87
              first | (have f_39 : ((1 : Int32).toInt64).toInt = (1 : Int) := j_i2l _) | skip
              refine ok_bd1 (s_X7_in x2.toInt64 1 ((1 : Int32).toInt64)) (fun r_40 q_41 => ?_)
              replace q_41 : (r_40.toInt = 1 ∧ (1 : Int) ≤ x2.toInt64.toInt ∧ x2.toInt64.toInt ≤ ((1 : Int32).toInt64).toInt) ∨ (r_40.toInt = 0 ∧ (x2.toInt64.toInt < (1 : Int) ∨ ((1 : Int32).toInt64).toInt < x2.toInt64.toInt)) := q_41
              refine ok_ite (fun c_42 => ?_) (fun c_42 => ?_)
              · skip
                have c_42 : r_40.toInt = (0 : Int) := i_eq.mp c_42
                replace q_41 : (x2.toInt64.toInt < (1 : Int) ∨ ((1 : Int32).toInt64).toInt < x2.toInt64.toInt) := by omega
                exact ok_some (show (SetOK o_sets) ∧ ((SetV x1.toInt x2.toInt ∧ (-1) = o_sets x1.toNatClampNeg ∧ o_sets = upd o_sets x1.toNatClampNeg x2) ∨ (¬ SetV x1.toInt x2.toInt ∧ (-1 : Int) = -1 ∧ o_sets = o_sets)) from ⟨by first | with_reducible assumption | with_reducible rfl | exact SetOK_upd2 (by assumption) (by omega) (by omega) (by omega) ⟨fun _ => by omega, fun _ => by omega, fun _ => by omega, fun _ => by omega, fun _ => by omega, fun _ => by omega, fun _ => by omega⟩ | exact Or.inr ⟨by unfold SetV; omega, rfl, rfl⟩ | exact Or.inl ⟨by unfold SetV; omega, by assumption, rfl⟩ | omega, by first | with_reducible assumption | with_reducible rfl | exact SetOK_upd2 (by assumption) (by omega) (by omega) (by omega) ⟨fun _ => by omega, fun _ => by omega, fun _ => by omega, fun _ => by omega, fun _ => by omega, fun _ => by omega, fun _ => by omega⟩ | exact Or.inr ⟨by unfold SetV; omega, rfl, rfl⟩ | exact Or.inl ⟨by unfold SetV; omega, by assumption, rfl⟩ | omega⟩)
              · skip
                have c_42 : ¬ r_40.toInt = (0 : Int) := fun z => c_42 (i_eq.mpr z)
                replace q_41 : (1 : Int) ≤ x2.toInt64.toInt ∧ x2.toInt64.toInt ≤ ((1 : Int32).toInt64).toInt := by omega
                have ix_43 : ¬ (x1 < 0 ∨ 8 ≤ x1.toNatClampNeg) := ix (show 0 ≤ x1.toInt by omega) (show x1.toInt < (8 : Nat) by omega)
                refine ok_chk ix_43 ?_
                refine ok_nmi (fun x_44 hx_44 kx_44 => ?_)
                refine ok_chk ix_43 ?_
                exact ok_some (show (SetOK (upd o_sets x1.toNatClampNeg x2)) ∧ ((SetV x1.toInt x2.toInt ∧ x_44 = o_sets x1.toNatClampNeg ∧ (upd o_sets x1.toNatClampNeg x2) = upd o_sets x1.toNatClampNeg x2) ∨ (¬ SetV x1.toInt x2.toInt ∧ x_44.toInt = -1 ∧ (upd o_sets x1.toNatClampNeg x2) = o_sets)) from ⟨by first | with_reducible assumption | with_reducible rfl | exact SetOK_upd2 (by assumption) (by omega) (by omega) (by omega) ⟨fun _ => by omega, fun _ => by omega, fun _ => by omega, fun _ => by omega, fun _ => by omega, fun _ => by omega, fun _ => by omega⟩ | exact Or.inr ⟨by unfold SetV; omega, rfl, rfl⟩ | exact Or.inl ⟨by unfold SetV; omega, by assumption, rfl⟩ | omega, by first | with_reducible assumption | with_reducible rfl | exact SetOK_upd2 (by assumption) (by omega) (by omega) (by omega) ⟨fun _ => by omega, fun _ => by omega, fun _ => by omega, fun _ => by omega, fun _ => by omega, fun _ => by omega, fun _ => by omega⟩ | exact Or.inr ⟨by unfold SetV; omega, rfl, rfl⟩ | exact Or.inl ⟨by unfold SetV; omega, by assumption, rfl⟩ | omega⟩)
            · skip
              have c_38 : ¬ x1.toInt = (2 : Int) := fun z => c_38 (i_eq.mpr z)
              unfold f_X7_set_B87
              first | (have f_45 : ((1 : Int32).toInt64).toInt = (1 : Int) := j_i2l _) | skip
              refine ok_bd1 (s_X7_in x2.toInt64 0 ((1 : Int32).toInt64)) (fun r_46 q_47 => ?_)
              replace q_47 : (r_46.toInt = 1 ∧ (0 : Int) ≤ x2.toInt64.toInt ∧ x2.toInt64.toInt ≤ ((1 : Int32).toInt64).toInt) ∨ (r_46.toInt = 0 ∧ (x2.toInt64.toInt < (0 : Int) ∨ ((1 : Int32).toInt64).toInt < x2.toInt64.toInt)) := q_47
              refine ok_ite (fun c_48 => ?_) (fun c_48 => ?_)
              · skip
                have c_48 : r_46.toInt = (0 : Int) := i_eq.mp c_48
                replace q_47 : (x2.toInt64.toInt < (0 : Int) ∨ ((1 : Int32).toInt64).toInt < x2.toInt64.toInt) := by omega
                exact ok_some (show (SetOK o_sets) ∧ ((SetV x1.toInt x2.toInt ∧ (-1) = o_sets x1.toNatClampNeg ∧ o_sets = upd o_sets x1.toNatClampNeg x2) ∨ (¬ SetV x1.toInt x2.toInt ∧ (-1 : Int) = -1 ∧ o_sets = o_sets)) from ⟨by first | with_reducible assumption | with_reducible rfl | exact SetOK_upd2 (by assumption) (by omega) (by omega) (by omega) ⟨fun _ => by omega, fun _ => by omega, fun _ => by omega, fun _ => by omega, fun _ => by omega, fun _ => by omega, fun _ => by omega⟩ | exact Or.inr ⟨by unfold SetV; omega, rfl, rfl⟩ | exact Or.inl ⟨by unfold SetV; omega, by assumption, rfl⟩ | omega, by first | with_reducible assumption | with_reducible rfl | exact SetOK_upd2 (by assumption) (by omega) (by omega) (by omega) ⟨fun _ => by omega, fun _ => by omega, fun _ => by omega, fun _ => by omega, fun _ => by omega, fun _ => by omega, fun _ => by omega⟩ | exact Or.inr ⟨by unfold SetV; omega, rfl, rfl⟩ | exact Or.inl ⟨by unfold SetV; omega, by assumption, rfl⟩ | omega⟩)
              · skip
                have c_48 : ¬ r_46.toInt = (0 : Int) := fun z => c_48 (i_eq.mpr z)
                replace q_47 : (0 : Int) ≤ x2.toInt64.toInt ∧ x2.toInt64.toInt ≤ ((1 : Int32).toInt64).toInt := by omega
                have ix_49 : ¬ (x1 < 0 ∨ 8 ≤ x1.toNatClampNeg) := ix (show 0 ≤ x1.toInt by omega) (show x1.toInt < (8 : Nat) by omega)
                refine ok_chk ix_49 ?_
                refine ok_nmi (fun x_50 hx_50 kx_50 => ?_)
                refine ok_chk ix_49 ?_
                exact ok_some (show (SetOK (upd o_sets x1.toNatClampNeg x2)) ∧ ((SetV x1.toInt x2.toInt ∧ x_50 = o_sets x1.toNatClampNeg ∧ (upd o_sets x1.toNatClampNeg x2) = upd o_sets x1.toNatClampNeg x2) ∨ (¬ SetV x1.toInt x2.toInt ∧ x_50.toInt = -1 ∧ (upd o_sets x1.toNatClampNeg x2) = o_sets)) from ⟨by first | with_reducible assumption | with_reducible rfl | exact SetOK_upd2 (by assumption) (by omega) (by omega) (by omega) ⟨fun _ => by omega, fun _ => by omega, fun _ => by omega, fun _ => by omega, fun _ => by omega, fun _ => by omega, fun _ => by omega⟩ | exact Or.inr ⟨by unfold SetV; omega, rfl, rfl⟩ | exact Or.inl ⟨by unfold SetV; omega, by assumption, rfl⟩ | omega, by first | with_reducible assumption | with_reducible rfl | exact SetOK_upd2 (by assumption) (by omega) (by omega) (by omega) ⟨fun _ => by omega, fun _ => by omega, fun _ => by omega, fun _ => by omega, fun _ => by omega, fun _ => by omega, fun _ => by omega⟩ | exact Or.inr ⟨by unfold SetV; omega, rfl, rfl⟩ | exact Or.inl ⟨by unfold SetV; omega, by assumption, rfl⟩ | omega⟩)
          · skip
            have c_36 : ¬ x1.toInt = (4 : Int) := fun z => c_36 (i_eq.mpr z)
            refine ok_ite (fun c_51 => ?_) (fun c_51 => ?_)
            · skip
              have c_51 : x1.toInt = (5 : Int) := i_eq.mp c_51
              unfold f_X7_set_B74
              first | (have f_52 : (x2.toInt64).toInt = x2.toInt := j_i2l _) | skip
              refine ok_ite (fun c_53 => ?_) (fun c_53 => ?_)
              · skip
                have c_53 : x1.toInt = (2 : Int) := i_eq.mp c_53
                unfold f_X7_set_B87
                first | (have f_54 : ((60 : Int32).toInt64).toInt = (60 : Int) := j_i2l _) | skip
                refine ok_bd1 (s_X7_in x2.toInt64 1 ((60 : Int32).toInt64)) (fun r_55 q_56 => ?_)
                replace q_56 : (r_55.toInt = 1 ∧ (1 : Int) ≤ x2.toInt64.toInt ∧ x2.toInt64.toInt ≤ ((60 : Int32).toInt64).toInt) ∨ (r_55.toInt = 0 ∧ (x2.toInt64.toInt < (1 : Int) ∨ ((60 : Int32).toInt64).toInt < x2.toInt64.toInt)) := q_56
                refine ok_ite (fun c_57 => ?_) (fun c_57 => ?_)
                · skip
                  have c_57 : r_55.toInt = (0 : Int) := i_eq.mp c_57
                  replace q_56 : (x2.toInt64.toInt < (1 : Int) ∨ ((60 : Int32).toInt64).toInt < x2.toInt64.toInt) := by omega
                  exact ok_some (show (SetOK o_sets) ∧ ((SetV x1.toInt x2.toInt ∧ (-1) = o_sets x1.toNatClampNeg ∧ o_sets = upd o_sets x1.toNatClampNeg x2) ∨ (¬ SetV x1.toInt x2.toInt ∧ (-1 : Int) = -1 ∧ o_sets = o_sets)) from ⟨by first | with_reducible assumption | with_reducible rfl | exact SetOK_upd2 (by assumption) (by omega) (by omega) (by omega) ⟨fun _ => by omega, fun _ => by omega, fun _ => by omega, fun _ => by omega, fun _ => by omega, fun _ => by omega, fun _ => by omega⟩ | exact Or.inr ⟨by unfold SetV; omega, rfl, rfl⟩ | exact Or.inl ⟨by unfold SetV; omega, by assumption, rfl⟩ | omega, by first | with_reducible assumption | with_reducible rfl | exact SetOK_upd2 (by assumption) (by omega) (by omega) (by omega) ⟨fun _ => by omega, fun _ => by omega, fun _ => by omega, fun _ => by omega, fun _ => by omega, fun _ => by omega, fun _ => by omega⟩ | exact Or.inr ⟨by unfold SetV; omega, rfl, rfl⟩ | exact Or.inl ⟨by unfold SetV; omega, by assumption, rfl⟩ | omega⟩)
                · skip
                  have c_57 : ¬ r_55.toInt = (0 : Int) := fun z => c_57 (i_eq.mpr z)
                  replace q_56 : (1 : Int) ≤ x2.toInt64.toInt ∧ x2.toInt64.toInt ≤ ((60 : Int32).toInt64).toInt := by omega
                  have ix_58 : ¬ (x1 < 0 ∨ 8 ≤ x1.toNatClampNeg) := ix (show 0 ≤ x1.toInt by omega) (show x1.toInt < (8 : Nat) by omega)
                  refine ok_chk ix_58 ?_
                  refine ok_nmi (fun x_59 hx_59 kx_59 => ?_)
                  refine ok_chk ix_58 ?_
                  exact ok_some (show (SetOK (upd o_sets x1.toNatClampNeg x2)) ∧ ((SetV x1.toInt x2.toInt ∧ x_59 = o_sets x1.toNatClampNeg ∧ (upd o_sets x1.toNatClampNeg x2) = upd o_sets x1.toNatClampNeg x2) ∨ (¬ SetV x1.toInt x2.toInt ∧ x_59.toInt = -1 ∧ (upd o_sets x1.toNatClampNeg x2) = o_sets)) from ⟨by first | with_reducible assumption | with_reducible rfl | exact SetOK_upd2 (by assumption) (by omega) (by omega) (by omega) ⟨fun _ => by omega, fun _ => by omega, fun _ => by omega, fun _ => by omega, fun _ => by omega, fun _ => by omega, fun _ => by omega⟩ | exact Or.inr ⟨by unfold SetV; omega, rfl, rfl⟩ | exact Or.inl ⟨by unfold SetV; omega, by assumption, rfl⟩ | omega, by first | with_reducible assumption | with_reducible rfl | exact SetOK_upd2 (by assumption) (by omega) (by omega) (by omega) ⟨fun _ => by omega, fun _ => by omega, fun _ => by omega, fun _ => by omega, fun _ => by omega, fun _ => by omega, fun _ => by omega⟩ | exact Or.inr ⟨by unfold SetV; omega, rfl, rfl⟩ | exact Or.inl ⟨by unfold SetV; omega, by assumption, rfl⟩ | omega⟩)
              · skip
                have c_53 : ¬ x1.toInt = (2 : Int) := fun z => c_53 (i_eq.mpr z)
                unfold f_X7_set_B87
                first | (have f_60 : ((60 : Int32).toInt64).toInt = (60 : Int) := j_i2l _) | skip
                refine ok_bd1 (s_X7_in x2.toInt64 0 ((60 : Int32).toInt64)) (fun r_61 q_62 => ?_)
                replace q_62 : (r_61.toInt = 1 ∧ (0 : Int) ≤ x2.toInt64.toInt ∧ x2.toInt64.toInt ≤ ((60 : Int32).toInt64).toInt) ∨ (r_61.toInt = 0 ∧ (x2.toInt64.toInt < (0 : Int) ∨ ((60 : Int32).toInt64).toInt < x2.toInt64.toInt)) := q_62
                refine ok_ite (fun c_63 => ?_) (fun c_63 => ?_)
                · skip
                  have c_63 : r_61.toInt = (0 : Int) := i_eq.mp c_63
                  replace q_62 : (x2.toInt64.toInt < (0 : Int) ∨ ((60 : Int32).toInt64).toInt < x2.toInt64.toInt) := by omega
                  exact ok_some (show (SetOK o_sets) ∧ ((SetV x1.toInt x2.toInt ∧ (-1) = o_sets x1.toNatClampNeg ∧ o_sets = upd o_sets x1.toNatClampNeg x2) ∨ (¬ SetV x1.toInt x2.toInt ∧ (-1 : Int) = -1 ∧ o_sets = o_sets)) from ⟨by first | with_reducible assumption | with_reducible rfl | exact SetOK_upd2 (by assumption) (by omega) (by omega) (by omega) ⟨fun _ => by omega, fun _ => by omega, fun _ => by omega, fun _ => by omega, fun _ => by omega, fun _ => by omega, fun _ => by omega⟩ | exact Or.inr ⟨by unfold SetV; omega, rfl, rfl⟩ | exact Or.inl ⟨by unfold SetV; omega, by assumption, rfl⟩ | omega, by first | with_reducible assumption | with_reducible rfl | exact SetOK_upd2 (by assumption) (by omega) (by omega) (by omega) ⟨fun _ => by omega, fun _ => by omega, fun _ => by omega, fun _ => by omega, fun _ => by omega, fun _ => by omega, fun _ => by omega⟩ | exact Or.inr ⟨by unfold SetV; omega, rfl, rfl⟩ | exact Or.inl ⟨by unfold SetV; omega, by assumption, rfl⟩ | omega⟩)
                · skip
                  have c_63 : ¬ r_61.toInt = (0 : Int) := fun z => c_63 (i_eq.mpr z)
                  replace q_62 : (0 : Int) ≤ x2.toInt64.toInt ∧ x2.toInt64.toInt ≤ ((60 : Int32).toInt64).toInt := by omega
                  have ix_64 : ¬ (x1 < 0 ∨ 8 ≤ x1.toNatClampNeg) := ix (show 0 ≤ x1.toInt by omega) (show x1.toInt < (8 : Nat) by omega)
                  refine ok_chk ix_64 ?_
                  refine ok_nmi (fun x_65 hx_65 kx_65 => ?_)
                  refine ok_chk ix_64 ?_
                  exact ok_some (show (SetOK (upd o_sets x1.toNatClampNeg x2)) ∧ ((SetV x1.toInt x2.toInt ∧ x_65 = o_sets x1.toNatClampNeg ∧ (upd o_sets x1.toNatClampNeg x2) = upd o_sets x1.toNatClampNeg x2) ∨ (¬ SetV x1.toInt x2.toInt ∧ x_65.toInt = -1 ∧ (upd o_sets x1.toNatClampNeg x2) = o_sets)) from ⟨by first | with_reducible assumption | with_reducible rfl | exact SetOK_upd2 (by assumption) (by omega) (by omega) (by omega) ⟨fun _ => by omega, fun _ => by omega, fun _ => by omega, fun _ => by omega, fun _ => by omega, fun _ => by omega, fun _ => by omega⟩ | exact Or.inr ⟨by unfold SetV; omega, rfl, rfl⟩ | exact Or.inl ⟨by unfold SetV; omega, by assumption, rfl⟩ | omega, by first | with_reducible assumption | with_reducible rfl | exact SetOK_upd2 (by assumption) (by omega) (by omega) (by omega) ⟨fun _ => by omega, fun _ => by omega, fun _ => by omega, fun _ => by omega, fun _ => by omega, fun _ => by omega, fun _ => by omega⟩ | exact Or.inr ⟨by unfold SetV; omega, rfl, rfl⟩ | exact Or.inl ⟨by unfold SetV; omega, by assumption, rfl⟩ | omega⟩)
            · skip
              have c_51 : ¬ x1.toInt = (5 : Int) := fun z => c_51 (i_eq.mpr z)
              refine ok_ite (fun c_66 => ?_) (fun c_66 => ?_)
              · skip
                have c_66 : x1.toInt = (6 : Int) := i_eq.mp c_66
                unfold f_X7_set_B74
                first | (have f_67 : (x2.toInt64).toInt = x2.toInt := j_i2l _) | skip
                refine ok_ite (fun c_68 => ?_) (fun c_68 => ?_)
                · skip
                  have c_68 : x1.toInt = (2 : Int) := i_eq.mp c_68
                  unfold f_X7_set_B87
                  first | (have f_69 : ((3 : Int32).toInt64).toInt = (3 : Int) := j_i2l _) | skip
                  refine ok_bd1 (s_X7_in x2.toInt64 1 ((3 : Int32).toInt64)) (fun r_70 q_71 => ?_)
                  replace q_71 : (r_70.toInt = 1 ∧ (1 : Int) ≤ x2.toInt64.toInt ∧ x2.toInt64.toInt ≤ ((3 : Int32).toInt64).toInt) ∨ (r_70.toInt = 0 ∧ (x2.toInt64.toInt < (1 : Int) ∨ ((3 : Int32).toInt64).toInt < x2.toInt64.toInt)) := q_71
                  refine ok_ite (fun c_72 => ?_) (fun c_72 => ?_)
                  · skip
                    have c_72 : r_70.toInt = (0 : Int) := i_eq.mp c_72
                    replace q_71 : (x2.toInt64.toInt < (1 : Int) ∨ ((3 : Int32).toInt64).toInt < x2.toInt64.toInt) := by omega
                    exact ok_some (show (SetOK o_sets) ∧ ((SetV x1.toInt x2.toInt ∧ (-1) = o_sets x1.toNatClampNeg ∧ o_sets = upd o_sets x1.toNatClampNeg x2) ∨ (¬ SetV x1.toInt x2.toInt ∧ (-1 : Int) = -1 ∧ o_sets = o_sets)) from ⟨by first | with_reducible assumption | with_reducible rfl | exact SetOK_upd2 (by assumption) (by omega) (by omega) (by omega) ⟨fun _ => by omega, fun _ => by omega, fun _ => by omega, fun _ => by omega, fun _ => by omega, fun _ => by omega, fun _ => by omega⟩ | exact Or.inr ⟨by unfold SetV; omega, rfl, rfl⟩ | exact Or.inl ⟨by unfold SetV; omega, by assumption, rfl⟩ | omega, by first | with_reducible assumption | with_reducible rfl | exact SetOK_upd2 (by assumption) (by omega) (by omega) (by omega) ⟨fun _ => by omega, fun _ => by omega, fun _ => by omega, fun _ => by omega, fun _ => by omega, fun _ => by omega, fun _ => by omega⟩ | exact Or.inr ⟨by unfold SetV; omega, rfl, rfl⟩ | exact Or.inl ⟨by unfold SetV; omega, by assumption, rfl⟩ | omega⟩)
                  · skip
                    have c_72 : ¬ r_70.toInt = (0 : Int) := fun z => c_72 (i_eq.mpr z)
                    replace q_71 : (1 : Int) ≤ x2.toInt64.toInt ∧ x2.toInt64.toInt ≤ ((3 : Int32).toInt64).toInt := by omega
                    have ix_73 : ¬ (x1 < 0 ∨ 8 ≤ x1.toNatClampNeg) := ix (show 0 ≤ x1.toInt by omega) (show x1.toInt < (8 : Nat) by omega)
                    refine ok_chk ix_73 ?_
                    refine ok_nmi (fun x_74 hx_74 kx_74 => ?_)
                    refine ok_chk ix_73 ?_
                    exact ok_some (show (SetOK (upd o_sets x1.toNatClampNeg x2)) ∧ ((SetV x1.toInt x2.toInt ∧ x_74 = o_sets x1.toNatClampNeg ∧ (upd o_sets x1.toNatClampNeg x2) = upd o_sets x1.toNatClampNeg x2) ∨ (¬ SetV x1.toInt x2.toInt ∧ x_74.toInt = -1 ∧ (upd o_sets x1.toNatClampNeg x2) = o_sets)) from ⟨by first | with_reducible assumption | with_reducible rfl | exact SetOK_upd2 (by assumption) (by omega) (by omega) (by omega) ⟨fun _ => by omega, fun _ => by omega, fun _ => by omega, fun _ => by omega, fun _ => by omega, fun _ => by omega, fun _ => by omega⟩ | exact Or.inr ⟨by unfold SetV; omega, rfl, rfl⟩ | exact Or.inl ⟨by unfold SetV; omega, by assumption, rfl⟩ | omega, by first | with_reducible assumption | with_reducible rfl | exact SetOK_upd2 (by assumption) (by omega) (by omega) (by omega) ⟨fun _ => by omega, fun _ => by omega, fun _ => by omega, fun _ => by omega, fun _ => by omega, fun _ => by omega, fun _ => by omega⟩ | exact Or.inr ⟨by unfold SetV; omega, rfl, rfl⟩ | exact Or.inl ⟨by unfold SetV; omega, by assumption, rfl⟩ | omega⟩)
                · skip
                  have c_68 : ¬ x1.toInt = (2 : Int) := fun z => c_68 (i_eq.mpr z)
                  unfold f_X7_set_B87
                  first | (have f_75 : ((3 : Int32).toInt64).toInt = (3 : Int) := j_i2l _) | skip
                  refine ok_bd1 (s_X7_in x2.toInt64 0 ((3 : Int32).toInt64)) (fun r_76 q_77 => ?_)
                  replace q_77 : (r_76.toInt = 1 ∧ (0 : Int) ≤ x2.toInt64.toInt ∧ x2.toInt64.toInt ≤ ((3 : Int32).toInt64).toInt) ∨ (r_76.toInt = 0 ∧ (x2.toInt64.toInt < (0 : Int) ∨ ((3 : Int32).toInt64).toInt < x2.toInt64.toInt)) := q_77
                  refine ok_ite (fun c_78 => ?_) (fun c_78 => ?_)
                  · skip
                    have c_78 : r_76.toInt = (0 : Int) := i_eq.mp c_78
                    replace q_77 : (x2.toInt64.toInt < (0 : Int) ∨ ((3 : Int32).toInt64).toInt < x2.toInt64.toInt) := by omega
                    exact ok_some (show (SetOK o_sets) ∧ ((SetV x1.toInt x2.toInt ∧ (-1) = o_sets x1.toNatClampNeg ∧ o_sets = upd o_sets x1.toNatClampNeg x2) ∨ (¬ SetV x1.toInt x2.toInt ∧ (-1 : Int) = -1 ∧ o_sets = o_sets)) from ⟨by first | with_reducible assumption | with_reducible rfl | exact SetOK_upd2 (by assumption) (by omega) (by omega) (by omega) ⟨fun _ => by omega, fun _ => by omega, fun _ => by omega, fun _ => by omega, fun _ => by omega, fun _ => by omega, fun _ => by omega⟩ | exact Or.inr ⟨by unfold SetV; omega, rfl, rfl⟩ | exact Or.inl ⟨by unfold SetV; omega, by assumption, rfl⟩ | omega, by first | with_reducible assumption | with_reducible rfl | exact SetOK_upd2 (by assumption) (by omega) (by omega) (by omega) ⟨fun _ => by omega, fun _ => by omega, fun _ => by omega, fun _ => by omega, fun _ => by omega, fun _ => by omega, fun _ => by omega⟩ | exact Or.inr ⟨by unfold SetV; omega, rfl, rfl⟩ | exact Or.inl ⟨by unfold SetV; omega, by assumption, rfl⟩ | omega⟩)
                  · skip
                    have c_78 : ¬ r_76.toInt = (0 : Int) := fun z => c_78 (i_eq.mpr z)
                    replace q_77 : (0 : Int) ≤ x2.toInt64.toInt ∧ x2.toInt64.toInt ≤ ((3 : Int32).toInt64).toInt := by omega
                    have ix_79 : ¬ (x1 < 0 ∨ 8 ≤ x1.toNatClampNeg) := ix (show 0 ≤ x1.toInt by omega) (show x1.toInt < (8 : Nat) by omega)
                    refine ok_chk ix_79 ?_
                    refine ok_nmi (fun x_80 hx_80 kx_80 => ?_)
                    refine ok_chk ix_79 ?_
                    exact ok_some (show (SetOK (upd o_sets x1.toNatClampNeg x2)) ∧ ((SetV x1.toInt x2.toInt ∧ x_80 = o_sets x1.toNatClampNeg ∧ (upd o_sets x1.toNatClampNeg x2) = upd o_sets x1.toNatClampNeg x2) ∨ (¬ SetV x1.toInt x2.toInt ∧ x_80.toInt = -1 ∧ (upd o_sets x1.toNatClampNeg x2) = o_sets)) from ⟨by first | with_reducible assumption | with_reducible rfl | exact SetOK_upd2 (by assumption) (by omega) (by omega) (by omega) ⟨fun _ => by omega, fun _ => by omega, fun _ => by omega, fun _ => by omega, fun _ => by omega, fun _ => by omega, fun _ => by omega⟩ | exact Or.inr ⟨by unfold SetV; omega, rfl, rfl⟩ | exact Or.inl ⟨by unfold SetV; omega, by assumption, rfl⟩ | omega, by first | with_reducible assumption | with_reducible rfl | exact SetOK_upd2 (by assumption) (by omega) (by omega) (by omega) ⟨fun _ => by omega, fun _ => by omega, fun _ => by omega, fun _ => by omega, fun _ => by omega, fun _ => by omega, fun _ => by omega⟩ | exact Or.inr ⟨by unfold SetV; omega, rfl, rfl⟩ | exact Or.inl ⟨by unfold SetV; omega, by assumption, rfl⟩ | omega⟩)
              · skip
                have c_66 : ¬ x1.toInt = (6 : Int) := fun z => c_66 (i_eq.mpr z)
                unfold f_X7_set_B74
                first | (have f_81 : (x2.toInt64).toInt = x2.toInt := j_i2l _) | skip
                refine ok_ite (fun c_82 => ?_) (fun c_82 => ?_)
                · skip
                  have c_82 : x1.toInt = (2 : Int) := i_eq.mp c_82
                  unfold f_X7_set_B87
                  first | (have f_83 : ((8 : Int32).toInt64).toInt = (8 : Int) := j_i2l _) | skip
                  refine ok_bd1 (s_X7_in x2.toInt64 1 ((8 : Int32).toInt64)) (fun r_84 q_85 => ?_)
                  replace q_85 : (r_84.toInt = 1 ∧ (1 : Int) ≤ x2.toInt64.toInt ∧ x2.toInt64.toInt ≤ ((8 : Int32).toInt64).toInt) ∨ (r_84.toInt = 0 ∧ (x2.toInt64.toInt < (1 : Int) ∨ ((8 : Int32).toInt64).toInt < x2.toInt64.toInt)) := q_85
                  refine ok_ite (fun c_86 => ?_) (fun c_86 => ?_)
                  · skip
                    have c_86 : r_84.toInt = (0 : Int) := i_eq.mp c_86
                    replace q_85 : (x2.toInt64.toInt < (1 : Int) ∨ ((8 : Int32).toInt64).toInt < x2.toInt64.toInt) := by omega
                    exact ok_some (show (SetOK o_sets) ∧ ((SetV x1.toInt x2.toInt ∧ (-1) = o_sets x1.toNatClampNeg ∧ o_sets = upd o_sets x1.toNatClampNeg x2) ∨ (¬ SetV x1.toInt x2.toInt ∧ (-1 : Int) = -1 ∧ o_sets = o_sets)) from ⟨by first | with_reducible assumption | with_reducible rfl | exact SetOK_upd2 (by assumption) (by omega) (by omega) (by omega) ⟨fun _ => by omega, fun _ => by omega, fun _ => by omega, fun _ => by omega, fun _ => by omega, fun _ => by omega, fun _ => by omega⟩ | exact Or.inr ⟨by unfold SetV; omega, rfl, rfl⟩ | exact Or.inl ⟨by unfold SetV; omega, by assumption, rfl⟩ | omega, by first | with_reducible assumption | with_reducible rfl | exact SetOK_upd2 (by assumption) (by omega) (by omega) (by omega) ⟨fun _ => by omega, fun _ => by omega, fun _ => by omega, fun _ => by omega, fun _ => by omega, fun _ => by omega, fun _ => by omega⟩ | exact Or.inr ⟨by unfold SetV; omega, rfl, rfl⟩ | exact Or.inl ⟨by unfold SetV; omega, by assumption, rfl⟩ | omega⟩)
                  · skip
                    have c_86 : ¬ r_84.toInt = (0 : Int) := fun z => c_86 (i_eq.mpr z)
                    replace q_85 : (1 : Int) ≤ x2.toInt64.toInt ∧ x2.toInt64.toInt ≤ ((8 : Int32).toInt64).toInt := by omega
                    have ix_87 : ¬ (x1 < 0 ∨ 8 ≤ x1.toNatClampNeg) := ix (show 0 ≤ x1.toInt by omega) (show x1.toInt < (8 : Nat) by omega)
                    refine ok_chk ix_87 ?_
                    refine ok_nmi (fun x_88 hx_88 kx_88 => ?_)
                    refine ok_chk ix_87 ?_
                    exact ok_some (show (SetOK (upd o_sets x1.toNatClampNeg x2)) ∧ ((SetV x1.toInt x2.toInt ∧ x_88 = o_sets x1.toNatClampNeg ∧ (upd o_sets x1.toNatClampNeg x2) = upd o_sets x1.toNatClampNeg x2) ∨ (¬ SetV x1.toInt x2.toInt ∧ x_88.toInt = -1 ∧ (upd o_sets x1.toNatClampNeg x2) = o_sets)) from ⟨by first | with_reducible assumption | with_reducible rfl | exact SetOK_upd2 (by assumption) (by omega) (by omega) (by omega) ⟨fun _ => by omega, fun _ => by omega, fun _ => by omega, fun _ => by omega, fun _ => by omega, fun _ => by omega, fun _ => by omega⟩ | exact Or.inr ⟨by unfold SetV; omega, rfl, rfl⟩ | exact Or.inl ⟨by unfold SetV; omega, by assumption, rfl⟩ | omega, by first | with_reducible assumption | with_reducible rfl | exact SetOK_upd2 (by assumption) (by omega) (by omega) (by omega) ⟨fun _ => by omega, fun _ => by omega, fun _ => by omega, fun _ => by omega, fun _ => by omega, fun _ => by omega, fun _ => by omega⟩ | exact Or.inr ⟨by unfold SetV; omega, rfl, rfl⟩ | exact Or.inl ⟨by unfold SetV; omega, by assumption, rfl⟩ | omega⟩)
                · skip
                  have c_82 : ¬ x1.toInt = (2 : Int) := fun z => c_82 (i_eq.mpr z)
                  unfold f_X7_set_B87
                  first | (have f_89 : ((8 : Int32).toInt64).toInt = (8 : Int) := j_i2l _) | skip
                  refine ok_bd1 (s_X7_in x2.toInt64 0 ((8 : Int32).toInt64)) (fun r_90 q_91 => ?_)
                  replace q_91 : (r_90.toInt = 1 ∧ (0 : Int) ≤ x2.toInt64.toInt ∧ x2.toInt64.toInt ≤ ((8 : Int32).toInt64).toInt) ∨ (r_90.toInt = 0 ∧ (x2.toInt64.toInt < (0 : Int) ∨ ((8 : Int32).toInt64).toInt < x2.toInt64.toInt)) := q_91
                  refine ok_ite (fun c_92 => ?_) (fun c_92 => ?_)
                  · skip
                    have c_92 : r_90.toInt = (0 : Int) := i_eq.mp c_92
                    replace q_91 : (x2.toInt64.toInt < (0 : Int) ∨ ((8 : Int32).toInt64).toInt < x2.toInt64.toInt) := by omega
                    exact ok_some (show (SetOK o_sets) ∧ ((SetV x1.toInt x2.toInt ∧ (-1) = o_sets x1.toNatClampNeg ∧ o_sets = upd o_sets x1.toNatClampNeg x2) ∨ (¬ SetV x1.toInt x2.toInt ∧ (-1 : Int) = -1 ∧ o_sets = o_sets)) from ⟨by first | with_reducible assumption | with_reducible rfl | exact SetOK_upd2 (by assumption) (by omega) (by omega) (by omega) ⟨fun _ => by omega, fun _ => by omega, fun _ => by omega, fun _ => by omega, fun _ => by omega, fun _ => by omega, fun _ => by omega⟩ | exact Or.inr ⟨by unfold SetV; omega, rfl, rfl⟩ | exact Or.inl ⟨by unfold SetV; omega, by assumption, rfl⟩ | omega, by first | with_reducible assumption | with_reducible rfl | exact SetOK_upd2 (by assumption) (by omega) (by omega) (by omega) ⟨fun _ => by omega, fun _ => by omega, fun _ => by omega, fun _ => by omega, fun _ => by omega, fun _ => by omega, fun _ => by omega⟩ | exact Or.inr ⟨by unfold SetV; omega, rfl, rfl⟩ | exact Or.inl ⟨by unfold SetV; omega, by assumption, rfl⟩ | omega⟩)
                  · skip
                    have c_92 : ¬ r_90.toInt = (0 : Int) := fun z => c_92 (i_eq.mpr z)
                    replace q_91 : (0 : Int) ≤ x2.toInt64.toInt ∧ x2.toInt64.toInt ≤ ((8 : Int32).toInt64).toInt := by omega
                    have ix_93 : ¬ (x1 < 0 ∨ 8 ≤ x1.toNatClampNeg) := ix (show 0 ≤ x1.toInt by omega) (show x1.toInt < (8 : Nat) by omega)
                    refine ok_chk ix_93 ?_
                    refine ok_nmi (fun x_94 hx_94 kx_94 => ?_)
                    refine ok_chk ix_93 ?_
                    exact ok_some (show (SetOK (upd o_sets x1.toNatClampNeg x2)) ∧ ((SetV x1.toInt x2.toInt ∧ x_94 = o_sets x1.toNatClampNeg ∧ (upd o_sets x1.toNatClampNeg x2) = upd o_sets x1.toNatClampNeg x2) ∨ (¬ SetV x1.toInt x2.toInt ∧ x_94.toInt = -1 ∧ (upd o_sets x1.toNatClampNeg x2) = o_sets)) from ⟨by first | with_reducible assumption | with_reducible rfl | exact SetOK_upd2 (by assumption) (by omega) (by omega) (by omega) ⟨fun _ => by omega, fun _ => by omega, fun _ => by omega, fun _ => by omega, fun _ => by omega, fun _ => by omega, fun _ => by omega⟩ | exact Or.inr ⟨by unfold SetV; omega, rfl, rfl⟩ | exact Or.inl ⟨by unfold SetV; omega, by assumption, rfl⟩ | omega, by first | with_reducible assumption | with_reducible rfl | exact SetOK_upd2 (by assumption) (by omega) (by omega) (by omega) ⟨fun _ => by omega, fun _ => by omega, fun _ => by omega, fun _ => by omega, fun _ => by omega, fun _ => by omega, fun _ => by omega⟩ | exact Or.inr ⟨by unfold SetV; omega, rfl, rfl⟩ | exact Or.inl ⟨by unfold SetV; omega, by assumption, rfl⟩ | omega⟩)
    · skip
      have c_5 : ¬ (2 : Int) ≤ x1.toInt := fun z => c_5 (i_le.mpr z)
      unfold f_X7_set_B74
      first | (have f_95 : (x2.toInt64).toInt = x2.toInt := j_i2l _) | skip
      refine ok_ite (fun c_96 => ?_) (fun c_96 => ?_)
      · skip
        have c_96 : x1.toInt = (2 : Int) := i_eq.mp c_96
        unfold f_X7_set_B87
        first | (have f_97 : ((99 : Int32).toInt64).toInt = (99 : Int) := j_i2l _) | skip
        refine ok_bd1 (s_X7_in x2.toInt64 1 ((99 : Int32).toInt64)) (fun r_98 q_99 => ?_)
        replace q_99 : (r_98.toInt = 1 ∧ (1 : Int) ≤ x2.toInt64.toInt ∧ x2.toInt64.toInt ≤ ((99 : Int32).toInt64).toInt) ∨ (r_98.toInt = 0 ∧ (x2.toInt64.toInt < (1 : Int) ∨ ((99 : Int32).toInt64).toInt < x2.toInt64.toInt)) := q_99
        refine ok_ite (fun c_100 => ?_) (fun c_100 => ?_)
        · skip
          have c_100 : r_98.toInt = (0 : Int) := i_eq.mp c_100
          replace q_99 : (x2.toInt64.toInt < (1 : Int) ∨ ((99 : Int32).toInt64).toInt < x2.toInt64.toInt) := by omega
          exact ok_some (show (SetOK o_sets) ∧ ((SetV x1.toInt x2.toInt ∧ (-1) = o_sets x1.toNatClampNeg ∧ o_sets = upd o_sets x1.toNatClampNeg x2) ∨ (¬ SetV x1.toInt x2.toInt ∧ (-1 : Int) = -1 ∧ o_sets = o_sets)) from ⟨by first | with_reducible assumption | with_reducible rfl | exact SetOK_upd2 (by assumption) (by omega) (by omega) (by omega) ⟨fun _ => by omega, fun _ => by omega, fun _ => by omega, fun _ => by omega, fun _ => by omega, fun _ => by omega, fun _ => by omega⟩ | exact Or.inr ⟨by unfold SetV; omega, rfl, rfl⟩ | exact Or.inl ⟨by unfold SetV; omega, by assumption, rfl⟩ | omega, by first | with_reducible assumption | with_reducible rfl | exact SetOK_upd2 (by assumption) (by omega) (by omega) (by omega) ⟨fun _ => by omega, fun _ => by omega, fun _ => by omega, fun _ => by omega, fun _ => by omega, fun _ => by omega, fun _ => by omega⟩ | exact Or.inr ⟨by unfold SetV; omega, rfl, rfl⟩ | exact Or.inl ⟨by unfold SetV; omega, by assumption, rfl⟩ | omega⟩)
        · skip
          have c_100 : ¬ r_98.toInt = (0 : Int) := fun z => c_100 (i_eq.mpr z)
          replace q_99 : (1 : Int) ≤ x2.toInt64.toInt ∧ x2.toInt64.toInt ≤ ((99 : Int32).toInt64).toInt := by omega
          have ix_101 : ¬ (x1 < 0 ∨ 8 ≤ x1.toNatClampNeg) := ix (show 0 ≤ x1.toInt by omega) (show x1.toInt < (8 : Nat) by omega)
          refine ok_chk ix_101 ?_
          refine ok_nmi (fun x_102 hx_102 kx_102 => ?_)
          refine ok_chk ix_101 ?_
          exact ok_some (show (SetOK (upd o_sets x1.toNatClampNeg x2)) ∧ ((SetV x1.toInt x2.toInt ∧ x_102 = o_sets x1.toNatClampNeg ∧ (upd o_sets x1.toNatClampNeg x2) = upd o_sets x1.toNatClampNeg x2) ∨ (¬ SetV x1.toInt x2.toInt ∧ x_102.toInt = -1 ∧ (upd o_sets x1.toNatClampNeg x2) = o_sets)) from ⟨by first | with_reducible assumption | with_reducible rfl | exact SetOK_upd2 (by assumption) (by omega) (by omega) (by omega) ⟨fun _ => by omega, fun _ => by omega, fun _ => by omega, fun _ => by omega, fun _ => by omega, fun _ => by omega, fun _ => by omega⟩ | exact Or.inr ⟨by unfold SetV; omega, rfl, rfl⟩ | exact Or.inl ⟨by unfold SetV; omega, by assumption, rfl⟩ | omega, by first | with_reducible assumption | with_reducible rfl | exact SetOK_upd2 (by assumption) (by omega) (by omega) (by omega) ⟨fun _ => by omega, fun _ => by omega, fun _ => by omega, fun _ => by omega, fun _ => by omega, fun _ => by omega, fun _ => by omega⟩ | exact Or.inr ⟨by unfold SetV; omega, rfl, rfl⟩ | exact Or.inl ⟨by unfold SetV; omega, by assumption, rfl⟩ | omega⟩)
      · skip
        have c_96 : ¬ x1.toInt = (2 : Int) := fun z => c_96 (i_eq.mpr z)
        unfold f_X7_set_B87
        first | (have f_103 : ((99 : Int32).toInt64).toInt = (99 : Int) := j_i2l _) | skip
        refine ok_bd1 (s_X7_in x2.toInt64 0 ((99 : Int32).toInt64)) (fun r_104 q_105 => ?_)
        replace q_105 : (r_104.toInt = 1 ∧ (0 : Int) ≤ x2.toInt64.toInt ∧ x2.toInt64.toInt ≤ ((99 : Int32).toInt64).toInt) ∨ (r_104.toInt = 0 ∧ (x2.toInt64.toInt < (0 : Int) ∨ ((99 : Int32).toInt64).toInt < x2.toInt64.toInt)) := q_105
        refine ok_ite (fun c_106 => ?_) (fun c_106 => ?_)
        · skip
          have c_106 : r_104.toInt = (0 : Int) := i_eq.mp c_106
          replace q_105 : (x2.toInt64.toInt < (0 : Int) ∨ ((99 : Int32).toInt64).toInt < x2.toInt64.toInt) := by omega
          exact ok_some (show (SetOK o_sets) ∧ ((SetV x1.toInt x2.toInt ∧ (-1) = o_sets x1.toNatClampNeg ∧ o_sets = upd o_sets x1.toNatClampNeg x2) ∨ (¬ SetV x1.toInt x2.toInt ∧ (-1 : Int) = -1 ∧ o_sets = o_sets)) from ⟨by first | with_reducible assumption | with_reducible rfl | exact SetOK_upd2 (by assumption) (by omega) (by omega) (by omega) ⟨fun _ => by omega, fun _ => by omega, fun _ => by omega, fun _ => by omega, fun _ => by omega, fun _ => by omega, fun _ => by omega⟩ | exact Or.inr ⟨by unfold SetV; omega, rfl, rfl⟩ | exact Or.inl ⟨by unfold SetV; omega, by assumption, rfl⟩ | omega, by first | with_reducible assumption | with_reducible rfl | exact SetOK_upd2 (by assumption) (by omega) (by omega) (by omega) ⟨fun _ => by omega, fun _ => by omega, fun _ => by omega, fun _ => by omega, fun _ => by omega, fun _ => by omega, fun _ => by omega⟩ | exact Or.inr ⟨by unfold SetV; omega, rfl, rfl⟩ | exact Or.inl ⟨by unfold SetV; omega, by assumption, rfl⟩ | omega⟩)
        · skip
          have c_106 : ¬ r_104.toInt = (0 : Int) := fun z => c_106 (i_eq.mpr z)
          replace q_105 : (0 : Int) ≤ x2.toInt64.toInt ∧ x2.toInt64.toInt ≤ ((99 : Int32).toInt64).toInt := by omega
          have ix_107 : ¬ (x1 < 0 ∨ 8 ≤ x1.toNatClampNeg) := ix (show 0 ≤ x1.toInt by omega) (show x1.toInt < (8 : Nat) by omega)
          refine ok_chk ix_107 ?_
          refine ok_nmi (fun x_108 hx_108 kx_108 => ?_)
          refine ok_chk ix_107 ?_
          exact ok_some (show (SetOK (upd o_sets x1.toNatClampNeg x2)) ∧ ((SetV x1.toInt x2.toInt ∧ x_108 = o_sets x1.toNatClampNeg ∧ (upd o_sets x1.toNatClampNeg x2) = upd o_sets x1.toNatClampNeg x2) ∨ (¬ SetV x1.toInt x2.toInt ∧ x_108.toInt = -1 ∧ (upd o_sets x1.toNatClampNeg x2) = o_sets)) from ⟨by first | with_reducible assumption | with_reducible rfl | exact SetOK_upd2 (by assumption) (by omega) (by omega) (by omega) ⟨fun _ => by omega, fun _ => by omega, fun _ => by omega, fun _ => by omega, fun _ => by omega, fun _ => by omega, fun _ => by omega⟩ | exact Or.inr ⟨by unfold SetV; omega, rfl, rfl⟩ | exact Or.inl ⟨by unfold SetV; omega, by assumption, rfl⟩ | omega, by first | with_reducible assumption | with_reducible rfl | exact SetOK_upd2 (by assumption) (by omega) (by omega) (by omega) ⟨fun _ => by omega, fun _ => by omega, fun _ => by omega, fun _ => by omega, fun _ => by omega, fun _ => by omega, fun _ => by omega⟩ | exact Or.inr ⟨by unfold SetV; omega, rfl, rfl⟩ | exact Or.inl ⟨by unfold SetV; omega, by assumption, rfl⟩ | omega⟩)
set_option maxRecDepth 100000 in
set_option maxHeartbeats 4000000 in
theorem s_X7_far (x1 : Int32) (o_sets : Nat → Int32) (h0 : SetOK o_sets) : okP (f_X7_far x1 o_sets) (fun u => (((0 ≤ x1.toInt ∧ x1.toInt < 100) ∧ u = nI (rt (sqd (o_sets 0).toInt.toNat x1.toNatClampNeg))) ∨ (¬ (0 ≤ x1.toInt ∧ x1.toInt < 100) ∧ u.toInt = -1))) := by
  obtain ⟨s0a, s0b, s1a, s1b, s2a, s2b, s3a, s3b, s4a, s4b, s5a, s5b, s6a, s6b, s7a, s7b⟩ := id h0
  unfold f_X7_far
  refine ok_bd1 (s_X7_isCell x1) (fun r_1 q_2 => ?_)
  replace q_2 : (r_1.toInt = 1 ∧ 0 ≤ x1.toInt ∧ x1.toInt < 100) ∨ (r_1.toInt = 0 ∧ (x1.toInt < 0 ∨ 100 ≤ x1.toInt)) := q_2
  refine ok_ite (fun c_3 => ?_) (fun c_3 => ?_)
  · skip
    have c_3 : r_1.toInt = (0 : Int) := i_eq.mp c_3
    replace q_2 : (x1.toInt < 0 ∨ 100 ≤ x1.toInt) := by omega
    exact ok_some (show (((0 ≤ x1.toInt ∧ x1.toInt < 100) ∧ (-1) = nI (rt (sqd (o_sets 0).toInt.toNat x1.toNatClampNeg))) ∨ (¬ (0 ≤ x1.toInt ∧ x1.toInt < 100) ∧ (-1 : Int) = -1)) from by first | with_reducible assumption | with_reducible rfl | exact Or.inr ⟨by omega, rfl⟩ | exact Or.inl ⟨by omega, by assumption⟩ | omega)
  · skip
    have c_3 : ¬ r_1.toInt = (0 : Int) := fun z => c_3 (i_eq.mpr z)
    replace q_2 : 0 ≤ x1.toInt ∧ x1.toInt < 100 := by omega
    refine ok_bd1 (s_X7_away x1 o_sets (show 0 ≤ (x1).toInt by first | omega | exact Or.inr ⟨by omega, rfl⟩ | exact Or.inl ⟨by omega, by assumption⟩) (show (x1).toInt ≤ 99 by first | omega | exact Or.inr ⟨by omega, rfl⟩ | exact Or.inl ⟨by omega, by assumption⟩) (show 0 ≤ (o_sets 0).toInt by first | omega | exact Or.inr ⟨by omega, rfl⟩ | exact Or.inl ⟨by omega, by assumption⟩) (show (o_sets 0).toInt ≤ 99 by first | omega | exact Or.inr ⟨by omega, rfl⟩ | exact Or.inl ⟨by omega, by assumption⟩)) (fun r_4 q_5 => ?_)
    replace q_5 : r_4 = nI (rt (sqd (o_sets 0).toInt.toNat x1.toNatClampNeg)) := q_5
    exact ok_some (show (((0 ≤ x1.toInt ∧ x1.toInt < 100) ∧ r_4 = nI (rt (sqd (o_sets 0).toInt.toNat x1.toNatClampNeg))) ∨ (¬ (0 ≤ x1.toInt ∧ x1.toInt < 100) ∧ r_4.toInt = -1)) from by first | with_reducible assumption | with_reducible rfl | exact Or.inr ⟨by omega, rfl⟩ | exact Or.inl ⟨by omega, by assumption⟩ | omega)
set_option maxRecDepth 100000 in
set_option maxHeartbeats 4000000 in
theorem s_X7_ring (x1 : Int32) (x2 : Int32) (x3 : Int32) (o_ringFar : Nat → Int32) (o_ringTone : Nat → Int32) : okP (f_X7_ring x1 x2 x3 o_ringFar o_ringTone) (fun u => True) := by
  unfold f_X7_ring
  first | (have f_1 : (x1.toInt64).toInt = x1.toInt := j_i2l _) | skip
  refine ok_bd1 (s_X7_in x1.toInt64 1 6) (fun r_2 q_3 => ?_)
  replace q_3 : (r_2.toInt = 1 ∧ (1 : Int) ≤ x1.toInt64.toInt ∧ x1.toInt64.toInt ≤ (6 : Int)) ∨ (r_2.toInt = 0 ∧ (x1.toInt64.toInt < (1 : Int) ∨ (6 : Int) < x1.toInt64.toInt)) := q_3
  refine ok_ite (fun c_4 => ?_) (fun c_4 => ?_)
  · skip
    have c_4 : r_2.toInt = (0 : Int) := i_eq.mp c_4
    replace q_3 : (x1.toInt64.toInt < (1 : Int) ∨ (6 : Int) < x1.toInt64.toInt) := by omega
    exact ok_some trivial
  · skip
    have c_4 : ¬ r_2.toInt = (0 : Int) := fun z => c_4 (i_eq.mpr z)
    replace q_3 : (1 : Int) ≤ x1.toInt64.toInt ∧ x1.toInt64.toInt ≤ (6 : Int) := by omega
    first | (have f_5 : (x2.toInt64).toInt = x2.toInt := j_i2l _) | skip
    refine ok_bd1 (s_X7_in x2.toInt64 0 1) (fun r_6 q_7 => ?_)
    replace q_7 : (r_6.toInt = 1 ∧ (0 : Int) ≤ x2.toInt64.toInt ∧ x2.toInt64.toInt ≤ (1 : Int)) ∨ (r_6.toInt = 0 ∧ (x2.toInt64.toInt < (0 : Int) ∨ (1 : Int) < x2.toInt64.toInt)) := q_7
    refine ok_ite (fun c_8 => ?_) (fun c_8 => ?_)
    · skip
      have c_8 : r_6.toInt = (0 : Int) := i_eq.mp c_8
      replace q_7 : (x2.toInt64.toInt < (0 : Int) ∨ (1 : Int) < x2.toInt64.toInt) := by omega
      exact ok_some trivial
    · skip
      have c_8 : ¬ r_6.toInt = (0 : Int) := fun z => c_8 (i_eq.mpr z)
      replace q_7 : (0 : Int) ≤ x2.toInt64.toInt ∧ x2.toInt64.toInt ≤ (1 : Int) := by omega
      first | (have f_9 : (x3.toInt64).toInt = x3.toInt := j_i2l _) | skip
      refine ok_ite (fun c_10 => ?_) (fun c_10 => ?_)
      · skip
        have c_10 : x2.toInt = (0 : Int) := i_eq.mp c_10
        unfold f_X7_ring_B35
        refine ok_ite (fun c_11 => ?_) (fun c_11 => ?_)
        · skip
          have c_11 : x2.toInt = (0 : Int) := i_eq.mp c_11
          unfold f_X7_ring_B48
          refine ok_bd1 (s_X7_in x3.toInt64 (-1) 40) (fun r_12 q_13 => ?_)
          replace q_13 : (r_12.toInt = 1 ∧ (-1 : Int) ≤ x3.toInt64.toInt ∧ x3.toInt64.toInt ≤ (40 : Int)) ∨ (r_12.toInt = 0 ∧ (x3.toInt64.toInt < (-1 : Int) ∨ (40 : Int) < x3.toInt64.toInt)) := q_13
          refine ok_ite (fun c_14 => ?_) (fun c_14 => ?_)
          · skip
            have c_14 : r_12.toInt = (0 : Int) := i_eq.mp c_14
            replace q_13 : (x3.toInt64.toInt < (-1 : Int) ∨ (40 : Int) < x3.toInt64.toInt) := by omega
            exact ok_some trivial
          · skip
            have c_14 : ¬ r_12.toInt = (0 : Int) := fun z => c_14 (i_eq.mpr z)
            replace q_13 : (-1 : Int) ≤ x3.toInt64.toInt ∧ x3.toInt64.toInt ≤ (40 : Int) := by omega
            refine ok_ite (fun c_15 => ?_) (fun c_15 => ?_)
            · skip
              have c_15 : x2.toInt = (0 : Int) := i_eq.mp c_15
              have ix_16 : ¬ (x1 < 0 ∨ 7 ≤ x1.toNatClampNeg) := ix (show 0 ≤ x1.toInt by omega) (show x1.toInt < (7 : Nat) by omega)
              refine ok_chk ix_16 ?_
              unfold f_X7_ring_B75
              refine ok_ite (fun c_17 => ?_) (fun c_17 => ?_)
              · skip
                have c_17 : x2.toInt = (0 : Int) := i_eq.mp c_17
                refine ok_chk ix_16 ?_
                first | (have f_18 : (100 + (o_ringFar x1.toNatClampNeg)).toInt = (100 : Int) + (o_ringFar x1.toNatClampNeg).toInt := i_add2 rfl rfl (by omega) (by omega)) | skip
                exact ok_some trivial
              · skip
                have c_17 : ¬ x2.toInt = (0 : Int) := fun z => c_17 (i_eq.mpr z)
                refine ok_chk ix_16 ?_
                first | (have f_19 : (100 + (o_ringFar x1.toNatClampNeg)).toInt = (100 : Int) + (o_ringFar x1.toNatClampNeg).toInt := i_add2 rfl rfl (by omega) (by omega)) | skip
                exact ok_some trivial
            · skip
              have c_15 : ¬ x2.toInt = (0 : Int) := fun z => c_15 (i_eq.mpr z)
              have ix_20 : ¬ (x1 < 0 ∨ 7 ≤ x1.toNatClampNeg) := ix (show 0 ≤ x1.toInt by omega) (show x1.toInt < (7 : Nat) by omega)
              refine ok_chk ix_20 ?_
              unfold f_X7_ring_B75
              refine ok_ite (fun c_21 => ?_) (fun c_21 => ?_)
              · skip
                have c_21 : x2.toInt = (0 : Int) := i_eq.mp c_21
                refine ok_chk ix_20 ?_
                first | (have f_22 : (100 + (o_ringTone x1.toNatClampNeg)).toInt = (100 : Int) + (o_ringTone x1.toNatClampNeg).toInt := i_add2 rfl rfl (by omega) (by omega)) | skip
                exact ok_some trivial
              · skip
                have c_21 : ¬ x2.toInt = (0 : Int) := fun z => c_21 (i_eq.mpr z)
                refine ok_chk ix_20 ?_
                first | (have f_23 : (100 + (o_ringTone x1.toNatClampNeg)).toInt = (100 : Int) + (o_ringTone x1.toNatClampNeg).toInt := i_add2 rfl rfl (by omega) (by omega)) | skip
                exact ok_some trivial
        · skip
          have c_11 : ¬ x2.toInt = (0 : Int) := fun z => c_11 (i_eq.mpr z)
          unfold f_X7_ring_B48
          refine ok_bd1 (s_X7_in x3.toInt64 (-1) 2) (fun r_24 q_25 => ?_)
          replace q_25 : (r_24.toInt = 1 ∧ (-1 : Int) ≤ x3.toInt64.toInt ∧ x3.toInt64.toInt ≤ (2 : Int)) ∨ (r_24.toInt = 0 ∧ (x3.toInt64.toInt < (-1 : Int) ∨ (2 : Int) < x3.toInt64.toInt)) := q_25
          refine ok_ite (fun c_26 => ?_) (fun c_26 => ?_)
          · skip
            have c_26 : r_24.toInt = (0 : Int) := i_eq.mp c_26
            replace q_25 : (x3.toInt64.toInt < (-1 : Int) ∨ (2 : Int) < x3.toInt64.toInt) := by omega
            exact ok_some trivial
          · skip
            have c_26 : ¬ r_24.toInt = (0 : Int) := fun z => c_26 (i_eq.mpr z)
            replace q_25 : (-1 : Int) ≤ x3.toInt64.toInt ∧ x3.toInt64.toInt ≤ (2 : Int) := by omega
            refine ok_ite (fun c_27 => ?_) (fun c_27 => ?_)
            · skip
              have c_27 : x2.toInt = (0 : Int) := i_eq.mp c_27
              have ix_28 : ¬ (x1 < 0 ∨ 7 ≤ x1.toNatClampNeg) := ix (show 0 ≤ x1.toInt by omega) (show x1.toInt < (7 : Nat) by omega)
              refine ok_chk ix_28 ?_
              unfold f_X7_ring_B75
              refine ok_ite (fun c_29 => ?_) (fun c_29 => ?_)
              · skip
                have c_29 : x2.toInt = (0 : Int) := i_eq.mp c_29
                refine ok_chk ix_28 ?_
                first | (have f_30 : (100 + (o_ringFar x1.toNatClampNeg)).toInt = (100 : Int) + (o_ringFar x1.toNatClampNeg).toInt := i_add2 rfl rfl (by omega) (by omega)) | skip
                exact ok_some trivial
              · skip
                have c_29 : ¬ x2.toInt = (0 : Int) := fun z => c_29 (i_eq.mpr z)
                refine ok_chk ix_28 ?_
                first | (have f_31 : (100 + (o_ringFar x1.toNatClampNeg)).toInt = (100 : Int) + (o_ringFar x1.toNatClampNeg).toInt := i_add2 rfl rfl (by omega) (by omega)) | skip
                exact ok_some trivial
            · skip
              have c_27 : ¬ x2.toInt = (0 : Int) := fun z => c_27 (i_eq.mpr z)
              have ix_32 : ¬ (x1 < 0 ∨ 7 ≤ x1.toNatClampNeg) := ix (show 0 ≤ x1.toInt by omega) (show x1.toInt < (7 : Nat) by omega)
              refine ok_chk ix_32 ?_
              unfold f_X7_ring_B75
              refine ok_ite (fun c_33 => ?_) (fun c_33 => ?_)
              · skip
                have c_33 : x2.toInt = (0 : Int) := i_eq.mp c_33
                refine ok_chk ix_32 ?_
                first | (have f_34 : (100 + (o_ringTone x1.toNatClampNeg)).toInt = (100 : Int) + (o_ringTone x1.toNatClampNeg).toInt := i_add2 rfl rfl (by omega) (by omega)) | skip
                exact ok_some trivial
              · skip
                have c_33 : ¬ x2.toInt = (0 : Int) := fun z => c_33 (i_eq.mpr z)
                refine ok_chk ix_32 ?_
                first | (have f_35 : (100 + (o_ringTone x1.toNatClampNeg)).toInt = (100 : Int) + (o_ringTone x1.toNatClampNeg).toInt := i_add2 rfl rfl (by omega) (by omega)) | skip
                exact ok_some trivial
      · skip
        have c_10 : ¬ x2.toInt = (0 : Int) := fun z => c_10 (i_eq.mpr z)
        unfold f_X7_ring_B35
        refine ok_ite (fun c_36 => ?_) (fun c_36 => ?_)
        · skip
          have c_36 : x2.toInt = (0 : Int) := i_eq.mp c_36
          unfold f_X7_ring_B48
          refine ok_bd1 (s_X7_in x3.toInt64 0 40) (fun r_37 q_38 => ?_)
          replace q_38 : (r_37.toInt = 1 ∧ (0 : Int) ≤ x3.toInt64.toInt ∧ x3.toInt64.toInt ≤ (40 : Int)) ∨ (r_37.toInt = 0 ∧ (x3.toInt64.toInt < (0 : Int) ∨ (40 : Int) < x3.toInt64.toInt)) := q_38
          refine ok_ite (fun c_39 => ?_) (fun c_39 => ?_)
          · skip
            have c_39 : r_37.toInt = (0 : Int) := i_eq.mp c_39
            replace q_38 : (x3.toInt64.toInt < (0 : Int) ∨ (40 : Int) < x3.toInt64.toInt) := by omega
            exact ok_some trivial
          · skip
            have c_39 : ¬ r_37.toInt = (0 : Int) := fun z => c_39 (i_eq.mpr z)
            replace q_38 : (0 : Int) ≤ x3.toInt64.toInt ∧ x3.toInt64.toInt ≤ (40 : Int) := by omega
            refine ok_ite (fun c_40 => ?_) (fun c_40 => ?_)
            · skip
              have c_40 : x2.toInt = (0 : Int) := i_eq.mp c_40
              have ix_41 : ¬ (x1 < 0 ∨ 7 ≤ x1.toNatClampNeg) := ix (show 0 ≤ x1.toInt by omega) (show x1.toInt < (7 : Nat) by omega)
              refine ok_chk ix_41 ?_
              unfold f_X7_ring_B75
              refine ok_ite (fun c_42 => ?_) (fun c_42 => ?_)
              · skip
                have c_42 : x2.toInt = (0 : Int) := i_eq.mp c_42
                refine ok_chk ix_41 ?_
                first | (have f_43 : (100 + (o_ringFar x1.toNatClampNeg)).toInt = (100 : Int) + (o_ringFar x1.toNatClampNeg).toInt := i_add2 rfl rfl (by omega) (by omega)) | skip
                exact ok_some trivial
              · skip
                have c_42 : ¬ x2.toInt = (0 : Int) := fun z => c_42 (i_eq.mpr z)
                refine ok_chk ix_41 ?_
                first | (have f_44 : (100 + (o_ringFar x1.toNatClampNeg)).toInt = (100 : Int) + (o_ringFar x1.toNatClampNeg).toInt := i_add2 rfl rfl (by omega) (by omega)) | skip
                exact ok_some trivial
            · skip
              have c_40 : ¬ x2.toInt = (0 : Int) := fun z => c_40 (i_eq.mpr z)
              have ix_45 : ¬ (x1 < 0 ∨ 7 ≤ x1.toNatClampNeg) := ix (show 0 ≤ x1.toInt by omega) (show x1.toInt < (7 : Nat) by omega)
              refine ok_chk ix_45 ?_
              unfold f_X7_ring_B75
              refine ok_ite (fun c_46 => ?_) (fun c_46 => ?_)
              · skip
                have c_46 : x2.toInt = (0 : Int) := i_eq.mp c_46
                refine ok_chk ix_45 ?_
                first | (have f_47 : (100 + (o_ringTone x1.toNatClampNeg)).toInt = (100 : Int) + (o_ringTone x1.toNatClampNeg).toInt := i_add2 rfl rfl (by omega) (by omega)) | skip
                exact ok_some trivial
              · skip
                have c_46 : ¬ x2.toInt = (0 : Int) := fun z => c_46 (i_eq.mpr z)
                refine ok_chk ix_45 ?_
                first | (have f_48 : (100 + (o_ringTone x1.toNatClampNeg)).toInt = (100 : Int) + (o_ringTone x1.toNatClampNeg).toInt := i_add2 rfl rfl (by omega) (by omega)) | skip
                exact ok_some trivial
        · skip
          have c_36 : ¬ x2.toInt = (0 : Int) := fun z => c_36 (i_eq.mpr z)
          unfold f_X7_ring_B48
          refine ok_bd1 (s_X7_in x3.toInt64 0 2) (fun r_49 q_50 => ?_)
          replace q_50 : (r_49.toInt = 1 ∧ (0 : Int) ≤ x3.toInt64.toInt ∧ x3.toInt64.toInt ≤ (2 : Int)) ∨ (r_49.toInt = 0 ∧ (x3.toInt64.toInt < (0 : Int) ∨ (2 : Int) < x3.toInt64.toInt)) := q_50
          refine ok_ite (fun c_51 => ?_) (fun c_51 => ?_)
          · skip
            have c_51 : r_49.toInt = (0 : Int) := i_eq.mp c_51
            replace q_50 : (x3.toInt64.toInt < (0 : Int) ∨ (2 : Int) < x3.toInt64.toInt) := by omega
            exact ok_some trivial
          · skip
            have c_51 : ¬ r_49.toInt = (0 : Int) := fun z => c_51 (i_eq.mpr z)
            replace q_50 : (0 : Int) ≤ x3.toInt64.toInt ∧ x3.toInt64.toInt ≤ (2 : Int) := by omega
            refine ok_ite (fun c_52 => ?_) (fun c_52 => ?_)
            · skip
              have c_52 : x2.toInt = (0 : Int) := i_eq.mp c_52
              have ix_53 : ¬ (x1 < 0 ∨ 7 ≤ x1.toNatClampNeg) := ix (show 0 ≤ x1.toInt by omega) (show x1.toInt < (7 : Nat) by omega)
              refine ok_chk ix_53 ?_
              unfold f_X7_ring_B75
              refine ok_ite (fun c_54 => ?_) (fun c_54 => ?_)
              · skip
                have c_54 : x2.toInt = (0 : Int) := i_eq.mp c_54
                refine ok_chk ix_53 ?_
                first | (have f_55 : (100 + (o_ringFar x1.toNatClampNeg)).toInt = (100 : Int) + (o_ringFar x1.toNatClampNeg).toInt := i_add2 rfl rfl (by omega) (by omega)) | skip
                exact ok_some trivial
              · skip
                have c_54 : ¬ x2.toInt = (0 : Int) := fun z => c_54 (i_eq.mpr z)
                refine ok_chk ix_53 ?_
                first | (have f_56 : (100 + (o_ringFar x1.toNatClampNeg)).toInt = (100 : Int) + (o_ringFar x1.toNatClampNeg).toInt := i_add2 rfl rfl (by omega) (by omega)) | skip
                exact ok_some trivial
            · skip
              have c_52 : ¬ x2.toInt = (0 : Int) := fun z => c_52 (i_eq.mpr z)
              have ix_57 : ¬ (x1 < 0 ∨ 7 ≤ x1.toNatClampNeg) := ix (show 0 ≤ x1.toInt by omega) (show x1.toInt < (7 : Nat) by omega)
              refine ok_chk ix_57 ?_
              unfold f_X7_ring_B75
              refine ok_ite (fun c_58 => ?_) (fun c_58 => ?_)
              · skip
                have c_58 : x2.toInt = (0 : Int) := i_eq.mp c_58
                refine ok_chk ix_57 ?_
                first | (have f_59 : (100 + (o_ringTone x1.toNatClampNeg)).toInt = (100 : Int) + (o_ringTone x1.toNatClampNeg).toInt := i_add2 rfl rfl (by omega) (by omega)) | skip
                exact ok_some trivial
              · skip
                have c_58 : ¬ x2.toInt = (0 : Int) := fun z => c_58 (i_eq.mpr z)
                refine ok_chk ix_57 ?_
                first | (have f_60 : (100 + (o_ringTone x1.toNatClampNeg)).toInt = (100 : Int) + (o_ringTone x1.toNatClampNeg).toInt := i_add2 rfl rfl (by omega) (by omega)) | skip
                exact ok_some trivial
set_option maxRecDepth 100000 in
set_option maxHeartbeats 4000000 in
theorem s_X7_type (x1 : Int64) (x2 : Int32) (o_taped : Int32) (o_tape : Nat → Int32) (h0 : 0 ≤ (o_taped).toInt) (h1 : (o_taped).toInt ≤ 60) : okP (f_X7_type x1 x2 o_taped o_tape) (fun u => (0 ≤ u.2.1.toInt) ∧ (u.2.1.toInt ≤ 60)) := by
  have l73 : ∀ (n : Nat) (v1 : Int64) (v4 : Int32) (o_taped : Int32) (o_tape : Nat → Int32), (v4.toInt + 1).toNat < n → (-1 ≤ v4.toInt) → (v4.toInt ≤ 7) → (0 ≤ o_taped.toInt) → (o_taped.toInt + v4.toInt + 1 ≤ 60) → okP (f_X7_type_L73 n v1 v4 o_taped o_tape) (fun u => (0 ≤ u.2.1.toInt) ∧ (u.2.1.toInt ≤ 60)) := by
    intro n
    induction n with
    | zero =>
      intro v1 v4 o_taped o_tape hm
      exact absurd hm (Nat.not_lt_zero _)
    | succ n73 ih73 =>
      intro v1 v4 o_taped o_tape hm73 g73_0 g73_1 g73_2 g73_3
      show okP (f_X7_type_L73b (f_X7_type_L73 n73) v1 v4 o_taped o_tape) (fun u => (0 ≤ u.2.1.toInt) ∧ (u.2.1.toInt ≤ 60))
      unfold f_X7_type_L73b
      refine ok_ite (fun c_1 => ?_) (fun c_1 => ?_)
      · skip
        have c_1 : v4.toInt < (0 : Int) := i_lt.mp c_1
        exact ok_some (show (0 ≤ o_taped.toInt) ∧ (o_taped.toInt ≤ 60) from ⟨by omega, by omega⟩)
      · skip
        have c_1 : ¬ v4.toInt < (0 : Int) := fun z => c_1 (i_lt.mpr z)
        first | (have f_2 : (8 * v4).toInt = (8 : Int) * v4.toInt := i_mul2 rfl rfl (by omega) (by omega)) | skip
        refine ok_nmx (fun x_3 hx_3 => ?_)
        have ix_4 : ¬ (o_taped < 0 ∨ 60 ≤ o_taped.toNatClampNeg) := ix (show 0 ≤ o_taped.toInt by omega) (show o_taped.toInt < (60 : Nat) by omega)
        refine ok_chk ix_4 ?_
        first | (have f_5 : (o_taped + 1).toInt = o_taped.toInt + (1 : Int) := i_add2 rfl rfl (by omega) (by omega)) | skip
        refine ok_nmi (fun x_6 hx_6 kx_6 => ?_)
        first | (have f_7 : (v4 + (-1)).toInt = v4.toInt + (-1 : Int) := i_add2 rfl rfl (by omega) (by omega)) | skip
        refine ok_nmi (fun x_8 hx_8 kx_8 => ?_)
        exact ih73 v1 x_8 x_6 (upd o_tape o_taped.toNatClampNeg x_3) (show (x_8.toInt + 1).toNat < n73 by omega) (show -1 ≤ x_8.toInt by omega) (show x_8.toInt ≤ 7 by omega) (show 0 ≤ x_6.toInt by omega) (show x_6.toInt + x_8.toInt + 1 ≤ 60 by omega)
  have l17 : ∀ (n : Nat) (v1 : Int64) (v3 : Int32) (v4 : Int32) (o_taped : Int32) (o_tape : Nat → Int32), (8 - v4.toInt).toNat < n → (1 ≤ v3.toInt) → (v3.toInt ≤ 8) → (0 ≤ v4.toInt) → (v4.toInt ≤ v3.toInt) → (0 ≤ o_taped.toInt) → (o_taped.toInt ≤ 60) → okP (f_X7_type_L17 n v1 v3 v4 o_taped o_tape) (fun u => (0 ≤ u.2.1.toInt) ∧ (u.2.1.toInt ≤ 60)) := by
    intro n
    induction n with
    | zero =>
      intro v1 v3 v4 o_taped o_tape hm
      exact absurd hm (Nat.not_lt_zero _)
    | succ n17 ih17 =>
      intro v1 v3 v4 o_taped o_tape hm17 g17_0 g17_1 g17_2 g17_3 g17_4 g17_5
      show okP (f_X7_type_L17b (f_X7_type_L17 n17) v1 v3 v4 o_taped o_tape) (fun u => (0 ≤ u.2.1.toInt) ∧ (u.2.1.toInt ≤ 60))
      unfold f_X7_type_L17b
      refine ok_ite (fun c_9 => ?_) (fun c_9 => ?_)
      · skip
        have c_9 : v3.toInt ≤ v4.toInt := i_le.mp c_9
        first | (have f_10 : (o_taped + v3).toInt = o_taped.toInt + v3.toInt := i_add2 rfl rfl (by omega) (by omega)) | skip
        refine ok_ite (fun c_11 => ?_) (fun c_11 => ?_)
        · skip
          have c_11 : (o_taped + v3).toInt ≤ (60 : Int) := i_le.mp c_11
          first | (have f_12 : (v3 - 1).toInt = v3.toInt - (1 : Int) := i_sub2 rfl rfl (by omega) (by omega)) | skip
          refine ok_nmi (fun x_13 hx_13 kx_13 => ?_)
          exact l73 FU v1 x_13 o_taped o_tape (FU_gt (show (x_13.toInt + 1).toNat < 1000000000000 by omega)) (show -1 ≤ x_13.toInt by omega) (show x_13.toInt ≤ 7 by omega) (show 0 ≤ o_taped.toInt by omega) (show o_taped.toInt + x_13.toInt + 1 ≤ 60 by omega)
        · skip
          have c_11 : ¬ (o_taped + v3).toInt ≤ (60 : Int) := fun z => c_11 (i_le.mpr z)
          exact ok_some (show (0 ≤ o_taped.toInt) ∧ (o_taped.toInt ≤ 60) from ⟨by omega, by omega⟩)
      · skip
        have c_9 : ¬ v3.toInt ≤ v4.toInt := fun z => c_9 (i_le.mpr z)
        first | (have f_14 : (8 * v4).toInt = (8 : Int) * v4.toInt := i_mul2 rfl rfl (by omega) (by omega)) | skip
        refine ok_bd1 (s_X7_in ((v1 >>> ((8 * v4).toInt64 &&& 63)) &&& 255) 32 126) (fun r_15 q_16 => ?_)
        replace q_16 : (r_15.toInt = 1 ∧ (32 : Int) ≤ ((v1 >>> ((8 * v4).toInt64 &&& 63)) &&& 255).toInt ∧ ((v1 >>> ((8 * v4).toInt64 &&& 63)) &&& 255).toInt ≤ (126 : Int)) ∨ (r_15.toInt = 0 ∧ (((v1 >>> ((8 * v4).toInt64 &&& 63)) &&& 255).toInt < (32 : Int) ∨ (126 : Int) < ((v1 >>> ((8 * v4).toInt64 &&& 63)) &&& 255).toInt)) := q_16
        clear q_16
        refine ok_ite (fun c_17 => ?_) (fun c_17 => ?_)
        · skip
          have c_17 : r_15.toInt = (0 : Int) := i_eq.mp c_17
          exact ok_some (show (0 ≤ o_taped.toInt) ∧ (o_taped.toInt ≤ 60) from ⟨by omega, by omega⟩)
        · skip
          have c_17 : ¬ r_15.toInt = (0 : Int) := fun z => c_17 (i_eq.mpr z)
          first | (have f_18 : (v4 + 1).toInt = v4.toInt + (1 : Int) := i_add2 rfl rfl (by omega) (by omega)) | skip
          refine ok_nmi (fun x_19 hx_19 kx_19 => ?_)
          exact ih17 v1 v3 x_19 o_taped o_tape (show (8 - x_19.toInt).toNat < n17 by omega) (show 1 ≤ v3.toInt by omega) (show v3.toInt ≤ 8 by omega) (show 0 ≤ x_19.toInt by omega) (show x_19.toInt ≤ v3.toInt by omega) (show 0 ≤ o_taped.toInt by omega) (show o_taped.toInt ≤ 60 by omega)
  unfold f_X7_type
  first | (have f_20 : (x2.toInt64).toInt = x2.toInt := j_i2l _) | skip
  refine ok_bd1 (s_X7_in x2.toInt64 1 8) (fun r_21 q_22 => ?_)
  replace q_22 : (r_21.toInt = 1 ∧ (1 : Int) ≤ x2.toInt64.toInt ∧ x2.toInt64.toInt ≤ (8 : Int)) ∨ (r_21.toInt = 0 ∧ (x2.toInt64.toInt < (1 : Int) ∨ (8 : Int) < x2.toInt64.toInt)) := q_22
  refine ok_ite (fun c_23 => ?_) (fun c_23 => ?_)
  · skip
    have c_23 : r_21.toInt = (0 : Int) := i_eq.mp c_23
    replace q_22 : (x2.toInt64.toInt < (1 : Int) ∨ (8 : Int) < x2.toInt64.toInt) := by omega
    exact ok_some (show (0 ≤ o_taped.toInt) ∧ (o_taped.toInt ≤ 60) from ⟨by omega, by omega⟩)
  · skip
    have c_23 : ¬ r_21.toInt = (0 : Int) := fun z => c_23 (i_eq.mpr z)
    replace q_22 : (1 : Int) ≤ x2.toInt64.toInt ∧ x2.toInt64.toInt ≤ (8 : Int) := by omega
    exact l17 FU x1 x2 0 o_taped o_tape (FU_gt (show (8 - (0 : Int)).toNat < 1000000000000 by omega)) (show 1 ≤ x2.toInt by omega) (show x2.toInt ≤ 8 by omega) (show 0 ≤ (0 : Int) by omega) (show (0 : Int) ≤ x2.toInt by omega) (show 0 ≤ o_taped.toInt by omega) (show o_taped.toInt ≤ 60 by omega)
set_option maxRecDepth 100000 in
set_option maxHeartbeats 4000000 in
theorem s_X7_digit (x1 : Int32) (x2 : Int32) (o_taped : Int32) (o_at : Int32) (o_wrong : Int32) (o_tape : Nat → Int32) (h0 : 0 ≤ (x1).toInt) (h1 : (x1).toInt ≤ 9) (h2 : 0 ≤ (x2).toInt) (h3 : (x2).toInt ≤ 9) (h4 : 0 ≤ (o_taped).toInt) (h5 : (o_taped).toInt ≤ 60) (h6 : 0 ≤ o_at.toInt) (h7 : o_at.toInt ≤ o_taped.toInt) : okP (f_X7_digit x1 x2 o_taped o_at o_wrong o_tape) (fun u => (0 ≤ u.2.1.toInt) ∧ (u.2.1.toInt ≤ o_taped.toInt) ∧ (u.1.toInt = 0 ∨ (x1.toInt ≤ u.1.toInt ∧ u.1.toInt ≤ x2.toInt))) := by
  unfold f_X7_digit
  refine ok_ite (fun c_1 => ?_) (fun c_1 => ?_)
  · skip
    have c_1 : o_wrong.toInt = (0 : Int) := i_eq.mp c_1
    refine ok_bd2 (s_X7_here o_taped o_at o_tape (show 0 ≤ (o_taped).toInt by omega) (show (o_taped).toInt ≤ 60 by omega) (show 0 ≤ o_at.toInt by omega) (show o_at.toInt ≤ o_taped.toInt by omega)) (fun r_2 w_3 q_4 => ?_)
    obtain ⟨q_4_0, q_4_1, q_4_2, q_4_3, q_4_4, q_4_5⟩ : (0 ≤ w_3.toInt) ∧ (w_3.toInt ≤ o_taped.toInt) ∧ (o_at.toInt ≤ w_3.toInt) ∧ (r_2.toInt = 0 ∧ w_3.toInt = o_taped.toInt ∨ (w_3.toInt < o_taped.toInt ∧ r_2.toInt = (o_tape w_3.toNatClampNeg).toInt ∧ ¬ r_2.toInt = 32)) ∧ (o_at.toInt < o_taped.toInt → ¬ (o_tape o_at.toNatClampNeg).toInt = 32 → w_3.toInt = o_at.toInt ∧ r_2.toInt = (o_tape o_at.toNatClampNeg).toInt) ∧ (∀ j : Nat, o_at.toInt ≤ (j : Int) → (j : Int) < w_3.toInt → (o_tape j).toInt = 32) := q_4
    first | (have f_5 : (r_2.toInt64).toInt = r_2.toInt := j_i2l _) | skip
    first | (have f_6 : (48 + x1).toInt = (48 : Int) + x1.toInt := i_add2 rfl rfl (by omega) (by omega)) | skip
    first | (have f_7 : ((48 + x1).toInt64).toInt = (48 + x1).toInt := j_i2l _) | skip
    first | (have f_8 : (48 + x2).toInt = (48 : Int) + x2.toInt := i_add2 rfl rfl (by omega) (by omega)) | skip
    first | (have f_9 : ((48 + x2).toInt64).toInt = (48 + x2).toInt := j_i2l _) | skip
    refine ok_bd1 (s_X7_in r_2.toInt64 ((48 + x1).toInt64) ((48 + x2).toInt64)) (fun r_10 q_11 => ?_)
    replace q_11 : (r_10.toInt = 1 ∧ ((48 + x1).toInt64).toInt ≤ r_2.toInt64.toInt ∧ r_2.toInt64.toInt ≤ ((48 + x2).toInt64).toInt) ∨ (r_10.toInt = 0 ∧ (r_2.toInt64.toInt < ((48 + x1).toInt64).toInt ∨ ((48 + x2).toInt64).toInt < r_2.toInt64.toInt)) := q_11
    refine ok_ite (fun c_12 => ?_) (fun c_12 => ?_)
    · skip
      have c_12 : r_10.toInt = (0 : Int) := i_eq.mp c_12
      replace q_11 : (r_2.toInt64.toInt < ((48 + x1).toInt64).toInt ∨ ((48 + x2).toInt64).toInt < r_2.toInt64.toInt) := by omega
      unfold f_X7_digit_B29
      unfold f_X7_digit_B34
      refine ok_chk (b01 (show (1 : Int) = 0 ∨ (1 : Int) = 1 by omega)) ?_
      refine ok_ite (fun c_13 => ?_) (fun c_13 => ?_)
      · skip
        exact absurd c_13 (by decide)
      · skip
        unfold f_X7_digit_B55
        refine ok_ite (fun c_14 => ?_) (fun c_14 => ?_)
        · skip
          exact absurd c_14 (by decide)
        · skip
          unfold f_X7_digit_B73
          first | (have f_15 : (w_3 + 0).toInt = w_3.toInt + (0 : Int) := i_add2 rfl rfl (by omega) (by omega)) | skip
          refine ok_nmi (fun x_16 hx_16 kx_16 => ?_)
          exact ok_some (show (0 ≤ x_16.toInt) ∧ (x_16.toInt ≤ o_taped.toInt) ∧ ((0 : Int) = 0 ∨ (x1.toInt ≤ (0 : Int) ∧ (0 : Int) ≤ x2.toInt)) from ⟨by omega, by omega, by omega⟩)
    · skip
      have c_12 : ¬ r_10.toInt = (0 : Int) := fun z => c_12 (i_eq.mpr z)
      replace q_11 : ((48 + x1).toInt64).toInt ≤ r_2.toInt64.toInt ∧ r_2.toInt64.toInt ≤ ((48 + x2).toInt64).toInt := by omega
      unfold f_X7_digit_B34
      refine ok_chk (b01 (show (0 : Int) = 0 ∨ (0 : Int) = 1 by omega)) ?_
      refine ok_ite (fun c_17 => ?_) (fun c_17 => ?_)
      · skip
        refine ok_bd2 (s_X7_here o_taped w_3 o_tape (show 0 ≤ (o_taped).toInt by omega) (show (o_taped).toInt ≤ 60 by omega) (show 0 ≤ w_3.toInt by omega) (show w_3.toInt ≤ o_taped.toInt by omega)) (fun r_18 w_19 q_20 => ?_)
        obtain ⟨q_20_0, q_20_1, q_20_2, q_20_3, q_20_4, q_20_5⟩ : (0 ≤ w_19.toInt) ∧ (w_19.toInt ≤ o_taped.toInt) ∧ (w_3.toInt ≤ w_19.toInt) ∧ (r_18.toInt = 0 ∧ w_19.toInt = o_taped.toInt ∨ (w_19.toInt < o_taped.toInt ∧ r_18.toInt = (o_tape w_19.toNatClampNeg).toInt ∧ ¬ r_18.toInt = 32)) ∧ (w_3.toInt < o_taped.toInt → ¬ (o_tape w_3.toNatClampNeg).toInt = 32 → w_19.toInt = w_3.toInt ∧ r_18.toInt = (o_tape w_3.toNatClampNeg).toInt) ∧ (∀ j : Nat, w_3.toInt ≤ (j : Int) → (j : Int) < w_19.toInt → (o_tape j).toInt = 32) := q_20
        first | (have f_21 : (r_18 - 48).toInt = r_18.toInt - (48 : Int) := i_sub2 rfl rfl (by omega) (by omega)) | skip
        unfold f_X7_digit_B55
        refine ok_ite (fun c_22 => ?_) (fun c_22 => ?_)
        · skip
          unfold f_X7_digit_B73
          first | (have f_23 : (w_19 + 1).toInt = w_19.toInt + (1 : Int) := i_add2 rfl rfl (by omega) (by omega)) | skip
          refine ok_nmi (fun x_24 hx_24 kx_24 => ?_)
          exact ok_some (show (0 ≤ x_24.toInt) ∧ (x_24.toInt ≤ o_taped.toInt) ∧ ((r_18 - 48).toInt = 0 ∨ (x1.toInt ≤ (r_18 - 48).toInt ∧ (r_18 - 48).toInt ≤ x2.toInt)) from ⟨by omega, by omega, by omega⟩)
        · skip
          exact absurd c_22 (by decide)
      · skip
        exact absurd c_17 (by decide)
  · skip
    have c_1 : ¬ o_wrong.toInt = (0 : Int) := fun z => c_1 (i_eq.mpr z)
    unfold f_X7_digit_B29
    unfold f_X7_digit_B34
    refine ok_chk (b01 (show (1 : Int) = 0 ∨ (1 : Int) = 1 by omega)) ?_
    refine ok_ite (fun c_25 => ?_) (fun c_25 => ?_)
    · skip
      exact absurd c_25 (by decide)
    · skip
      unfold f_X7_digit_B55
      refine ok_ite (fun c_26 => ?_) (fun c_26 => ?_)
      · skip
        exact absurd c_26 (by decide)
      · skip
        unfold f_X7_digit_B73
        first | (have f_27 : (o_at + 0).toInt = o_at.toInt + (0 : Int) := i_add2 rfl rfl (by omega) (by omega)) | skip
        refine ok_nmi (fun x_28 hx_28 kx_28 => ?_)
        exact ok_some (show (0 ≤ x_28.toInt) ∧ (x_28.toInt ≤ o_taped.toInt) ∧ ((0 : Int) = 0 ∨ (x1.toInt ≤ (0 : Int) ∧ (0 : Int) ≤ x2.toInt)) from ⟨by omega, by omega, by omega⟩)
set_option maxRecDepth 100000 in
set_option maxHeartbeats 4000000 in
theorem s_X7_number (o_taped : Int32) (o_at : Int32) (o_wrong : Int32) (o_tape : Nat → Int32) (h0 : 0 ≤ (o_taped).toInt) (h1 : (o_taped).toInt ≤ 60) (h2 : 0 ≤ o_at.toInt) (h3 : o_at.toInt ≤ o_taped.toInt) : okP (f_X7_number o_taped o_at o_wrong o_tape) (fun u => (0 ≤ u.2.1.toInt) ∧ (u.2.1.toInt ≤ o_taped.toInt)) := by
  have l66 : ∀ (n : Nat) (v1 : Int32) (v2 : Int32) (o_at : Int32) (o_wrong : Int32), (o_taped.toInt - o_at.toInt).toNat < n → (0 ≤ v1.toInt) → (v1.toInt ≤ o_at.toInt) → (0 ≤ o_at.toInt) → (o_at.toInt ≤ o_taped.toInt) → okP (f_X7_number_L66 n v1 v2 o_taped o_at o_wrong o_tape) (fun u => (0 ≤ u.2.1.toInt) ∧ (u.2.1.toInt ≤ o_taped.toInt)) := by
    intro n
    induction n with
    | zero =>
      intro v1 v2 o_at o_wrong hm
      exact absurd hm (Nat.not_lt_zero _)
    | succ n66 ih66 =>
      intro v1 v2 o_at o_wrong hm66 g66_0 g66_1 g66_2 g66_3
      show okP (f_X7_number_L66b (f_X7_number_L66 n66) v1 v2 o_taped o_at o_wrong o_tape) (fun u => (0 ≤ u.2.1.toInt) ∧ (u.2.1.toInt ≤ o_taped.toInt))
      unfold f_X7_number_L66b
      refine ok_ite (fun c_1 => ?_) (fun c_1 => ?_)
      · skip
        have c_1 : o_taped.toInt ≤ o_at.toInt := i_le.mp c_1
        unfold f_X7_number_B141
        refine ok_ite (fun c_2 => ?_) (fun c_2 => ?_)
        · skip
          have c_2 : v2.toInt ≤ (40 : Int) := i_le.mp c_2
          unfold f_X7_number_B153
          refine ok_chk (b01 (show (0 : Int) = 0 ∨ (0 : Int) = 1 by omega)) ?_
          refine ok_ite (fun c_3 => ?_) (fun c_3 => ?_)
          · skip
            unfold f_X7_number_B172
            exact ok_some (show (0 ≤ o_at.toInt) ∧ (o_at.toInt ≤ o_taped.toInt) from ⟨by omega, by omega⟩)
          · skip
            exact absurd c_3 (by decide)
        · skip
          have c_2 : ¬ v2.toInt ≤ (40 : Int) := fun z => c_2 (i_le.mpr z)
          unfold f_X7_number_B153
          refine ok_chk (b01 (show (1 : Int) = 0 ∨ (1 : Int) = 1 by omega)) ?_
          refine ok_ite (fun c_4 => ?_) (fun c_4 => ?_)
          · skip
            exact absurd c_4 (by decide)
          · skip
            unfold f_X7_number_B172
            exact ok_some (show (0 ≤ v1.toInt) ∧ (v1.toInt ≤ o_taped.toInt) from ⟨by omega, by omega⟩)
      · skip
        have c_1 : ¬ o_taped.toInt ≤ o_at.toInt := fun z => c_1 (i_le.mpr z)
        have ix_5 : ¬ (o_at < 0 ∨ 60 ≤ o_at.toNatClampNeg) := ix (show 0 ≤ o_at.toInt by omega) (show o_at.toInt < (60 : Nat) by omega)
        refine ok_chk ix_5 ?_
        first | (have f_6 : ((o_tape o_at.toNatClampNeg).toInt64).toInt = (o_tape o_at.toNatClampNeg).toInt := j_i2l _) | skip
        refine ok_bd1 (s_X7_in ((o_tape o_at.toNatClampNeg).toInt64) 48 57) (fun r_7 q_8 => ?_)
        replace q_8 : (r_7.toInt = 1 ∧ (48 : Int) ≤ ((o_tape o_at.toNatClampNeg).toInt64).toInt ∧ ((o_tape o_at.toNatClampNeg).toInt64).toInt ≤ (57 : Int)) ∨ (r_7.toInt = 0 ∧ (((o_tape o_at.toNatClampNeg).toInt64).toInt < (48 : Int) ∨ (57 : Int) < ((o_tape o_at.toNatClampNeg).toInt64).toInt)) := q_8
        refine ok_ite (fun c_9 => ?_) (fun c_9 => ?_)
        · skip
          have c_9 : r_7.toInt = (0 : Int) := i_eq.mp c_9
          replace q_8 : (((o_tape o_at.toNatClampNeg).toInt64).toInt < (48 : Int) ∨ (57 : Int) < ((o_tape o_at.toNatClampNeg).toInt64).toInt) := by omega
          unfold f_X7_number_B141
          refine ok_ite (fun c_10 => ?_) (fun c_10 => ?_)
          · skip
            have c_10 : v2.toInt ≤ (40 : Int) := i_le.mp c_10
            unfold f_X7_number_B153
            refine ok_chk (b01 (show (0 : Int) = 0 ∨ (0 : Int) = 1 by omega)) ?_
            refine ok_ite (fun c_11 => ?_) (fun c_11 => ?_)
            · skip
              unfold f_X7_number_B172
              exact ok_some (show (0 ≤ o_at.toInt) ∧ (o_at.toInt ≤ o_taped.toInt) from ⟨by omega, by omega⟩)
            · skip
              exact absurd c_11 (by decide)
          · skip
            have c_10 : ¬ v2.toInt ≤ (40 : Int) := fun z => c_10 (i_le.mpr z)
            unfold f_X7_number_B153
            refine ok_chk (b01 (show (1 : Int) = 0 ∨ (1 : Int) = 1 by omega)) ?_
            refine ok_ite (fun c_12 => ?_) (fun c_12 => ?_)
            · skip
              exact absurd c_12 (by decide)
            · skip
              unfold f_X7_number_B172
              exact ok_some (show (0 ≤ v1.toInt) ∧ (v1.toInt ≤ o_taped.toInt) from ⟨by omega, by omega⟩)
        · skip
          have c_9 : ¬ r_7.toInt = (0 : Int) := fun z => c_9 (i_eq.mpr z)
          replace q_8 : (48 : Int) ≤ ((o_tape o_at.toNatClampNeg).toInt64).toInt ∧ ((o_tape o_at.toNatClampNeg).toInt64).toInt ≤ (57 : Int) := by omega
          refine ok_ite (fun c_13 => ?_) (fun c_13 => ?_)
          · skip
            have c_13 : v2.toInt ≤ (999 : Int) := i_le.mp c_13
            first | (have f_14 : (10 * v2).toInt = (10 : Int) * v2.toInt := i_mul2 rfl rfl (by omega) (by omega)) | skip
            refine ok_chk ix_5 ?_
            first | (have f_15 : ((10 * v2) + (o_tape o_at.toNatClampNeg)).toInt = (10 * v2).toInt + (o_tape o_at.toNatClampNeg).toInt := i_add2 rfl rfl (by omega) (by omega)) | skip
            first | (have f_16 : (((10 * v2) + (o_tape o_at.toNatClampNeg)) - 48).toInt = ((10 * v2) + (o_tape o_at.toNatClampNeg)).toInt - (48 : Int) := i_sub2 rfl rfl (by omega) (by omega)) | skip
            unfold f_X7_number_B127
            first | (have f_17 : (o_at + 1).toInt = o_at.toInt + (1 : Int) := i_add2 rfl rfl (by omega) (by omega)) | skip
            refine ok_nmi (fun x_18 hx_18 kx_18 => ?_)
            exact ih66 v1 (((10 * v2) + (o_tape o_at.toNatClampNeg)) - 48) x_18 o_wrong (show (o_taped.toInt - x_18.toInt).toNat < n66 by omega) (show 0 ≤ v1.toInt by omega) (show v1.toInt ≤ x_18.toInt by omega) (show 0 ≤ x_18.toInt by omega) (show x_18.toInt ≤ o_taped.toInt by omega)
          · skip
            have c_13 : ¬ v2.toInt ≤ (999 : Int) := fun z => c_13 (i_le.mpr z)
            unfold f_X7_number_B127
            first | (have f_19 : (o_at + 1).toInt = o_at.toInt + (1 : Int) := i_add2 rfl rfl (by omega) (by omega)) | skip
            refine ok_nmi (fun x_20 hx_20 kx_20 => ?_)
            exact ih66 v1 v2 x_20 o_wrong (show (o_taped.toInt - x_20.toInt).toNat < n66 by omega) (show 0 ≤ v1.toInt by omega) (show v1.toInt ≤ x_20.toInt by omega) (show 0 ≤ x_20.toInt by omega) (show x_20.toInt ≤ o_taped.toInt by omega)
  unfold f_X7_number
  refine ok_ite (fun c_21 => ?_) (fun c_21 => ?_)
  · skip
    have c_21 : o_wrong.toInt = (0 : Int) := i_eq.mp c_21
    refine ok_bd2 (s_X7_here o_taped o_at o_tape (show 0 ≤ (o_taped).toInt by omega) (show (o_taped).toInt ≤ 60 by omega) (show 0 ≤ o_at.toInt by omega) (show o_at.toInt ≤ o_taped.toInt by omega)) (fun r_22 w_23 q_24 => ?_)
    obtain ⟨q_24_0, q_24_1, q_24_2, q_24_3, q_24_4, q_24_5⟩ : (0 ≤ w_23.toInt) ∧ (w_23.toInt ≤ o_taped.toInt) ∧ (o_at.toInt ≤ w_23.toInt) ∧ (r_22.toInt = 0 ∧ w_23.toInt = o_taped.toInt ∨ (w_23.toInt < o_taped.toInt ∧ r_22.toInt = (o_tape w_23.toNatClampNeg).toInt ∧ ¬ r_22.toInt = 32)) ∧ (o_at.toInt < o_taped.toInt → ¬ (o_tape o_at.toNatClampNeg).toInt = 32 → w_23.toInt = o_at.toInt ∧ r_22.toInt = (o_tape o_at.toNatClampNeg).toInt) ∧ (∀ j : Nat, o_at.toInt ≤ (j : Int) → (j : Int) < w_23.toInt → (o_tape j).toInt = 32) := q_24
    refine ok_ite (fun c_25 => ?_) (fun c_25 => ?_)
    · skip
      have c_25 : r_22.toInt = (63 : Int) := i_eq.mp c_25
      first | (have f_26 : (w_23 + 1).toInt = w_23.toInt + (1 : Int) := i_add2 rfl rfl (by omega) (by omega)) | skip
      refine ok_nmi (fun x_27 hx_27 kx_27 => ?_)
      exact ok_some (show (0 ≤ x_27.toInt) ∧ (x_27.toInt ≤ o_taped.toInt) from ⟨by omega, by omega⟩)
    · skip
      have c_25 : ¬ r_22.toInt = (63 : Int) := fun z => c_25 (i_eq.mpr z)
      unfold f_X7_number_B28
      refine ok_ite (fun c_28 => ?_) (fun c_28 => ?_)
      · skip
        have c_28 : o_wrong.toInt = (0 : Int) := i_eq.mp c_28
        refine ok_bd2 (s_X7_here o_taped w_23 o_tape (show 0 ≤ (o_taped).toInt by omega) (show (o_taped).toInt ≤ 60 by omega) (show 0 ≤ w_23.toInt by omega) (show w_23.toInt ≤ o_taped.toInt by omega)) (fun r_29 w_30 q_31 => ?_)
        obtain ⟨q_31_0, q_31_1, q_31_2, q_31_3, q_31_4, q_31_5⟩ : (0 ≤ w_30.toInt) ∧ (w_30.toInt ≤ o_taped.toInt) ∧ (w_23.toInt ≤ w_30.toInt) ∧ (r_29.toInt = 0 ∧ w_30.toInt = o_taped.toInt ∨ (w_30.toInt < o_taped.toInt ∧ r_29.toInt = (o_tape w_30.toNatClampNeg).toInt ∧ ¬ r_29.toInt = 32)) ∧ (w_23.toInt < o_taped.toInt → ¬ (o_tape w_23.toNatClampNeg).toInt = 32 → w_30.toInt = w_23.toInt ∧ r_29.toInt = (o_tape w_23.toNatClampNeg).toInt) ∧ (∀ j : Nat, w_23.toInt ≤ (j : Int) → (j : Int) < w_30.toInt → (o_tape j).toInt = 32) := q_31
        first | (have f_32 : (r_29.toInt64).toInt = r_29.toInt := j_i2l _) | skip
        refine ok_bd1 (s_X7_in r_29.toInt64 48 57) (fun r_33 q_34 => ?_)
        replace q_34 : (r_33.toInt = 1 ∧ (48 : Int) ≤ r_29.toInt64.toInt ∧ r_29.toInt64.toInt ≤ (57 : Int)) ∨ (r_33.toInt = 0 ∧ (r_29.toInt64.toInt < (48 : Int) ∨ (57 : Int) < r_29.toInt64.toInt)) := q_34
        refine ok_ite (fun c_35 => ?_) (fun c_35 => ?_)
        · skip
          have c_35 : r_33.toInt = (0 : Int) := i_eq.mp c_35
          replace q_34 : (r_29.toInt64.toInt < (48 : Int) ∨ (57 : Int) < r_29.toInt64.toInt) := by omega
          unfold f_X7_number_B52
          exact ok_some (show (0 ≤ w_30.toInt) ∧ (w_30.toInt ≤ o_taped.toInt) from ⟨by omega, by omega⟩)
        · skip
          have c_35 : ¬ r_33.toInt = (0 : Int) := fun z => c_35 (i_eq.mpr z)
          replace q_34 : (48 : Int) ≤ r_29.toInt64.toInt ∧ r_29.toInt64.toInt ≤ (57 : Int) := by omega
          exact l66 FU w_30 0 w_30 o_wrong (FU_gt (show (o_taped.toInt - w_30.toInt).toNat < 1000000000000 by omega)) (show 0 ≤ w_30.toInt by omega) (show w_30.toInt ≤ w_30.toInt by omega) (show 0 ≤ w_30.toInt by omega) (show w_30.toInt ≤ o_taped.toInt by omega)
      · skip
        have c_28 : ¬ o_wrong.toInt = (0 : Int) := fun z => c_28 (i_eq.mpr z)
        unfold f_X7_number_B52
        exact ok_some (show (0 ≤ w_23.toInt) ∧ (w_23.toInt ≤ o_taped.toInt) from ⟨by omega, by omega⟩)
  · skip
    have c_21 : ¬ o_wrong.toInt = (0 : Int) := fun z => c_21 (i_eq.mpr z)
    unfold f_X7_number_B28
    refine ok_ite (fun c_36 => ?_) (fun c_36 => ?_)
    · skip
      have c_36 : o_wrong.toInt = (0 : Int) := i_eq.mp c_36
      refine ok_bd2 (s_X7_here o_taped o_at o_tape (show 0 ≤ (o_taped).toInt by omega) (show (o_taped).toInt ≤ 60 by omega) (show 0 ≤ o_at.toInt by omega) (show o_at.toInt ≤ o_taped.toInt by omega)) (fun r_37 w_38 q_39 => ?_)
      obtain ⟨q_39_0, q_39_1, q_39_2, q_39_3, q_39_4, q_39_5⟩ : (0 ≤ w_38.toInt) ∧ (w_38.toInt ≤ o_taped.toInt) ∧ (o_at.toInt ≤ w_38.toInt) ∧ (r_37.toInt = 0 ∧ w_38.toInt = o_taped.toInt ∨ (w_38.toInt < o_taped.toInt ∧ r_37.toInt = (o_tape w_38.toNatClampNeg).toInt ∧ ¬ r_37.toInt = 32)) ∧ (o_at.toInt < o_taped.toInt → ¬ (o_tape o_at.toNatClampNeg).toInt = 32 → w_38.toInt = o_at.toInt ∧ r_37.toInt = (o_tape o_at.toNatClampNeg).toInt) ∧ (∀ j : Nat, o_at.toInt ≤ (j : Int) → (j : Int) < w_38.toInt → (o_tape j).toInt = 32) := q_39
      first | (have f_40 : (r_37.toInt64).toInt = r_37.toInt := j_i2l _) | skip
      refine ok_bd1 (s_X7_in r_37.toInt64 48 57) (fun r_41 q_42 => ?_)
      replace q_42 : (r_41.toInt = 1 ∧ (48 : Int) ≤ r_37.toInt64.toInt ∧ r_37.toInt64.toInt ≤ (57 : Int)) ∨ (r_41.toInt = 0 ∧ (r_37.toInt64.toInt < (48 : Int) ∨ (57 : Int) < r_37.toInt64.toInt)) := q_42
      refine ok_ite (fun c_43 => ?_) (fun c_43 => ?_)
      · skip
        have c_43 : r_41.toInt = (0 : Int) := i_eq.mp c_43
        replace q_42 : (r_37.toInt64.toInt < (48 : Int) ∨ (57 : Int) < r_37.toInt64.toInt) := by omega
        unfold f_X7_number_B52
        exact ok_some (show (0 ≤ w_38.toInt) ∧ (w_38.toInt ≤ o_taped.toInt) from ⟨by omega, by omega⟩)
      · skip
        have c_43 : ¬ r_41.toInt = (0 : Int) := fun z => c_43 (i_eq.mpr z)
        replace q_42 : (48 : Int) ≤ r_37.toInt64.toInt ∧ r_37.toInt64.toInt ≤ (57 : Int) := by omega
        exact l66 FU w_38 0 w_38 o_wrong (FU_gt (show (o_taped.toInt - w_38.toInt).toNat < 1000000000000 by omega)) (show 0 ≤ w_38.toInt by omega) (show w_38.toInt ≤ w_38.toInt by omega) (show 0 ≤ w_38.toInt by omega) (show w_38.toInt ≤ o_taped.toInt by omega)
    · skip
      have c_36 : ¬ o_wrong.toInt = (0 : Int) := fun z => c_36 (i_eq.mpr z)
      unfold f_X7_number_B52
      exact ok_some (show (0 ≤ o_at.toInt) ∧ (o_at.toInt ≤ o_taped.toInt) from ⟨by omega, by omega⟩)
