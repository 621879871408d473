set_option maxRecDepth 100000 in
set_option maxHeartbeats 4000000 in
theorem l_X6_drift (x1 : Int32) (x2 : Int32) (x3 : Int32) (told_settings : Nat → Int32) (told_currents : Nat → Int32) : okP (f_X6_drift x1 x2 x3 told_settings told_currents) (fun u => (((0 ≤ x1.toInt ∧ x1.toInt < 100 ∧ 0 ≤ x2.toInt ∧ x2.toInt ≤ 24 ∧ 0 ≤ x3.toInt ∧ x3.toInt ≤ 1) ∧ u.toInt = drS told_currents (told_settings 7).toInt x3.toInt x1.toInt x2.toInt.toNat) ∨ (¬ (0 ≤ x1.toInt ∧ x1.toInt < 100 ∧ 0 ≤ x2.toInt ∧ x2.toInt ≤ 24 ∧ 0 ≤ x3.toInt ∧ x3.toInt ≤ 1) ∧ u.toInt = -1))) := by
  unfold f_X6_drift
  refine ok_bd1 (s_X6_isCell x1) (fun r_1 q_2 => ?_)
  replace q_2 : (r_1.toInt = 1 ∧ 0 ≤ x1.toInt ∧ x1.toInt < 100) ∨ (r_1.toInt = 0 ∧ (x1.toInt < 0 ∨ 100 ≤ x1.toInt)) := q_2
  refine ok_ite (fun c_3 => ?_) (fun c_3 => ?_)
  · skip
    have c_3 : r_1.toInt = (0 : Int) := i_eq.mp c_3
    replace q_2 : (x1.toInt < 0 ∨ 100 ≤ x1.toInt) := by omega
    exact ok_some (show (((0 ≤ x1.toInt ∧ x1.toInt < 100 ∧ 0 ≤ x2.toInt ∧ x2.toInt ≤ 24 ∧ 0 ≤ x3.toInt ∧ x3.toInt ≤ 1) ∧ (-1 : Int) = drS told_currents (told_settings 7).toInt x3.toInt x1.toInt x2.toInt.toNat) ∨ (¬ (0 ≤ x1.toInt ∧ x1.toInt < 100 ∧ 0 ≤ x2.toInt ∧ x2.toInt ≤ 24 ∧ 0 ≤ x3.toInt ∧ x3.toInt ≤ 1) ∧ (-1 : Int) = -1)) from by first | with_reducible assumption | with_reducible rfl | exact Or.inr ⟨by omega, rfl⟩ | exact Or.inl ⟨by omega, by assumption⟩ | omega)
  · skip
    have c_3 : ¬ r_1.toInt = (0 : Int) := fun z => c_3 (i_eq.mpr z)
    replace q_2 : 0 ≤ x1.toInt ∧ x1.toInt < 100 := by omega
    refine ok_bd1 (s_X6_within x2 0 24) (fun r_4 q_5 => ?_)
    replace q_5 : (r_4.toInt = 1 ∧ (0 : Int) ≤ x2.toInt ∧ x2.toInt ≤ (24 : Int)) ∨ (r_4.toInt = 0 ∧ (x2.toInt < (0 : Int) ∨ (24 : Int) < x2.toInt)) := q_5
    refine ok_ite (fun c_6 => ?_) (fun c_6 => ?_)
    · skip
      have c_6 : r_4.toInt = (0 : Int) := i_eq.mp c_6
      replace q_5 : (x2.toInt < (0 : Int) ∨ (24 : Int) < x2.toInt) := by omega
      exact ok_some (show (((0 ≤ x1.toInt ∧ x1.toInt < 100 ∧ 0 ≤ x2.toInt ∧ x2.toInt ≤ 24 ∧ 0 ≤ x3.toInt ∧ x3.toInt ≤ 1) ∧ (-1 : Int) = drS told_currents (told_settings 7).toInt x3.toInt x1.toInt x2.toInt.toNat) ∨ (¬ (0 ≤ x1.toInt ∧ x1.toInt < 100 ∧ 0 ≤ x2.toInt ∧ x2.toInt ≤ 24 ∧ 0 ≤ x3.toInt ∧ x3.toInt ≤ 1) ∧ (-1 : Int) = -1)) from by first | with_reducible assumption | with_reducible rfl | exact Or.inr ⟨by omega, rfl⟩ | exact Or.inl ⟨by omega, by assumption⟩ | omega)
    · skip
      have c_6 : ¬ r_4.toInt = (0 : Int) := fun z => c_6 (i_eq.mpr z)
      replace q_5 : (0 : Int) ≤ x2.toInt ∧ x2.toInt ≤ (24 : Int) := by omega
      refine ok_bd1 (s_X6_within x3 0 1) (fun r_7 q_8 => ?_)
      replace q_8 : (r_7.toInt = 1 ∧ (0 : Int) ≤ x3.toInt ∧ x3.toInt ≤ (1 : Int)) ∨ (r_7.toInt = 0 ∧ (x3.toInt < (0 : Int) ∨ (1 : Int) < x3.toInt)) := q_8
      refine ok_ite (fun c_9 => ?_) (fun c_9 => ?_)
      · skip
        have c_9 : r_7.toInt = (0 : Int) := i_eq.mp c_9
        replace q_8 : (x3.toInt < (0 : Int) ∨ (1 : Int) < x3.toInt) := by omega
        exact ok_some (show (((0 ≤ x1.toInt ∧ x1.toInt < 100 ∧ 0 ≤ x2.toInt ∧ x2.toInt ≤ 24 ∧ 0 ≤ x3.toInt ∧ x3.toInt ≤ 1) ∧ (-1 : Int) = drS told_currents (told_settings 7).toInt x3.toInt x1.toInt x2.toInt.toNat) ∨ (¬ (0 ≤ x1.toInt ∧ x1.toInt < 100 ∧ 0 ≤ x2.toInt ∧ x2.toInt ≤ 24 ∧ 0 ≤ x3.toInt ∧ x3.toInt ≤ 1) ∧ (-1 : Int) = -1)) from by first | with_reducible assumption | with_reducible rfl | exact Or.inr ⟨by omega, rfl⟩ | exact Or.inl ⟨by omega, by assumption⟩ | omega)
      · skip
        have c_9 : ¬ r_7.toInt = (0 : Int) := fun z => c_9 (i_eq.mpr z)
        replace q_8 : (0 : Int) ≤ x3.toInt ∧ x3.toInt ≤ (1 : Int) := by omega
        refine ok_bd1 (e_behind x1 x2 x3 told_settings told_currents (show 0 ≤ (x1).toInt by first | omega | exact Or.inr ⟨by omega, rfl⟩ | exact Or.inl ⟨by omega, by assumption⟩) (show (x1).toInt ≤ 99 by first | omega | exact Or.inr ⟨by omega, rfl⟩ | exact Or.inl ⟨by omega, by assumption⟩) (show 0 ≤ (x2).toInt by first | omega | exact Or.inr ⟨by omega, rfl⟩ | exact Or.inl ⟨by omega, by assumption⟩) (show (x2).toInt ≤ 1000 by first | omega | exact Or.inr ⟨by omega, rfl⟩ | exact Or.inl ⟨by omega, by assumption⟩)) (fun r_10 q_11 => ?_)
        replace q_11 : r_10.toInt = drS told_currents (told_settings 7).toInt x3.toInt x1.toInt x2.toInt.toNat := q_11
        exact ok_some (show (((0 ≤ x1.toInt ∧ x1.toInt < 100 ∧ 0 ≤ x2.toInt ∧ x2.toInt ≤ 24 ∧ 0 ≤ x3.toInt ∧ x3.toInt ≤ 1) ∧ r_10.toInt = drS told_currents (told_settings 7).toInt x3.toInt x1.toInt x2.toInt.toNat) ∨ (¬ (0 ≤ x1.toInt ∧ x1.toInt < 100 ∧ 0 ≤ x2.toInt ∧ x2.toInt ≤ 24 ∧ 0 ≤ x3.toInt ∧ x3.toInt ≤ 1) ∧ r_10.toInt = -1)) from by first | with_reducible assumption | with_reducible rfl | exact Or.inr ⟨by omega, rfl⟩ | exact Or.inl ⟨by omega, by assumption⟩ | omega)
set_option maxRecDepth 100000 in
set_option maxHeartbeats 4000000 in
theorem l_X7_drift (x1 : Int32) (x2 : Int32) (x3 : Int32) (o_sets : Nat → Int32) (o_currents : Nat → Int32) (h0 : SetOK o_sets) (h1 : CurOK o_currents) : okP (f_X7_drift x1 x2 x3 o_sets o_currents) (fun u => (((0 ≤ x1.toInt ∧ x1.toInt < 100 ∧ 0 ≤ x2.toInt ∧ x2.toInt ≤ 24 ∧ 0 ≤ x3.toInt ∧ x3.toInt ≤ 1) ∧ u.toInt = drS o_currents (o_sets 7).toInt x3.toInt x1.toInt x2.toInt.toNat) ∨ (¬ (0 ≤ x1.toInt ∧ x1.toInt < 100 ∧ 0 ≤ x2.toInt ∧ x2.toInt ≤ 24 ∧ 0 ≤ x3.toInt ∧ x3.toInt ≤ 1) ∧ u.toInt = -1))) := by
  obtain ⟨s0a, s0b, s1a, s1b, s2a, s2b, s3a, s3b, s4a, s4b, s5a, s5b, s6a, s6b, s7a, s7b⟩ := id h0
  unfold f_X7_drift
  refine ok_bd1 (s_X7_isCell x1) (fun r_1 q_2 => ?_)
  replace q_2 : (r_1.toInt = 1 ∧ 0 ≤ x1.toInt ∧ x1.toInt < 100) ∨ (r_1.toInt = 0 ∧ (x1.toInt < 0 ∨ 100 ≤ x1.toInt)) := q_2
  refine ok_ite (fun c_3 => ?_) (fun c_3 => ?_)
  · skip
    have c_3 : r_1.toInt = (0 : Int) := i_eq.mp c_3
    replace q_2 : (x1.toInt < 0 ∨ 100 ≤ x1.toInt) := by omega
    exact ok_some (show (((0 ≤ x1.toInt ∧ x1.toInt < 100 ∧ 0 ≤ x2.toInt ∧ x2.toInt ≤ 24 ∧ 0 ≤ x3.toInt ∧ x3.toInt ≤ 1) ∧ (-1 : Int) = drS o_currents (o_sets 7).toInt x3.toInt x1.toInt x2.toInt.toNat) ∨ (¬ (0 ≤ x1.toInt ∧ x1.toInt < 100 ∧ 0 ≤ x2.toInt ∧ x2.toInt ≤ 24 ∧ 0 ≤ x3.toInt ∧ x3.toInt ≤ 1) ∧ (-1 : Int) = -1)) from by first | with_reducible assumption | with_reducible rfl | exact Or.inr ⟨by omega, rfl⟩ | exact Or.inl ⟨by omega, by assumption⟩ | omega)
  · skip
    have c_3 : ¬ r_1.toInt = (0 : Int) := fun z => c_3 (i_eq.mpr z)
    replace q_2 : 0 ≤ x1.toInt ∧ x1.toInt < 100 := by omega
    first | (have f_4 : (x2.toInt64).toInt = x2.toInt := j_i2l _) | skip
    refine ok_bd1 (s_X7_in x2.toInt64 0 24) (fun r_5 q_6 => ?_)
    replace q_6 : (r_5.toInt = 1 ∧ (0 : Int) ≤ x2.toInt64.toInt ∧ x2.toInt64.toInt ≤ (24 : Int)) ∨ (r_5.toInt = 0 ∧ (x2.toInt64.toInt < (0 : Int) ∨ (24 : Int) < x2.toInt64.toInt)) := q_6
    refine ok_ite (fun c_7 => ?_) (fun c_7 => ?_)
    · skip
      have c_7 : r_5.toInt = (0 : Int) := i_eq.mp c_7
      replace q_6 : (x2.toInt64.toInt < (0 : Int) ∨ (24 : Int) < x2.toInt64.toInt) := by omega
      exact ok_some (show (((0 ≤ x1.toInt ∧ x1.toInt < 100 ∧ 0 ≤ x2.toInt ∧ x2.toInt ≤ 24 ∧ 0 ≤ x3.toInt ∧ x3.toInt ≤ 1) ∧ (-1 : Int) = drS o_currents (o_sets 7).toInt x3.toInt x1.toInt x2.toInt.toNat) ∨ (¬ (0 ≤ x1.toInt ∧ x1.toInt < 100 ∧ 0 ≤ x2.toInt ∧ x2.toInt ≤ 24 ∧ 0 ≤ x3.toInt ∧ x3.toInt ≤ 1) ∧ (-1 : Int) = -1)) from by first | with_reducible assumption | with_reducible rfl | exact Or.inr ⟨by omega, rfl⟩ | exact Or.inl ⟨by omega, by assumption⟩ | omega)
    · skip
      have c_7 : ¬ r_5.toInt = (0 : Int) := fun z => c_7 (i_eq.mpr z)
      replace q_6 : (0 : Int) ≤ x2.toInt64.toInt ∧ x2.toInt64.toInt ≤ (24 : Int) := by omega
      first | (have f_8 : (x3.toInt64).toInt = x3.toInt := j_i2l _) | skip
      refine ok_bd1 (s_X7_in x3.toInt64 0 1) (fun r_9 q_10 => ?_)
      replace q_10 : (r_9.toInt = 1 ∧ (0 : Int) ≤ x3.toInt64.toInt ∧ x3.toInt64.toInt ≤ (1 : Int)) ∨ (r_9.toInt = 0 ∧ (x3.toInt64.toInt < (0 : Int) ∨ (1 : Int) < x3.toInt64.toInt)) := q_10
      refine ok_ite (fun c_11 => ?_) (fun c_11 => ?_)
      · skip
        have c_11 : r_9.toInt = (0 : Int) := i_eq.mp c_11
        replace q_10 : (x3.toInt64.toInt < (0 : Int) ∨ (1 : Int) < x3.toInt64.toInt) := by omega
        exact ok_some (show (((0 ≤ x1.toInt ∧ x1.toInt < 100 ∧ 0 ≤ x2.toInt ∧ x2.toInt ≤ 24 ∧ 0 ≤ x3.toInt ∧ x3.toInt ≤ 1) ∧ (-1 : Int) = drS o_currents (o_sets 7).toInt x3.toInt x1.toInt x2.toInt.toNat) ∨ (¬ (0 ≤ x1.toInt ∧ x1.toInt < 100 ∧ 0 ≤ x2.toInt ∧ x2.toInt ≤ 24 ∧ 0 ≤ x3.toInt ∧ x3.toInt ≤ 1) ∧ (-1 : Int) = -1)) from by first | with_reducible assumption | with_reducible rfl | exact Or.inr ⟨by omega, rfl⟩ | exact Or.inl ⟨by omega, by assumption⟩ | omega)
      · skip
        have c_11 : ¬ r_9.toInt = (0 : Int) := fun z => c_11 (i_eq.mpr z)
        replace q_10 : (0 : Int) ≤ x3.toInt64.toInt ∧ x3.toInt64.toInt ≤ (1 : Int) := by omega
        refine ok_bd1 (e_driftTo x1 x2 x3 o_sets o_currents (show 0 ≤ (x1).toInt by first | omega | exact Or.inr ⟨by omega, rfl⟩ | exact Or.inl ⟨by omega, by assumption⟩) (show (x1).toInt ≤ 99 by first | omega | exact Or.inr ⟨by omega, rfl⟩ | exact Or.inl ⟨by omega, by assumption⟩) (show 0 ≤ (x2).toInt by first | omega | exact Or.inr ⟨by omega, rfl⟩ | exact Or.inl ⟨by omega, by assumption⟩) (show (x2).toInt ≤ 1000 by first | omega | exact Or.inr ⟨by omega, rfl⟩ | exact Or.inl ⟨by omega, by assumption⟩) (show x3.toInt = 0 ∨ x3.toInt = 1 by first | omega | exact Or.inr ⟨by omega, rfl⟩ | exact Or.inl ⟨by omega, by assumption⟩) (show 0 ≤ (o_sets 7).toInt by first | omega | exact Or.inr ⟨by omega, rfl⟩ | exact Or.inl ⟨by omega, by assumption⟩) (show (o_sets 7).toInt ≤ 8 by first | omega | exact Or.inr ⟨by omega, rfl⟩ | exact Or.inl ⟨by omega, by assumption⟩) (by first | with_reducible assumption | with_reducible rfl | exact Or.inr ⟨by omega, rfl⟩ | exact Or.inl ⟨by omega, by assumption⟩ | omega)) (fun r_12 q_13 => ?_)
        replace q_13 : r_12.toInt = drS o_currents (o_sets 7).toInt x3.toInt x1.toInt x2.toInt.toNat := q_13
        exact ok_some (show (((0 ≤ x1.toInt ∧ x1.toInt < 100 ∧ 0 ≤ x2.toInt ∧ x2.toInt ≤ 24 ∧ 0 ≤ x3.toInt ∧ x3.toInt ≤ 1) ∧ r_12.toInt = drS o_currents (o_sets 7).toInt x3.toInt x1.toInt x2.toInt.toNat) ∨ (¬ (0 ≤ x1.toInt ∧ x1.toInt < 100 ∧ 0 ≤ x2.toInt ∧ x2.toInt ≤ 24 ∧ 0 ≤ x3.toInt ∧ x3.toInt ≤ 1) ∧ r_12.toInt = -1)) from by first | with_reducible assumption | with_reducible rfl | exact Or.inr ⟨by omega, rfl⟩ | exact Or.inl ⟨by omega, by assumption⟩ | omega)
