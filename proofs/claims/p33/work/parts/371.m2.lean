set_option maxRecDepth 100000 in
set_option maxHeartbeats 4000000 in
theorem s_X7_begins (o_level : Int32) (o_sets : Nat → Int32) (o_code : Nat → Int32) (o_cellAt : Nat → Int32) (o_turnsAt : Nat → Int32) (o_slowAt : Nat → Int32) (o_fuelAt : Nat → Int32) (o_ringAt : Nat → Int32) (h0 : SetOK o_sets) : okP (f_X7_begins o_level o_sets o_code o_cellAt o_turnsAt o_slowAt o_fuelAt o_ringAt) (fun u => (WI u.1 o_sets u.2.1 u.2.2.1)) := by
  obtain ⟨s0a, s0b, s1a, s1b, s2a, s2b, s3a, s3b, s4a, s4b, s5a, s5b, s6a, s6b, s7a, s7b⟩ := id h0
  unfold f_X7_begins
  refine ok_nmi (fun x_1 hx_1 kx_1 => ?_)
  exact ok_some (show (WI 0 o_sets (upd o_code 0 (-1)) (upd o_cellAt 0 x_1)) from by first | with_reducible assumption | with_reducible rfl | exact WI_begin (by omega) (by omega) (by omega) | omega)
set_option maxRecDepth 100000 in
set_option maxHeartbeats 4000000 in
theorem s_X7_ringed (x1 : Int32) (o_noRings : Int32) (o_noTones : Int32) (o_sets : Nat → Int32) (o_ringFar : Nat → Int32) (o_ringTone : Nat → Int32) (o_cellAt : Nat → Int32) (h0 : 1 ≤ (x1).toInt) (h1 : (x1).toInt ≤ 6) (h2 : SetOK o_sets) (h3 : 0 ≤ (o_cellAt x1.toNatClampNeg).toInt) (h4 : (o_cellAt x1.toNatClampNeg).toInt ≤ 99) (h5 : 0 ≤ (o_cellAt (x1 - 1).toNatClampNeg).toInt) (h6 : (o_cellAt (x1 - 1).toNatClampNeg).toInt ≤ 99) : okP (f_X7_ringed x1 o_noRings o_noTones o_sets o_ringFar o_ringTone o_cellAt) (fun u => True) := by
  obtain ⟨s0a, s0b, s1a, s1b, s2a, s2b, s3a, s3b, s4a, s4b, s5a, s5b, s6a, s6b, s7a, s7b⟩ := id h2
  unfold f_X7_ringed
  refine ok_ite (fun c_1 => ?_) (fun c_1 => ?_)
  · skip
    exact ok_some trivial
  · skip
    have ix_2 : ¬ (x1 < 0 ∨ 7 ≤ x1.toNatClampNeg) := ix (show 0 ≤ x1.toInt by omega) (show x1.toInt < (7 : Nat) by omega)
    refine ok_chk ix_2 ?_
    refine ok_bd1 (s_X7_away (o_cellAt x1.toNatClampNeg) o_sets (show 0 ≤ ((o_cellAt x1.toNatClampNeg)).toInt by omega) (show ((o_cellAt x1.toNatClampNeg)).toInt ≤ 99 by omega) (show 0 ≤ (o_sets 0).toInt by omega) (show (o_sets 0).toInt ≤ 99 by omega)) (fun r_3 q_4 => ?_)
    replace q_4 : r_3 = nI (rt (sqd (o_sets 0).toInt.toNat (o_cellAt x1.toNatClampNeg).toNatClampNeg)) := q_4
    first | (have f_5 : (x1 - 1).toInt = x1.toInt - (1 : Int) := i_sub2 rfl rfl (by omega) (by omega)) | skip
    have ix_6 : ¬ ((x1 - 1) < 0 ∨ 7 ≤ (x1 - 1).toNatClampNeg) := ix (show 0 ≤ (x1 - 1).toInt by omega) (show (x1 - 1).toInt < (7 : Nat) by omega)
    refine ok_chk ix_6 ?_
    refine ok_bd1 (s_X7_away (o_cellAt (x1 - 1).toNatClampNeg) o_sets (show 0 ≤ ((o_cellAt (x1 - 1).toNatClampNeg)).toInt by omega) (show ((o_cellAt (x1 - 1).toNatClampNeg)).toInt ≤ 99 by omega) (show 0 ≤ (o_sets 0).toInt by omega) (show (o_sets 0).toInt ≤ 99 by omega)) (fun r_7 q_8 => ?_)
    replace q_8 : r_7 = nI (rt (sqd (o_sets 0).toInt.toNat (o_cellAt (x1 - 1).toNatClampNeg).toNatClampNeg)) := q_8
    refine ok_ite (fun c_9 => ?_) (fun c_9 => ?_)
    · skip
      have c_9 : o_noTones.toInt = (0 : Int) := i_eq.mp c_9
      refine ok_chk ix_2 ?_
      unfold f_X7_ringed_B55
      refine ok_ite (fun c_10 => ?_) (fun c_10 => ?_)
      · skip
        have c_10 : (o_ringTone x1.toNatClampNeg).toInt = (1 : Int) := i_eq.mp c_10
        refine ok_ite (fun c_11 => ?_) (fun c_11 => ?_)
        · skip
          have c_11 : r_7.toInt ≤ r_3.toInt := i_le.mp c_11
          exact ok_some trivial
        · skip
          have c_11 : ¬ r_7.toInt ≤ r_3.toInt := fun z => c_11 (i_le.mpr z)
          unfold f_X7_ringed_B68
          refine ok_ite (fun c_12 => ?_) (fun c_12 => ?_)
          · skip
            have c_12 : (o_ringTone x1.toNatClampNeg).toInt = (2 : Int) := i_eq.mp c_12
            refine ok_ite (fun c_13 => ?_) (fun c_13 => ?_)
            · skip
              have c_13 : r_7.toInt < r_3.toInt := i_lt.mp c_13
              unfold f_X7_ringed_B81
              refine ok_chk ix_2 ?_
              refine ok_ite (fun c_14 => ?_) (fun c_14 => ?_)
              · skip
                have c_14 : (0 : Int) ≤ (o_ringFar x1.toNatClampNeg).toInt := i_le.mp c_14
                refine ok_chk ix_2 ?_
                refine ok_ite (fun c_15 => ?_) (fun c_15 => ?_)
                · skip
                  have c_15 : (o_ringFar x1.toNatClampNeg).toInt ≤ r_3.toInt := i_le.mp c_15
                  refine ok_chk ix_2 ?_
                  first | (have f_16 : (r_3 - (o_ringFar x1.toNatClampNeg)).toInt = r_3.toInt - (o_ringFar x1.toNatClampNeg).toInt := i_sub2 rfl rfl (by omega) (by omega)) | skip
                  unfold f_X7_ringed_B123
                  refine ok_ite (fun c_17 => ?_) (fun c_17 => ?_)
                  · skip
                    have c_17 : (0 : Int) ≤ (r_3 - (o_ringFar x1.toNatClampNeg)).toInt := i_le.mp c_17
                    refine ok_ite (fun c_18 => ?_) (fun c_18 => ?_)
                    · skip
                      have c_18 : (r_3 - (o_ringFar x1.toNatClampNeg)).toInt = (0 : Int) := i_eq.mp c_18
                      exact ok_some trivial
                    · skip
                      have c_18 : ¬ (r_3 - (o_ringFar x1.toNatClampNeg)).toInt = (0 : Int) := fun z => c_18 (i_eq.mpr z)
                      refine ok_ite (fun c_19 => ?_) (fun c_19 => ?_)
                      · skip
                        have c_19 : (r_3 - (o_ringFar x1.toNatClampNeg)).toInt = (1 : Int) := i_eq.mp c_19
                        exact ok_some trivial
                      · skip
                        have c_19 : ¬ (r_3 - (o_ringFar x1.toNatClampNeg)).toInt = (1 : Int) := fun z => c_19 (i_eq.mpr z)
                        exact ok_some trivial
                  · skip
                    have c_17 : ¬ (0 : Int) ≤ (r_3 - (o_ringFar x1.toNatClampNeg)).toInt := fun z => c_17 (i_le.mpr z)
                    exact ok_some trivial
                · skip
                  have c_15 : ¬ (o_ringFar x1.toNatClampNeg).toInt ≤ r_3.toInt := fun z => c_15 (i_le.mpr z)
                  refine ok_chk ix_2 ?_
                  first | (have f_20 : ((o_ringFar x1.toNatClampNeg) - r_3).toInt = (o_ringFar x1.toNatClampNeg).toInt - r_3.toInt := i_sub2 rfl rfl (by omega) (by omega)) | skip
                  unfold f_X7_ringed_B123
                  refine ok_ite (fun c_21 => ?_) (fun c_21 => ?_)
                  · skip
                    have c_21 : (0 : Int) ≤ ((o_ringFar x1.toNatClampNeg) - r_3).toInt := i_le.mp c_21
                    refine ok_ite (fun c_22 => ?_) (fun c_22 => ?_)
                    · skip
                      have c_22 : ((o_ringFar x1.toNatClampNeg) - r_3).toInt = (0 : Int) := i_eq.mp c_22
                      exact ok_some trivial
                    · skip
                      have c_22 : ¬ ((o_ringFar x1.toNatClampNeg) - r_3).toInt = (0 : Int) := fun z => c_22 (i_eq.mpr z)
                      refine ok_ite (fun c_23 => ?_) (fun c_23 => ?_)
                      · skip
                        have c_23 : ((o_ringFar x1.toNatClampNeg) - r_3).toInt = (1 : Int) := i_eq.mp c_23
                        exact ok_some trivial
                      · skip
                        have c_23 : ¬ ((o_ringFar x1.toNatClampNeg) - r_3).toInt = (1 : Int) := fun z => c_23 (i_eq.mpr z)
                        exact ok_some trivial
                  · skip
                    have c_21 : ¬ (0 : Int) ≤ ((o_ringFar x1.toNatClampNeg) - r_3).toInt := fun z => c_21 (i_le.mpr z)
                    exact ok_some trivial
              · skip
                have c_14 : ¬ (0 : Int) ≤ (o_ringFar x1.toNatClampNeg).toInt := fun z => c_14 (i_le.mpr z)
                unfold f_X7_ringed_B123
                refine ok_ite (fun c_24 => ?_) (fun c_24 => ?_)
                · skip
                  exact absurd c_24 (by decide)
                · skip
                  exact ok_some trivial
            · skip
              have c_13 : ¬ r_7.toInt < r_3.toInt := fun z => c_13 (i_lt.mpr z)
              exact ok_some trivial
          · skip
            have c_12 : ¬ (o_ringTone x1.toNatClampNeg).toInt = (2 : Int) := fun z => c_12 (i_eq.mpr z)
            unfold f_X7_ringed_B81
            refine ok_chk ix_2 ?_
            refine ok_ite (fun c_25 => ?_) (fun c_25 => ?_)
            · skip
              have c_25 : (0 : Int) ≤ (o_ringFar x1.toNatClampNeg).toInt := i_le.mp c_25
              refine ok_chk ix_2 ?_
              refine ok_ite (fun c_26 => ?_) (fun c_26 => ?_)
              · skip
                have c_26 : (o_ringFar x1.toNatClampNeg).toInt ≤ r_3.toInt := i_le.mp c_26
                refine ok_chk ix_2 ?_
                first | (have f_27 : (r_3 - (o_ringFar x1.toNatClampNeg)).toInt = r_3.toInt - (o_ringFar x1.toNatClampNeg).toInt := i_sub2 rfl rfl (by omega) (by omega)) | skip
                unfold f_X7_ringed_B123
                refine ok_ite (fun c_28 => ?_) (fun c_28 => ?_)
                · skip
                  have c_28 : (0 : Int) ≤ (r_3 - (o_ringFar x1.toNatClampNeg)).toInt := i_le.mp c_28
                  refine ok_ite (fun c_29 => ?_) (fun c_29 => ?_)
                  · skip
                    have c_29 : (r_3 - (o_ringFar x1.toNatClampNeg)).toInt = (0 : Int) := i_eq.mp c_29
                    exact ok_some trivial
                  · skip
                    have c_29 : ¬ (r_3 - (o_ringFar x1.toNatClampNeg)).toInt = (0 : Int) := fun z => c_29 (i_eq.mpr z)
                    refine ok_ite (fun c_30 => ?_) (fun c_30 => ?_)
                    · skip
                      have c_30 : (r_3 - (o_ringFar x1.toNatClampNeg)).toInt = (1 : Int) := i_eq.mp c_30
                      exact ok_some trivial
                    · skip
                      have c_30 : ¬ (r_3 - (o_ringFar x1.toNatClampNeg)).toInt = (1 : Int) := fun z => c_30 (i_eq.mpr z)
                      exact ok_some trivial
                · skip
                  have c_28 : ¬ (0 : Int) ≤ (r_3 - (o_ringFar x1.toNatClampNeg)).toInt := fun z => c_28 (i_le.mpr z)
                  exact ok_some trivial
              · skip
                have c_26 : ¬ (o_ringFar x1.toNatClampNeg).toInt ≤ r_3.toInt := fun z => c_26 (i_le.mpr z)
                refine ok_chk ix_2 ?_
                first | (have f_31 : ((o_ringFar x1.toNatClampNeg) - r_3).toInt = (o_ringFar x1.toNatClampNeg).toInt - r_3.toInt := i_sub2 rfl rfl (by omega) (by omega)) | skip
                unfold f_X7_ringed_B123
                refine ok_ite (fun c_32 => ?_) (fun c_32 => ?_)
                · skip
                  have c_32 : (0 : Int) ≤ ((o_ringFar x1.toNatClampNeg) - r_3).toInt := i_le.mp c_32
                  refine ok_ite (fun c_33 => ?_) (fun c_33 => ?_)
                  · skip
                    have c_33 : ((o_ringFar x1.toNatClampNeg) - r_3).toInt = (0 : Int) := i_eq.mp c_33
                    exact ok_some trivial
                  · skip
                    have c_33 : ¬ ((o_ringFar x1.toNatClampNeg) - r_3).toInt = (0 : Int) := fun z => c_33 (i_eq.mpr z)
                    refine ok_ite (fun c_34 => ?_) (fun c_34 => ?_)
                    · skip
                      have c_34 : ((o_ringFar x1.toNatClampNeg) - r_3).toInt = (1 : Int) := i_eq.mp c_34
                      exact ok_some trivial
                    · skip
                      have c_34 : ¬ ((o_ringFar x1.toNatClampNeg) - r_3).toInt = (1 : Int) := fun z => c_34 (i_eq.mpr z)
                      exact ok_some trivial
                · skip
                  have c_32 : ¬ (0 : Int) ≤ ((o_ringFar x1.toNatClampNeg) - r_3).toInt := fun z => c_32 (i_le.mpr z)
                  exact ok_some trivial
            · skip
              have c_25 : ¬ (0 : Int) ≤ (o_ringFar x1.toNatClampNeg).toInt := fun z => c_25 (i_le.mpr z)
              unfold f_X7_ringed_B123
              refine ok_ite (fun c_35 => ?_) (fun c_35 => ?_)
              · skip
                exact absurd c_35 (by decide)
              · skip
                exact ok_some trivial
      · skip
        have c_10 : ¬ (o_ringTone x1.toNatClampNeg).toInt = (1 : Int) := fun z => c_10 (i_eq.mpr z)
        unfold f_X7_ringed_B68
        refine ok_ite (fun c_36 => ?_) (fun c_36 => ?_)
        · skip
          have c_36 : (o_ringTone x1.toNatClampNeg).toInt = (2 : Int) := i_eq.mp c_36
          refine ok_ite (fun c_37 => ?_) (fun c_37 => ?_)
          · skip
            have c_37 : r_7.toInt < r_3.toInt := i_lt.mp c_37
            unfold f_X7_ringed_B81
            refine ok_chk ix_2 ?_
            refine ok_ite (fun c_38 => ?_) (fun c_38 => ?_)
            · skip
              have c_38 : (0 : Int) ≤ (o_ringFar x1.toNatClampNeg).toInt := i_le.mp c_38
              refine ok_chk ix_2 ?_
              refine ok_ite (fun c_39 => ?_) (fun c_39 => ?_)
              · skip
                have c_39 : (o_ringFar x1.toNatClampNeg).toInt ≤ r_3.toInt := i_le.mp c_39
                refine ok_chk ix_2 ?_
                first | (have f_40 : (r_3 - (o_ringFar x1.toNatClampNeg)).toInt = r_3.toInt - (o_ringFar x1.toNatClampNeg).toInt := i_sub2 rfl rfl (by omega) (by omega)) | skip
                unfold f_X7_ringed_B123
                refine ok_ite (fun c_41 => ?_) (fun c_41 => ?_)
                · skip
                  have c_41 : (0 : Int) ≤ (r_3 - (o_ringFar x1.toNatClampNeg)).toInt := i_le.mp c_41
                  refine ok_ite (fun c_42 => ?_) (fun c_42 => ?_)
                  · skip
                    have c_42 : (r_3 - (o_ringFar x1.toNatClampNeg)).toInt = (0 : Int) := i_eq.mp c_42
                    exact ok_some trivial
                  · skip
                    have c_42 : ¬ (r_3 - (o_ringFar x1.toNatClampNeg)).toInt = (0 : Int) := fun z => c_42 (i_eq.mpr z)
                    refine ok_ite (fun c_43 => ?_) (fun c_43 => ?_)
                    · skip
                      have c_43 : (r_3 - (o_ringFar x1.toNatClampNeg)).toInt = (1 : Int) := i_eq.mp c_43
                      exact ok_some trivial
                    · skip
                      have c_43 : ¬ (r_3 - (o_ringFar x1.toNatClampNeg)).toInt = (1 : Int) := fun z => c_43 (i_eq.mpr z)
                      exact ok_some trivial
                · skip
                  have c_41 : ¬ (0 : Int) ≤ (r_3 - (o_ringFar x1.toNatClampNeg)).toInt := fun z => c_41 (i_le.mpr z)
                  exact ok_some trivial
              · skip
                have c_39 : ¬ (o_ringFar x1.toNatClampNeg).toInt ≤ r_3.toInt := fun z => c_39 (i_le.mpr z)
                refine ok_chk ix_2 ?_
                first | (have f_44 : ((o_ringFar x1.toNatClampNeg) - r_3).toInt = (o_ringFar x1.toNatClampNeg).toInt - r_3.toInt := i_sub2 rfl rfl (by omega) (by omega)) | skip
                unfold f_X7_ringed_B123
                refine ok_ite (fun c_45 => ?_) (fun c_45 => ?_)
                · skip
                  have c_45 : (0 : Int) ≤ ((o_ringFar x1.toNatClampNeg) - r_3).toInt := i_le.mp c_45
                  refine ok_ite (fun c_46 => ?_) (fun c_46 => ?_)
                  · skip
                    have c_46 : ((o_ringFar x1.toNatClampNeg) - r_3).toInt = (0 : Int) := i_eq.mp c_46
                    exact ok_some trivial
                  · skip
                    have c_46 : ¬ ((o_ringFar x1.toNatClampNeg) - r_3).toInt = (0 : Int) := fun z => c_46 (i_eq.mpr z)
                    refine ok_ite (fun c_47 => ?_) (fun c_47 => ?_)
                    · skip
                      have c_47 : ((o_ringFar x1.toNatClampNeg) - r_3).toInt = (1 : Int) := i_eq.mp c_47
                      exact ok_some trivial
                    · skip
                      have c_47 : ¬ ((o_ringFar x1.toNatClampNeg) - r_3).toInt = (1 : Int) := fun z => c_47 (i_eq.mpr z)
                      exact ok_some trivial
                · skip
                  have c_45 : ¬ (0 : Int) ≤ ((o_ringFar x1.toNatClampNeg) - r_3).toInt := fun z => c_45 (i_le.mpr z)
                  exact ok_some trivial
            · skip
              have c_38 : ¬ (0 : Int) ≤ (o_ringFar x1.toNatClampNeg).toInt := fun z => c_38 (i_le.mpr z)
              unfold f_X7_ringed_B123
              refine ok_ite (fun c_48 => ?_) (fun c_48 => ?_)
              · skip
                exact absurd c_48 (by decide)
              · skip
                exact ok_some trivial
          · skip
            have c_37 : ¬ r_7.toInt < r_3.toInt := fun z => c_37 (i_lt.mpr z)
            exact ok_some trivial
        · skip
          have c_36 : ¬ (o_ringTone x1.toNatClampNeg).toInt = (2 : Int) := fun z => c_36 (i_eq.mpr z)
          unfold f_X7_ringed_B81
          refine ok_chk ix_2 ?_
          refine ok_ite (fun c_49 => ?_) (fun c_49 => ?_)
          · skip
            have c_49 : (0 : Int) ≤ (o_ringFar x1.toNatClampNeg).toInt := i_le.mp c_49
            refine ok_chk ix_2 ?_
            refine ok_ite (fun c_50 => ?_) (fun c_50 => ?_)
            · skip
              have c_50 : (o_ringFar x1.toNatClampNeg).toInt ≤ r_3.toInt := i_le.mp c_50
              refine ok_chk ix_2 ?_
              first | (have f_51 : (r_3 - (o_ringFar x1.toNatClampNeg)).toInt = r_3.toInt - (o_ringFar x1.toNatClampNeg).toInt := i_sub2 rfl rfl (by omega) (by omega)) | skip
              unfold f_X7_ringed_B123
              refine ok_ite (fun c_52 => ?_) (fun c_52 => ?_)
              · skip
                have c_52 : (0 : Int) ≤ (r_3 - (o_ringFar x1.toNatClampNeg)).toInt := i_le.mp c_52
                refine ok_ite (fun c_53 => ?_) (fun c_53 => ?_)
                · skip
                  have c_53 : (r_3 - (o_ringFar x1.toNatClampNeg)).toInt = (0 : Int) := i_eq.mp c_53
                  exact ok_some trivial
                · skip
                  have c_53 : ¬ (r_3 - (o_ringFar x1.toNatClampNeg)).toInt = (0 : Int) := fun z => c_53 (i_eq.mpr z)
                  refine ok_ite (fun c_54 => ?_) (fun c_54 => ?_)
                  · skip
                    have c_54 : (r_3 - (o_ringFar x1.toNatClampNeg)).toInt = (1 : Int) := i_eq.mp c_54
                    exact ok_some trivial
                  · skip
                    have c_54 : ¬ (r_3 - (o_ringFar x1.toNatClampNeg)).toInt = (1 : Int) := fun z => c_54 (i_eq.mpr z)
                    exact ok_some trivial
              · skip
                have c_52 : ¬ (0 : Int) ≤ (r_3 - (o_ringFar x1.toNatClampNeg)).toInt := fun z => c_52 (i_le.mpr z)
                exact ok_some trivial
            · skip
              have c_50 : ¬ (o_ringFar x1.toNatClampNeg).toInt ≤ r_3.toInt := fun z => c_50 (i_le.mpr z)
              refine ok_chk ix_2 ?_
              first | (have f_55 : ((o_ringFar x1.toNatClampNeg) - r_3).toInt = (o_ringFar x1.toNatClampNeg).toInt - r_3.toInt := i_sub2 rfl rfl (by omega) (by omega)) | skip
              unfold f_X7_ringed_B123
              refine ok_ite (fun c_56 => ?_) (fun c_56 => ?_)
              · skip
                have c_56 : (0 : Int) ≤ ((o_ringFar x1.toNatClampNeg) - r_3).toInt := i_le.mp c_56
                refine ok_ite (fun c_57 => ?_) (fun c_57 => ?_)
                · skip
                  have c_57 : ((o_ringFar x1.toNatClampNeg) - r_3).toInt = (0 : Int) := i_eq.mp c_57
                  exact ok_some trivial
                · skip
                  have c_57 : ¬ ((o_ringFar x1.toNatClampNeg) - r_3).toInt = (0 : Int) := fun z => c_57 (i_eq.mpr z)
                  refine ok_ite (fun c_58 => ?_) (fun c_58 => ?_)
                  · skip
                    have c_58 : ((o_ringFar x1.toNatClampNeg) - r_3).toInt = (1 : Int) := i_eq.mp c_58
                    exact ok_some trivial
                  · skip
                    have c_58 : ¬ ((o_ringFar x1.toNatClampNeg) - r_3).toInt = (1 : Int) := fun z => c_58 (i_eq.mpr z)
                    exact ok_some trivial
              · skip
                have c_56 : ¬ (0 : Int) ≤ ((o_ringFar x1.toNatClampNeg) - r_3).toInt := fun z => c_56 (i_le.mpr z)
                exact ok_some trivial
          · skip
            have c_49 : ¬ (0 : Int) ≤ (o_ringFar x1.toNatClampNeg).toInt := fun z => c_49 (i_le.mpr z)
            unfold f_X7_ringed_B123
            refine ok_ite (fun c_59 => ?_) (fun c_59 => ?_)
            · skip
              exact absurd c_59 (by decide)
            · skip
              exact ok_some trivial
    · skip
      have c_9 : ¬ o_noTones.toInt = (0 : Int) := fun z => c_9 (i_eq.mpr z)
      unfold f_X7_ringed_B55
      refine ok_ite (fun c_60 => ?_) (fun c_60 => ?_)
      · skip
        exact absurd c_60 (by decide)
      · skip
        unfold f_X7_ringed_B68
        refine ok_ite (fun c_61 => ?_) (fun c_61 => ?_)
        · skip
          exact absurd c_61 (by decide)
        · skip
          unfold f_X7_ringed_B81
          refine ok_chk ix_2 ?_
          refine ok_ite (fun c_62 => ?_) (fun c_62 => ?_)
          · skip
            have c_62 : (0 : Int) ≤ (o_ringFar x1.toNatClampNeg).toInt := i_le.mp c_62
            refine ok_chk ix_2 ?_
            refine ok_ite (fun c_63 => ?_) (fun c_63 => ?_)
            · skip
              have c_63 : (o_ringFar x1.toNatClampNeg).toInt ≤ r_3.toInt := i_le.mp c_63
              refine ok_chk ix_2 ?_
              first | (have f_64 : (r_3 - (o_ringFar x1.toNatClampNeg)).toInt = r_3.toInt - (o_ringFar x1.toNatClampNeg).toInt := i_sub2 rfl rfl (by omega) (by omega)) | skip
              unfold f_X7_ringed_B123
              refine ok_ite (fun c_65 => ?_) (fun c_65 => ?_)
              · skip
                have c_65 : (0 : Int) ≤ (r_3 - (o_ringFar x1.toNatClampNeg)).toInt := i_le.mp c_65
                refine ok_ite (fun c_66 => ?_) (fun c_66 => ?_)
                · skip
                  have c_66 : (r_3 - (o_ringFar x1.toNatClampNeg)).toInt = (0 : Int) := i_eq.mp c_66
                  exact ok_some trivial
                · skip
                  have c_66 : ¬ (r_3 - (o_ringFar x1.toNatClampNeg)).toInt = (0 : Int) := fun z => c_66 (i_eq.mpr z)
                  refine ok_ite (fun c_67 => ?_) (fun c_67 => ?_)
                  · skip
                    have c_67 : (r_3 - (o_ringFar x1.toNatClampNeg)).toInt = (1 : Int) := i_eq.mp c_67
                    exact ok_some trivial
                  · skip
                    have c_67 : ¬ (r_3 - (o_ringFar x1.toNatClampNeg)).toInt = (1 : Int) := fun z => c_67 (i_eq.mpr z)
                    exact ok_some trivial
              · skip
                have c_65 : ¬ (0 : Int) ≤ (r_3 - (o_ringFar x1.toNatClampNeg)).toInt := fun z => c_65 (i_le.mpr z)
                exact ok_some trivial
            · skip
              have c_63 : ¬ (o_ringFar x1.toNatClampNeg).toInt ≤ r_3.toInt := fun z => c_63 (i_le.mpr z)
              refine ok_chk ix_2 ?_
              first | (have f_68 : ((o_ringFar x1.toNatClampNeg) - r_3).toInt = (o_ringFar x1.toNatClampNeg).toInt - r_3.toInt := i_sub2 rfl rfl (by omega) (by omega)) | skip
              unfold f_X7_ringed_B123
              refine ok_ite (fun c_69 => ?_) (fun c_69 => ?_)
              · skip
                have c_69 : (0 : Int) ≤ ((o_ringFar x1.toNatClampNeg) - r_3).toInt := i_le.mp c_69
                refine ok_ite (fun c_70 => ?_) (fun c_70 => ?_)
                · skip
                  have c_70 : ((o_ringFar x1.toNatClampNeg) - r_3).toInt = (0 : Int) := i_eq.mp c_70
                  exact ok_some trivial
                · skip
                  have c_70 : ¬ ((o_ringFar x1.toNatClampNeg) - r_3).toInt = (0 : Int) := fun z => c_70 (i_eq.mpr z)
                  refine ok_ite (fun c_71 => ?_) (fun c_71 => ?_)
                  · skip
                    have c_71 : ((o_ringFar x1.toNatClampNeg) - r_3).toInt = (1 : Int) := i_eq.mp c_71
                    exact ok_some trivial
                  · skip
                    have c_71 : ¬ ((o_ringFar x1.toNatClampNeg) - r_3).toInt = (1 : Int) := fun z => c_71 (i_eq.mpr z)
                    exact ok_some trivial
              · skip
                have c_69 : ¬ (0 : Int) ≤ ((o_ringFar x1.toNatClampNeg) - r_3).toInt := fun z => c_69 (i_le.mpr z)
                exact ok_some trivial
          · skip
            have c_62 : ¬ (0 : Int) ≤ (o_ringFar x1.toNatClampNeg).toInt := fun z => c_62 (i_le.mpr z)
            unfold f_X7_ringed_B123
            refine ok_ite (fun c_72 => ?_) (fun c_72 => ?_)
            · skip
              exact absurd c_72 (by decide)
            · skip
              exact ok_some trivial
set_option maxRecDepth 100000 in
set_option maxHeartbeats 4000000 in
theorem s_X7_goes (o_level : Int32) (o_noRings : Int32) (o_noTones : Int32) (o_noFuel : Int32) (o_sets : Nat → Int32) (o_ringFar : Nat → Int32) (o_ringTone : Nat → Int32) (o_code : Nat → Int32) (o_cellAt : Nat → Int32) (o_courseAt : Nat → Int32) (o_paceAt : Nat → Int32) (o_turnsAt : Nat → Int32) (o_slowAt : Nat → Int32) (o_fuelAt : Nat → Int32) (o_ringAt : Nat → Int32) (cA : Nat → Int32) (h0 : SetOK o_sets) (h1 : o_cellAt = cA) (h2 : 0 ≤ o_level.toInt) (h3 : o_level.toInt < (o_sets 2).toInt) (h4 : 0 ≤ (cA o_level.toNatClampNeg).toInt) (h5 : (cA o_level.toNatClampNeg).toInt ≤ 99) : okP (f_X7_goes o_level o_noRings o_noTones o_noFuel o_sets o_ringFar o_ringTone o_code o_cellAt o_courseAt o_paceAt o_turnsAt o_slowAt o_fuelAt o_ringAt) (fun u => (∀ j : Nat, (j : Int) ≤ o_level.toInt → u.2.1 j = cA j) ∧ (u.1.toInt = 0 ∨ (u.1.toInt = 1 ∧ 0 ≤ (u.2.1 (o_level.toNatClampNeg + 1)).toInt ∧ (u.2.1 (o_level.toNatClampNeg + 1)).toInt ≤ 99))) := by
  obtain ⟨s0a, s0b, s1a, s1b, s2a, s2b, s3a, s3b, s4a, s4b, s5a, s5b, s6a, s6b, s7a, s7b⟩ := id h0
  have b208 : ∀ (v1 : Int32) (v3 : Int32) (v4 : Int32) (v5 : Int32) (v6 : Int32) (v7 : Int32) (v8 : Int32) (o_cellAt : Nat → Int32) (o_courseAt : Nat → Int32) (o_paceAt : Nat → Int32) (o_turnsAt : Nat → Int32) (o_slowAt : Nat → Int32) (o_fuelAt : Nat → Int32) (o_ringAt : Nat → Int32), (v1 = o_level) → (o_cellAt = cA) → (0 ≤ (v8).toInt) → ((v8).toInt ≤ 99) → okP (f_X7_goes_B208 v1 v3 v4 v5 v6 v7 v8 o_level o_noRings o_noTones o_noFuel o_sets o_ringFar o_ringTone o_code o_cellAt o_courseAt o_paceAt o_turnsAt o_slowAt o_fuelAt o_ringAt) (fun u => (∀ j : Nat, (j : Int) ≤ o_level.toInt → u.2.1 j = cA j) ∧ (u.1.toInt = 0 ∨ (u.1.toInt = 1 ∧ 0 ≤ (u.2.1 (o_level.toNatClampNeg + 1)).toInt ∧ (u.2.1 (o_level.toNatClampNeg + 1)).toInt ≤ 99))) := by
    intro v1 v3 v4 v5 v6 v7 v8 o_cellAt o_courseAt o_paceAt o_turnsAt o_slowAt o_fuelAt o_ringAt e208_0 e208_1 e208_2 e208_3
    unfold f_X7_goes_B208
    subst v1
    subst o_cellAt
    have ix_1 : ¬ (o_level < 0 ∨ 7 ≤ o_level.toNatClampNeg) := ix (show 0 ≤ o_level.toInt by omega) (show o_level.toInt < (7 : Nat) by omega)
    refine ok_chk ix_1 ?_
    refine ok_chk ix_1 ?_
    first | (have f_2 : (o_level + 1).toInt = o_level.toInt + (1 : Int) := i_add2 rfl rfl (by omega) (by omega)) | skip
    have ix_3 : ¬ ((o_level + 1) < 0 ∨ 7 ≤ (o_level + 1).toNatClampNeg) := ix (show 0 ≤ (o_level + 1).toInt by omega) (show (o_level + 1).toInt < (7 : Nat) by omega)
    refine ok_chk ix_3 ?_
    refine ok_chk ix_3 ?_
    refine ok_chk ix_3 ?_
    refine ok_chk ix_3 ?_
    refine ok_chk ix_1 ?_
    have hr1 : ((upd cA (o_level + 1).toNatClampNeg v8) (o_level + 1).toNatClampNeg).toInt = _ := congrArg Int32.toInt upd_is
    have hr2 : ((upd cA (o_level + 1).toNatClampNeg v8) ((o_level + 1) - 1).toNatClampNeg).toInt = (cA o_level.toNatClampNeg).toInt := by rw [clm (by omega) (by omega), upd_no (by rw [cl1 (by omega) (by omega)]; omega)]
    have hr3 : ((upd cA (o_level + 1).toNatClampNeg v8) (o_level.toNatClampNeg + 1)).toInt = ((upd cA (o_level + 1).toNatClampNeg v8) (o_level + 1).toNatClampNeg).toInt := by rw [cl1 (by omega) (by omega)]
    refine ok_bd1 (s_X7_ringed (o_level + 1) o_noRings o_noTones o_sets o_ringFar o_ringTone (upd cA (o_level + 1).toNatClampNeg v8) (show 1 ≤ ((o_level + 1)).toInt by first | omega | exact fun j hj => rfl | exact fun j hj => by subst_vars; rfl | exact fun j hj => upd_no (by rw [cl1 (by omega) (by omega), i_cl]; omega)) (show ((o_level + 1)).toInt ≤ 6 by first | omega | exact fun j hj => rfl | exact fun j hj => by subst_vars; rfl | exact fun j hj => upd_no (by rw [cl1 (by omega) (by omega), i_cl]; omega)) (by first | with_reducible assumption | with_reducible rfl | exact fun j hj => rfl | exact fun j hj => by subst_vars; rfl | exact fun j hj => upd_no (by rw [cl1 (by omega) (by omega), i_cl]; omega) | omega) (by first | with_reducible assumption | with_reducible rfl | exact fun j hj => rfl | exact fun j hj => by subst_vars; rfl | exact fun j hj => upd_no (by rw [cl1 (by omega) (by omega), i_cl]; omega) | omega) (by first | with_reducible assumption | with_reducible rfl | exact fun j hj => rfl | exact fun j hj => by subst_vars; rfl | exact fun j hj => upd_no (by rw [cl1 (by omega) (by omega), i_cl]; omega) | omega) (by first | with_reducible assumption | with_reducible rfl | exact fun j hj => rfl | exact fun j hj => by subst_vars; rfl | exact fun j hj => upd_no (by rw [cl1 (by omega) (by omega), i_cl]; omega) | omega) (by first | with_reducible assumption | with_reducible rfl | exact fun j hj => rfl | exact fun j hj => by subst_vars; rfl | exact fun j hj => upd_no (by rw [cl1 (by omega) (by omega), i_cl]; omega) | omega)) (fun r_4 q_5 => ?_)
    refine ok_nmi (fun x_6 hx_6 kx_6 => ?_)
    refine ok_chk ix_3 ?_
    refine ok_chk ix_3 ?_
    have up_7 : ((upd o_ringAt (o_level + 1).toNatClampNeg x_6) (o_level + 1).toNatClampNeg).toInt = x_6.toInt := congrArg Int32.toInt upd_is
    refine ok_ite (fun c_8 => ?_) (fun c_8 => ?_)
    · skip
      have c_8 : ((upd o_ringAt (o_level + 1).toNatClampNeg x_6) (o_level + 1).toNatClampNeg).toInt ≤ (0 : Int) := i_le.mp c_8
      exact ok_some (show (∀ j : Nat, (j : Int) ≤ o_level.toInt → (upd cA (o_level + 1).toNatClampNeg v8) j = cA j) ∧ ((0 : Int) = 0 ∨ ((0 : Int) = 1 ∧ 0 ≤ ((upd cA (o_level + 1).toNatClampNeg v8) (o_level.toNatClampNeg + 1)).toInt ∧ ((upd cA (o_level + 1).toNatClampNeg v8) (o_level.toNatClampNeg + 1)).toInt ≤ 99)) from ⟨by first | with_reducible assumption | with_reducible rfl | exact fun j hj => rfl | exact fun j hj => by subst_vars; rfl | exact fun j hj => upd_no (by rw [cl1 (by omega) (by omega), i_cl]; omega) | omega, by first | with_reducible assumption | with_reducible rfl | exact fun j hj => rfl | exact fun j hj => by subst_vars; rfl | exact fun j hj => upd_no (by rw [cl1 (by omega) (by omega), i_cl]; omega) | omega⟩)
    · skip
      have c_8 : ¬ ((upd o_ringAt (o_level + 1).toNatClampNeg x_6) (o_level + 1).toNatClampNeg).toInt ≤ (0 : Int) := fun z => c_8 (i_le.mpr z)
      exact ok_some (show (∀ j : Nat, (j : Int) ≤ o_level.toInt → (upd cA (o_level + 1).toNatClampNeg v8) j = cA j) ∧ ((1 : Int) = 0 ∨ ((1 : Int) = 1 ∧ 0 ≤ ((upd cA (o_level + 1).toNatClampNeg v8) (o_level.toNatClampNeg + 1)).toInt ∧ ((upd cA (o_level + 1).toNatClampNeg v8) (o_level.toNatClampNeg + 1)).toInt ≤ 99)) from ⟨by first | with_reducible assumption | with_reducible rfl | exact fun j hj => rfl | exact fun j hj => by subst_vars; rfl | exact fun j hj => upd_no (by rw [cl1 (by omega) (by omega), i_cl]; omega) | omega, by first | with_reducible assumption | with_reducible rfl | exact fun j hj => rfl | exact fun j hj => by subst_vars; rfl | exact fun j hj => upd_no (by rw [cl1 (by omega) (by omega), i_cl]; omega) | omega⟩)
  have b125 : ∀ (v1 : Int32) (v3 : Int32) (v4 : Int32) (v5 : Int32) (v6 : Int32) (o_cellAt : Nat → Int32) (o_courseAt : Nat → Int32) (o_paceAt : Nat → Int32) (o_turnsAt : Nat → Int32) (o_slowAt : Nat → Int32) (o_fuelAt : Nat → Int32) (o_ringAt : Nat → Int32), (v1 = o_level) → (o_cellAt = cA) → okP (f_X7_goes_B125 v1 v3 v4 v5 v6 o_level o_noRings o_noTones o_noFuel o_sets o_ringFar o_ringTone o_code o_cellAt o_courseAt o_paceAt o_turnsAt o_slowAt o_fuelAt o_ringAt) (fun u => (∀ j : Nat, (j : Int) ≤ o_level.toInt → u.2.1 j = cA j) ∧ (u.1.toInt = 0 ∨ (u.1.toInt = 1 ∧ 0 ≤ (u.2.1 (o_level.toNatClampNeg + 1)).toInt ∧ (u.2.1 (o_level.toNatClampNeg + 1)).toInt ≤ 99))) := by
    intro v1 v3 v4 v5 v6 o_cellAt o_courseAt o_paceAt o_turnsAt o_slowAt o_fuelAt o_ringAt e125_0 e125_1
    unfold f_X7_goes_B125
    subst v1
    subst o_cellAt
    refine ok_ite (fun c_9 => ?_) (fun c_9 => ?_)
    · skip
      have c_9 : (o_sets 3).toInt < v3.toInt := i_lt.mp c_9
      exact ok_some (show (∀ j : Nat, (j : Int) ≤ o_level.toInt → cA j = cA j) ∧ ((0 : Int) = 0 ∨ ((0 : Int) = 1 ∧ 0 ≤ (cA (o_level.toNatClampNeg + 1)).toInt ∧ (cA (o_level.toNatClampNeg + 1)).toInt ≤ 99)) from ⟨by first | with_reducible assumption | with_reducible rfl | exact fun j hj => rfl | exact fun j hj => by subst_vars; rfl | exact fun j hj => upd_no (by rw [cl1 (by omega) (by omega), i_cl]; omega) | omega, by first | omega | exact fun j hj => rfl | exact fun j hj => by subst_vars; rfl | exact fun j hj => upd_no (by rw [cl1 (by omega) (by omega), i_cl]; omega)⟩)
    · skip
      have c_9 : ¬ (o_sets 3).toInt < v3.toInt := fun z => c_9 (i_lt.mpr z)
      refine ok_ite (fun c_10 => ?_) (fun c_10 => ?_)
      · skip
        have c_10 : (o_sets 4).toInt < v4.toInt := i_lt.mp c_10
        exact ok_some (show (∀ j : Nat, (j : Int) ≤ o_level.toInt → cA j = cA j) ∧ ((0 : Int) = 0 ∨ ((0 : Int) = 1 ∧ 0 ≤ (cA (o_level.toNatClampNeg + 1)).toInt ∧ (cA (o_level.toNatClampNeg + 1)).toInt ≤ 99)) from ⟨by first | with_reducible assumption | with_reducible rfl | exact fun j hj => rfl | exact fun j hj => by subst_vars; rfl | exact fun j hj => upd_no (by rw [cl1 (by omega) (by omega), i_cl]; omega) | omega, by first | omega | exact fun j hj => rfl | exact fun j hj => by subst_vars; rfl | exact fun j hj => upd_no (by rw [cl1 (by omega) (by omega), i_cl]; omega)⟩)
      · skip
        have c_10 : ¬ (o_sets 4).toInt < v4.toInt := fun z => c_10 (i_lt.mpr z)
        refine ok_ite (fun c_11 => ?_) (fun c_11 => ?_)
        · skip
          have c_11 : (1 : Int) ≤ v6.toInt := i_le.mp c_11
          have ix_12 : ¬ (o_level < 0 ∨ 7 ≤ o_level.toNatClampNeg) := ix (show 0 ≤ o_level.toInt by omega) (show o_level.toInt < (7 : Nat) by omega)
          refine ok_chk ix_12 ?_
          first | (have f_13 : ((o_fuelAt o_level.toNatClampNeg) + (v6 * v6)).toInt = (o_fuelAt o_level.toNatClampNeg).toInt + (v6 * v6).toInt := i_add2 rfl rfl (by omega) (by omega)) | skip
          refine ok_nmi (fun x_14 hx_14 kx_14 => ?_)
          refine ok_chk ix_12 ?_
          refine ok_bd1 (s_X7_gone (cA o_level.toNatClampNeg) v5 v6) (fun r_15 q_16 => ?_)
          replace q_16 : r_15.toInt = -4 ∨ (0 ≤ r_15.toInt ∧ r_15.toInt ≤ 99) := q_16
          refine ok_ite (fun c_17 => ?_) (fun c_17 => ?_)
          · skip
            have c_17 : r_15.toInt < (0 : Int) := i_lt.mp c_17
            exact ok_some (show (∀ j : Nat, (j : Int) ≤ o_level.toInt → cA j = cA j) ∧ ((0 : Int) = 0 ∨ ((0 : Int) = 1 ∧ 0 ≤ (cA (o_level.toNatClampNeg + 1)).toInt ∧ (cA (o_level.toNatClampNeg + 1)).toInt ≤ 99)) from ⟨by first | with_reducible assumption | with_reducible rfl | exact fun j hj => rfl | exact fun j hj => by subst_vars; rfl | exact fun j hj => upd_no (by rw [cl1 (by omega) (by omega), i_cl]; omega) | omega, by first | omega | exact fun j hj => rfl | exact fun j hj => by subst_vars; rfl | exact fun j hj => upd_no (by rw [cl1 (by omega) (by omega), i_cl]; omega)⟩)
          · skip
            have c_17 : ¬ r_15.toInt < (0 : Int) := fun z => c_17 (i_lt.mpr z)
            refine ok_ite (fun c_18 => ?_) (fun c_18 => ?_)
            · skip
              have c_18 : o_noFuel.toInt = (0 : Int) := i_eq.mp c_18
              refine ok_ite (fun c_19 => ?_) (fun c_19 => ?_)
              · skip
                have c_19 : x_14.toInt ≤ (o_sets 5).toInt := i_le.mp c_19
                exact b208 o_level v3 v4 v5 v6 x_14 r_15 cA o_courseAt o_paceAt o_turnsAt o_slowAt o_fuelAt o_ringAt (by first | with_reducible assumption | with_reducible rfl | exact fun j hj => rfl | exact fun j hj => by subst_vars; rfl | exact fun j hj => upd_no (by rw [cl1 (by omega) (by omega), i_cl]; omega) | omega) (by first | with_reducible assumption | with_reducible rfl | exact fun j hj => rfl | exact fun j hj => by subst_vars; rfl | exact fun j hj => upd_no (by rw [cl1 (by omega) (by omega), i_cl]; omega) | omega) (show 0 ≤ (r_15).toInt by first | omega | exact fun j hj => rfl | exact fun j hj => by subst_vars; rfl | exact fun j hj => upd_no (by rw [cl1 (by omega) (by omega), i_cl]; omega)) (show (r_15).toInt ≤ 99 by first | omega | exact fun j hj => rfl | exact fun j hj => by subst_vars; rfl | exact fun j hj => upd_no (by rw [cl1 (by omega) (by omega), i_cl]; omega))
              · skip
                have c_19 : ¬ x_14.toInt ≤ (o_sets 5).toInt := fun z => c_19 (i_le.mpr z)
                exact ok_some (show (∀ j : Nat, (j : Int) ≤ o_level.toInt → cA j = cA j) ∧ ((0 : Int) = 0 ∨ ((0 : Int) = 1 ∧ 0 ≤ (cA (o_level.toNatClampNeg + 1)).toInt ∧ (cA (o_level.toNatClampNeg + 1)).toInt ≤ 99)) from ⟨by first | with_reducible assumption | with_reducible rfl | exact fun j hj => rfl | exact fun j hj => by subst_vars; rfl | exact fun j hj => upd_no (by rw [cl1 (by omega) (by omega), i_cl]; omega) | omega, by first | omega | exact fun j hj => rfl | exact fun j hj => by subst_vars; rfl | exact fun j hj => upd_no (by rw [cl1 (by omega) (by omega), i_cl]; omega)⟩)
            · skip
              have c_18 : ¬ o_noFuel.toInt = (0 : Int) := fun z => c_18 (i_eq.mpr z)
              exact b208 o_level v3 v4 v5 v6 x_14 r_15 cA o_courseAt o_paceAt o_turnsAt o_slowAt o_fuelAt o_ringAt (by first | with_reducible assumption | with_reducible rfl | exact fun j hj => rfl | exact fun j hj => by subst_vars; rfl | exact fun j hj => upd_no (by rw [cl1 (by omega) (by omega), i_cl]; omega) | omega) (by first | with_reducible assumption | with_reducible rfl | exact fun j hj => rfl | exact fun j hj => by subst_vars; rfl | exact fun j hj => upd_no (by rw [cl1 (by omega) (by omega), i_cl]; omega) | omega) (show 0 ≤ (r_15).toInt by first | omega | exact fun j hj => rfl | exact fun j hj => by subst_vars; rfl | exact fun j hj => upd_no (by rw [cl1 (by omega) (by omega), i_cl]; omega)) (show (r_15).toInt ≤ 99 by first | omega | exact fun j hj => rfl | exact fun j hj => by subst_vars; rfl | exact fun j hj => upd_no (by rw [cl1 (by omega) (by omega), i_cl]; omega))
        · skip
          have c_11 : ¬ (1 : Int) ≤ v6.toInt := fun z => c_11 (i_le.mpr z)
          exact ok_some (show (∀ j : Nat, (j : Int) ≤ o_level.toInt → cA j = cA j) ∧ ((0 : Int) = 0 ∨ ((0 : Int) = 1 ∧ 0 ≤ (cA (o_level.toNatClampNeg + 1)).toInt ∧ (cA (o_level.toNatClampNeg + 1)).toInt ≤ 99)) from ⟨by first | with_reducible assumption | with_reducible rfl | exact fun j hj => rfl | exact fun j hj => by subst_vars; rfl | exact fun j hj => upd_no (by rw [cl1 (by omega) (by omega), i_cl]; omega) | omega, by first | omega | exact fun j hj => rfl | exact fun j hj => by subst_vars; rfl | exact fun j hj => upd_no (by rw [cl1 (by omega) (by omega), i_cl]; omega)⟩)
  unfold f_X7_goes
  have ix_20 : ¬ (o_level < 0 ∨ 7 ≤ o_level.toNatClampNeg) := ix (show 0 ≤ o_level.toInt by omega) (show o_level.toInt < (7 : Nat) by omega)
  refine ok_chk ix_20 ?_
  refine ok_nmi (fun x_21 hx_21 kx_21 => ?_)
  refine ok_chk ix_20 ?_
  refine ok_nmi (fun x_22 hx_22 kx_22 => ?_)
  refine ok_chk ix_20 ?_
  refine ok_nmi (fun x_23 hx_23 kx_23 => ?_)
  refine ok_ite (fun c_24 => ?_) (fun c_24 => ?_)
  · skip
    have c_24 : o_level.toInt = (0 : Int) := i_eq.mp c_24
    first | (have f_25 : (x_21 / 3).toInt = x_21.toInt / (3 : Int) := i_div2 rfl rfl (by omega) (by omega)) | skip
    unfold f_X7_goes_B45
    refine ok_ite (fun c_26 => ?_) (fun c_26 => ?_)
    · skip
      have c_26 : o_level.toInt = (0 : Int) := i_eq.mp c_26
      first | (have f_27 : (x_21 - x_21 / 3 * 3).toInt = x_21.toInt % (3 : Int) := i_rem2 rfl rfl (by omega) (by omega)) | skip
      first | (have f_28 : ((x_21 - x_21 / 3 * 3) + 1).toInt = (x_21 - x_21 / 3 * 3).toInt + (1 : Int) := i_add2 rfl rfl (by omega) (by omega)) | skip
      unfold f_X7_goes_B67
      refine ok_ite (fun c_29 => ?_) (fun c_29 => ?_)
      · skip
        have c_29 : o_level.toInt ≤ (0 : Int) := i_le.mp c_29
        exact b125 o_level x_22 x_23 (x_21 / 3) ((x_21 - x_21 / 3 * 3) + 1) o_cellAt o_courseAt o_paceAt o_turnsAt o_slowAt o_fuelAt o_ringAt (by first | with_reducible assumption | with_reducible rfl | exact fun j hj => rfl | exact fun j hj => by subst_vars; rfl | exact fun j hj => upd_no (by rw [cl1 (by omega) (by omega), i_cl]; omega) | omega) (by first | with_reducible assumption | with_reducible rfl | exact fun j hj => rfl | exact fun j hj => by subst_vars; rfl | exact fun j hj => upd_no (by rw [cl1 (by omega) (by omega), i_cl]; omega) | omega)
      · skip
        have c_29 : ¬ o_level.toInt ≤ (0 : Int) := fun z => c_29 (i_le.mpr z)
        refine ok_ite (fun c_30 => ?_) (fun c_30 => ?_)
        · skip
          have c_30 : x_21.toInt ≤ (1 : Int) := i_le.mp c_30
          unfold f_X7_goes_B83
          refine ok_ite (fun c_31 => ?_) (fun c_31 => ?_)
          · skip
            unfold f_X7_goes_B112
            first | (have f_32 : (x_21 - x_21 / 2 * 2).toInt = x_21.toInt % (2 : Int) := i_rem2 rfl rfl (by omega) (by omega)) | skip
            refine ok_ite (fun c_33 => ?_) (fun c_33 => ?_)
            · skip
              have c_33 : (x_21 - x_21 / 2 * 2).toInt = (1 : Int) := i_eq.mp c_33
              first | (have f_34 : (x_23 + 1).toInt = x_23.toInt + (1 : Int) := i_add2 rfl rfl (by omega) (by omega)) | skip
              refine ok_nmi (fun x_35 hx_35 kx_35 => ?_)
              first | (have f_36 : (((x_21 - x_21 / 3 * 3) + 1) + (-1)).toInt = ((x_21 - x_21 / 3 * 3) + 1).toInt + (-1 : Int) := i_add2 rfl rfl (by omega) (by omega)) | skip
              refine ok_nmi (fun x_37 hx_37 kx_37 => ?_)
              exact b125 o_level x_22 x_35 (x_21 / 3) x_37 o_cellAt o_courseAt o_paceAt o_turnsAt o_slowAt o_fuelAt o_ringAt (by first | with_reducible assumption | with_reducible rfl | exact fun j hj => rfl | exact fun j hj => by subst_vars; rfl | exact fun j hj => upd_no (by rw [cl1 (by omega) (by omega), i_cl]; omega) | omega) (by first | with_reducible assumption | with_reducible rfl | exact fun j hj => rfl | exact fun j hj => by subst_vars; rfl | exact fun j hj => upd_no (by rw [cl1 (by omega) (by omega), i_cl]; omega) | omega)
            · skip
              have c_33 : ¬ (x_21 - x_21 / 2 * 2).toInt = (1 : Int) := fun z => c_33 (i_eq.mpr z)
              exact b125 o_level x_22 x_23 (x_21 / 3) ((x_21 - x_21 / 3 * 3) + 1) o_cellAt o_courseAt o_paceAt o_turnsAt o_slowAt o_fuelAt o_ringAt (by first | with_reducible assumption | with_reducible rfl | exact fun j hj => rfl | exact fun j hj => by subst_vars; rfl | exact fun j hj => upd_no (by rw [cl1 (by omega) (by omega), i_cl]; omega) | omega) (by first | with_reducible assumption | with_reducible rfl | exact fun j hj => rfl | exact fun j hj => by subst_vars; rfl | exact fun j hj => upd_no (by rw [cl1 (by omega) (by omega), i_cl]; omega) | omega)
          · skip
            exact absurd c_31 (by decide)
        · skip
          have c_30 : ¬ x_21.toInt ≤ (1 : Int) := fun z => c_30 (i_le.mpr z)
          unfold f_X7_goes_B83
          refine ok_ite (fun c_38 => ?_) (fun c_38 => ?_)
          · skip
            exact absurd c_38 (by decide)
          · skip
            first | (have f_39 : (x_21 / 2).toInt = x_21.toInt / (2 : Int) := i_div2 rfl rfl (by omega) (by omega)) | skip
            first | (have f_40 : ((x_21 / 2) - 1).toInt = (x_21 / 2).toInt - (1 : Int) := i_sub2 rfl rfl (by omega) (by omega)) | skip
            refine ok_ite (fun c_41 => ?_) (fun c_41 => ?_)
            · skip
              have c_41 : ((x_21 / 2) - 1).toInt = (x_21 / 3).toInt := i_eq.mp c_41
              exact ok_some (show (∀ j : Nat, (j : Int) ≤ o_level.toInt → o_cellAt j = cA j) ∧ ((0 : Int) = 0 ∨ ((0 : Int) = 1 ∧ 0 ≤ (o_cellAt (o_level.toNatClampNeg + 1)).toInt ∧ (o_cellAt (o_level.toNatClampNeg + 1)).toInt ≤ 99)) from ⟨by first | with_reducible assumption | with_reducible rfl | exact fun j hj => rfl | exact fun j hj => by subst_vars; rfl | exact fun j hj => upd_no (by rw [cl1 (by omega) (by omega), i_cl]; omega) | omega, by first | omega | exact fun j hj => rfl | exact fun j hj => by subst_vars; rfl | exact fun j hj => upd_no (by rw [cl1 (by omega) (by omega), i_cl]; omega)⟩)
            · skip
              have c_41 : ¬ ((x_21 / 2) - 1).toInt = (x_21 / 3).toInt := fun z => c_41 (i_eq.mpr z)
              refine ok_nmi (fun x_42 hx_42 kx_42 => ?_)
              first | (have f_43 : (x_22 + 1).toInt = x_22.toInt + (1 : Int) := i_add2 rfl rfl (by omega) (by omega)) | skip
              refine ok_nmi (fun x_44 hx_44 kx_44 => ?_)
              unfold f_X7_goes_B112
              first | (have f_45 : (x_21 - x_21 / 2 * 2).toInt = x_21.toInt % (2 : Int) := i_rem2 rfl rfl (by omega) (by omega)) | skip
              refine ok_ite (fun c_46 => ?_) (fun c_46 => ?_)
              · skip
                have c_46 : (x_21 - x_21 / 2 * 2).toInt = (1 : Int) := i_eq.mp c_46
                first | (have f_47 : (x_23 + 1).toInt = x_23.toInt + (1 : Int) := i_add2 rfl rfl (by omega) (by omega)) | skip
                refine ok_nmi (fun x_48 hx_48 kx_48 => ?_)
                first | (have f_49 : (((x_21 - x_21 / 3 * 3) + 1) + (-1)).toInt = ((x_21 - x_21 / 3 * 3) + 1).toInt + (-1 : Int) := i_add2 rfl rfl (by omega) (by omega)) | skip
                refine ok_nmi (fun x_50 hx_50 kx_50 => ?_)
                exact b125 o_level x_44 x_48 x_42 x_50 o_cellAt o_courseAt o_paceAt o_turnsAt o_slowAt o_fuelAt o_ringAt (by first | with_reducible assumption | with_reducible rfl | exact fun j hj => rfl | exact fun j hj => by subst_vars; rfl | exact fun j hj => upd_no (by rw [cl1 (by omega) (by omega), i_cl]; omega) | omega) (by first | with_reducible assumption | with_reducible rfl | exact fun j hj => rfl | exact fun j hj => by subst_vars; rfl | exact fun j hj => upd_no (by rw [cl1 (by omega) (by omega), i_cl]; omega) | omega)
              · skip
                have c_46 : ¬ (x_21 - x_21 / 2 * 2).toInt = (1 : Int) := fun z => c_46 (i_eq.mpr z)
                exact b125 o_level x_44 x_23 x_42 ((x_21 - x_21 / 3 * 3) + 1) o_cellAt o_courseAt o_paceAt o_turnsAt o_slowAt o_fuelAt o_ringAt (by first | with_reducible assumption | with_reducible rfl | exact fun j hj => rfl | exact fun j hj => by subst_vars; rfl | exact fun j hj => upd_no (by rw [cl1 (by omega) (by omega), i_cl]; omega) | omega) (by first | with_reducible assumption | with_reducible rfl | exact fun j hj => rfl | exact fun j hj => by subst_vars; rfl | exact fun j hj => upd_no (by rw [cl1 (by omega) (by omega), i_cl]; omega) | omega)
    · skip
      have c_26 : ¬ o_level.toInt = (0 : Int) := fun z => c_26 (i_eq.mpr z)
      first | (have f_51 : (o_level - 1).toInt = o_level.toInt - (1 : Int) := i_sub2 rfl rfl (by omega) (by omega)) | skip
      have ix_52 : ¬ ((o_level - 1) < 0 ∨ 7 ≤ (o_level - 1).toNatClampNeg) := ix (show 0 ≤ (o_level - 1).toInt by omega) (show (o_level - 1).toInt < (7 : Nat) by omega)
      refine ok_chk ix_52 ?_
      unfold f_X7_goes_B67
      refine ok_ite (fun c_53 => ?_) (fun c_53 => ?_)
      · skip
        have c_53 : o_level.toInt ≤ (0 : Int) := i_le.mp c_53
        exact b125 o_level x_22 x_23 (x_21 / 3) (o_paceAt (o_level - 1).toNatClampNeg) o_cellAt o_courseAt o_paceAt o_turnsAt o_slowAt o_fuelAt o_ringAt (by first | with_reducible assumption | with_reducible rfl | exact fun j hj => rfl | exact fun j hj => by subst_vars; rfl | exact fun j hj => upd_no (by rw [cl1 (by omega) (by omega), i_cl]; omega) | omega) (by first | with_reducible assumption | with_reducible rfl | exact fun j hj => rfl | exact fun j hj => by subst_vars; rfl | exact fun j hj => upd_no (by rw [cl1 (by omega) (by omega), i_cl]; omega) | omega)
      · skip
        have c_53 : ¬ o_level.toInt ≤ (0 : Int) := fun z => c_53 (i_le.mpr z)
        refine ok_ite (fun c_54 => ?_) (fun c_54 => ?_)
        · skip
          have c_54 : x_21.toInt ≤ (1 : Int) := i_le.mp c_54
          unfold f_X7_goes_B83
          refine ok_ite (fun c_55 => ?_) (fun c_55 => ?_)
          · skip
            unfold f_X7_goes_B112
            first | (have f_56 : (x_21 - x_21 / 2 * 2).toInt = x_21.toInt % (2 : Int) := i_rem2 rfl rfl (by omega) (by omega)) | skip
            refine ok_ite (fun c_57 => ?_) (fun c_57 => ?_)
            · skip
              have c_57 : (x_21 - x_21 / 2 * 2).toInt = (1 : Int) := i_eq.mp c_57
              first | (have f_58 : (x_23 + 1).toInt = x_23.toInt + (1 : Int) := i_add2 rfl rfl (by omega) (by omega)) | skip
              refine ok_nmi (fun x_59 hx_59 kx_59 => ?_)
              first | (have f_60 : ((o_paceAt (o_level - 1).toNatClampNeg) + (-1)).toInt = (o_paceAt (o_level - 1).toNatClampNeg).toInt + (-1 : Int) := i_add2 rfl rfl (by omega) (by omega)) | skip
              refine ok_nmi (fun x_61 hx_61 kx_61 => ?_)
              exact b125 o_level x_22 x_59 (x_21 / 3) x_61 o_cellAt o_courseAt o_paceAt o_turnsAt o_slowAt o_fuelAt o_ringAt (by first | with_reducible assumption | with_reducible rfl | exact fun j hj => rfl | exact fun j hj => by subst_vars; rfl | exact fun j hj => upd_no (by rw [cl1 (by omega) (by omega), i_cl]; omega) | omega) (by first | with_reducible assumption | with_reducible rfl | exact fun j hj => rfl | exact fun j hj => by subst_vars; rfl | exact fun j hj => upd_no (by rw [cl1 (by omega) (by omega), i_cl]; omega) | omega)
            · skip
              have c_57 : ¬ (x_21 - x_21 / 2 * 2).toInt = (1 : Int) := fun z => c_57 (i_eq.mpr z)
              exact b125 o_level x_22 x_23 (x_21 / 3) (o_paceAt (o_level - 1).toNatClampNeg) o_cellAt o_courseAt o_paceAt o_turnsAt o_slowAt o_fuelAt o_ringAt (by first | with_reducible assumption | with_reducible rfl | exact fun j hj => rfl | exact fun j hj => by subst_vars; rfl | exact fun j hj => upd_no (by rw [cl1 (by omega) (by omega), i_cl]; omega) | omega) (by first | with_reducible assumption | with_reducible rfl | exact fun j hj => rfl | exact fun j hj => by subst_vars; rfl | exact fun j hj => upd_no (by rw [cl1 (by omega) (by omega), i_cl]; omega) | omega)
          · skip
            exact absurd c_55 (by decide)
        · skip
          have c_54 : ¬ x_21.toInt ≤ (1 : Int) := fun z => c_54 (i_le.mpr z)
          unfold f_X7_goes_B83
          refine ok_ite (fun c_62 => ?_) (fun c_62 => ?_)
          · skip
            exact absurd c_62 (by decide)
          · skip
            first | (have f_63 : (x_21 / 2).toInt = x_21.toInt / (2 : Int) := i_div2 rfl rfl (by omega) (by omega)) | skip
            first | (have f_64 : ((x_21 / 2) - 1).toInt = (x_21 / 2).toInt - (1 : Int) := i_sub2 rfl rfl (by omega) (by omega)) | skip
            refine ok_ite (fun c_65 => ?_) (fun c_65 => ?_)
            · skip
              have c_65 : ((x_21 / 2) - 1).toInt = (x_21 / 3).toInt := i_eq.mp c_65
              exact ok_some (show (∀ j : Nat, (j : Int) ≤ o_level.toInt → o_cellAt j = cA j) ∧ ((0 : Int) = 0 ∨ ((0 : Int) = 1 ∧ 0 ≤ (o_cellAt (o_level.toNatClampNeg + 1)).toInt ∧ (o_cellAt (o_level.toNatClampNeg + 1)).toInt ≤ 99)) from ⟨by first | with_reducible assumption | with_reducible rfl | exact fun j hj => rfl | exact fun j hj => by subst_vars; rfl | exact fun j hj => upd_no (by rw [cl1 (by omega) (by omega), i_cl]; omega) | omega, by first | omega | exact fun j hj => rfl | exact fun j hj => by subst_vars; rfl | exact fun j hj => upd_no (by rw [cl1 (by omega) (by omega), i_cl]; omega)⟩)
            · skip
              have c_65 : ¬ ((x_21 / 2) - 1).toInt = (x_21 / 3).toInt := fun z => c_65 (i_eq.mpr z)
              refine ok_nmi (fun x_66 hx_66 kx_66 => ?_)
              first | (have f_67 : (x_22 + 1).toInt = x_22.toInt + (1 : Int) := i_add2 rfl rfl (by omega) (by omega)) | skip
              refine ok_nmi (fun x_68 hx_68 kx_68 => ?_)
              unfold f_X7_goes_B112
              first | (have f_69 : (x_21 - x_21 / 2 * 2).toInt = x_21.toInt % (2 : Int) := i_rem2 rfl rfl (by omega) (by omega)) | skip
              refine ok_ite (fun c_70 => ?_) (fun c_70 => ?_)
              · skip
                have c_70 : (x_21 - x_21 / 2 * 2).toInt = (1 : Int) := i_eq.mp c_70
                first | (have f_71 : (x_23 + 1).toInt = x_23.toInt + (1 : Int) := i_add2 rfl rfl (by omega) (by omega)) | skip
                refine ok_nmi (fun x_72 hx_72 kx_72 => ?_)
                first | (have f_73 : ((o_paceAt (o_level - 1).toNatClampNeg) + (-1)).toInt = (o_paceAt (o_level - 1).toNatClampNeg).toInt + (-1 : Int) := i_add2 rfl rfl (by omega) (by omega)) | skip
                refine ok_nmi (fun x_74 hx_74 kx_74 => ?_)
                exact b125 o_level x_68 x_72 x_66 x_74 o_cellAt o_courseAt o_paceAt o_turnsAt o_slowAt o_fuelAt o_ringAt (by first | with_reducible assumption | with_reducible rfl | exact fun j hj => rfl | exact fun j hj => by subst_vars; rfl | exact fun j hj => upd_no (by rw [cl1 (by omega) (by omega), i_cl]; omega) | omega) (by first | with_reducible assumption | with_reducible rfl | exact fun j hj => rfl | exact fun j hj => by subst_vars; rfl | exact fun j hj => upd_no (by rw [cl1 (by omega) (by omega), i_cl]; omega) | omega)
              · skip
                have c_70 : ¬ (x_21 - x_21 / 2 * 2).toInt = (1 : Int) := fun z => c_70 (i_eq.mpr z)
                exact b125 o_level x_68 x_23 x_66 (o_paceAt (o_level - 1).toNatClampNeg) o_cellAt o_courseAt o_paceAt o_turnsAt o_slowAt o_fuelAt o_ringAt (by first | with_reducible assumption | with_reducible rfl | exact fun j hj => rfl | exact fun j hj => by subst_vars; rfl | exact fun j hj => upd_no (by rw [cl1 (by omega) (by omega), i_cl]; omega) | omega) (by first | with_reducible assumption | with_reducible rfl | exact fun j hj => rfl | exact fun j hj => by subst_vars; rfl | exact fun j hj => upd_no (by rw [cl1 (by omega) (by omega), i_cl]; omega) | omega)
  · skip
    have c_24 : ¬ o_level.toInt = (0 : Int) := fun z => c_24 (i_eq.mpr z)
    first | (have f_75 : (o_level - 1).toInt = o_level.toInt - (1 : Int) := i_sub2 rfl rfl (by omega) (by omega)) | skip
    have ix_76 : ¬ ((o_level - 1) < 0 ∨ 7 ≤ (o_level - 1).toNatClampNeg) := ix (show 0 ≤ (o_level - 1).toInt by omega) (show (o_level - 1).toInt < (7 : Nat) by omega)
    refine ok_chk ix_76 ?_
    unfold f_X7_goes_B45
    refine ok_ite (fun c_77 => ?_) (fun c_77 => ?_)
    · skip
      have c_77 : o_level.toInt = (0 : Int) := i_eq.mp c_77
      first | (have f_78 : (x_21 - x_21 / 3 * 3).toInt = x_21.toInt % (3 : Int) := i_rem2 rfl rfl (by omega) (by omega)) | skip
      first | (have f_79 : ((x_21 - x_21 / 3 * 3) + 1).toInt = (x_21 - x_21 / 3 * 3).toInt + (1 : Int) := i_add2 rfl rfl (by omega) (by omega)) | skip
      unfold f_X7_goes_B67
      refine ok_ite (fun c_80 => ?_) (fun c_80 => ?_)
      · skip
        have c_80 : o_level.toInt ≤ (0 : Int) := i_le.mp c_80
        exact b125 o_level x_22 x_23 (o_courseAt (o_level - 1).toNatClampNeg) ((x_21 - x_21 / 3 * 3) + 1) o_cellAt o_courseAt o_paceAt o_turnsAt o_slowAt o_fuelAt o_ringAt (by first | with_reducible assumption | with_reducible rfl | exact fun j hj => rfl | exact fun j hj => by subst_vars; rfl | exact fun j hj => upd_no (by rw [cl1 (by omega) (by omega), i_cl]; omega) | omega) (by first | with_reducible assumption | with_reducible rfl | exact fun j hj => rfl | exact fun j hj => by subst_vars; rfl | exact fun j hj => upd_no (by rw [cl1 (by omega) (by omega), i_cl]; omega) | omega)
      · skip
        have c_80 : ¬ o_level.toInt ≤ (0 : Int) := fun z => c_80 (i_le.mpr z)
        refine ok_ite (fun c_81 => ?_) (fun c_81 => ?_)
        · skip
          have c_81 : x_21.toInt ≤ (1 : Int) := i_le.mp c_81
          unfold f_X7_goes_B83
          refine ok_ite (fun c_82 => ?_) (fun c_82 => ?_)
          · skip
            unfold f_X7_goes_B112
            first | (have f_83 : (x_21 - x_21 / 2 * 2).toInt = x_21.toInt % (2 : Int) := i_rem2 rfl rfl (by omega) (by omega)) | skip
            refine ok_ite (fun c_84 => ?_) (fun c_84 => ?_)
            · skip
              have c_84 : (x_21 - x_21 / 2 * 2).toInt = (1 : Int) := i_eq.mp c_84
              first | (have f_85 : (x_23 + 1).toInt = x_23.toInt + (1 : Int) := i_add2 rfl rfl (by omega) (by omega)) | skip
              refine ok_nmi (fun x_86 hx_86 kx_86 => ?_)
              first | (have f_87 : (((x_21 - x_21 / 3 * 3) + 1) + (-1)).toInt = ((x_21 - x_21 / 3 * 3) + 1).toInt + (-1 : Int) := i_add2 rfl rfl (by omega) (by omega)) | skip
              refine ok_nmi (fun x_88 hx_88 kx_88 => ?_)
              exact b125 o_level x_22 x_86 (o_courseAt (o_level - 1).toNatClampNeg) x_88 o_cellAt o_courseAt o_paceAt o_turnsAt o_slowAt o_fuelAt o_ringAt (by first | with_reducible assumption | with_reducible rfl | exact fun j hj => rfl | exact fun j hj => by subst_vars; rfl | exact fun j hj => upd_no (by rw [cl1 (by omega) (by omega), i_cl]; omega) | omega) (by first | with_reducible assumption | with_reducible rfl | exact fun j hj => rfl | exact fun j hj => by subst_vars; rfl | exact fun j hj => upd_no (by rw [cl1 (by omega) (by omega), i_cl]; omega) | omega)
            · skip
              have c_84 : ¬ (x_21 - x_21 / 2 * 2).toInt = (1 : Int) := fun z => c_84 (i_eq.mpr z)
              exact b125 o_level x_22 x_23 (o_courseAt (o_level - 1).toNatClampNeg) ((x_21 - x_21 / 3 * 3) + 1) o_cellAt o_courseAt o_paceAt o_turnsAt o_slowAt o_fuelAt o_ringAt (by first | with_reducible assumption | with_reducible rfl | exact fun j hj => rfl | exact fun j hj => by subst_vars; rfl | exact fun j hj => upd_no (by rw [cl1 (by omega) (by omega), i_cl]; omega) | omega) (by first | with_reducible assumption | with_reducible rfl | exact fun j hj => rfl | exact fun j hj => by subst_vars; rfl | exact fun j hj => upd_no (by rw [cl1 (by omega) (by omega), i_cl]; omega) | omega)
          · skip
            exact absurd c_82 (by decide)
        · skip
          have c_81 : ¬ x_21.toInt ≤ (1 : Int) := fun z => c_81 (i_le.mpr z)
          unfold f_X7_goes_B83
          refine ok_ite (fun c_89 => ?_) (fun c_89 => ?_)
          · skip
            exact absurd c_89 (by decide)
          · skip
            first | (have f_90 : (x_21 / 2).toInt = x_21.toInt / (2 : Int) := i_div2 rfl rfl (by omega) (by omega)) | skip
            first | (have f_91 : ((x_21 / 2) - 1).toInt = (x_21 / 2).toInt - (1 : Int) := i_sub2 rfl rfl (by omega) (by omega)) | skip
            refine ok_ite (fun c_92 => ?_) (fun c_92 => ?_)
            · skip
              have c_92 : ((x_21 / 2) - 1).toInt = (o_courseAt (o_level - 1).toNatClampNeg).toInt := i_eq.mp c_92
              exact ok_some (show (∀ j : Nat, (j : Int) ≤ o_level.toInt → o_cellAt j = cA j) ∧ ((0 : Int) = 0 ∨ ((0 : Int) = 1 ∧ 0 ≤ (o_cellAt (o_level.toNatClampNeg + 1)).toInt ∧ (o_cellAt (o_level.toNatClampNeg + 1)).toInt ≤ 99)) from ⟨by first | with_reducible assumption | with_reducible rfl | exact fun j hj => rfl | exact fun j hj => by subst_vars; rfl | exact fun j hj => upd_no (by rw [cl1 (by omega) (by omega), i_cl]; omega) | omega, by first | omega | exact fun j hj => rfl | exact fun j hj => by subst_vars; rfl | exact fun j hj => upd_no (by rw [cl1 (by omega) (by omega), i_cl]; omega)⟩)
            · skip
              have c_92 : ¬ ((x_21 / 2) - 1).toInt = (o_courseAt (o_level - 1).toNatClampNeg).toInt := fun z => c_92 (i_eq.mpr z)
              refine ok_nmi (fun x_93 hx_93 kx_93 => ?_)
              first | (have f_94 : (x_22 + 1).toInt = x_22.toInt + (1 : Int) := i_add2 rfl rfl (by omega) (by omega)) | skip
              refine ok_nmi (fun x_95 hx_95 kx_95 => ?_)
              unfold f_X7_goes_B112
              first | (have f_96 : (x_21 - x_21 / 2 * 2).toInt = x_21.toInt % (2 : Int) := i_rem2 rfl rfl (by omega) (by omega)) | skip
              refine ok_ite (fun c_97 => ?_) (fun c_97 => ?_)
              · skip
                have c_97 : (x_21 - x_21 / 2 * 2).toInt = (1 : Int) := i_eq.mp c_97
                first | (have f_98 : (x_23 + 1).toInt = x_23.toInt + (1 : Int) := i_add2 rfl rfl (by omega) (by omega)) | skip
                refine ok_nmi (fun x_99 hx_99 kx_99 => ?_)
                first | (have f_100 : (((x_21 - x_21 / 3 * 3) + 1) + (-1)).toInt = ((x_21 - x_21 / 3 * 3) + 1).toInt + (-1 : Int) := i_add2 rfl rfl (by omega) (by omega)) | skip
                refine ok_nmi (fun x_101 hx_101 kx_101 => ?_)
                exact b125 o_level x_95 x_99 x_93 x_101 o_cellAt o_courseAt o_paceAt o_turnsAt o_slowAt o_fuelAt o_ringAt (by first | with_reducible assumption | with_reducible rfl | exact fun j hj => rfl | exact fun j hj => by subst_vars; rfl | exact fun j hj => upd_no (by rw [cl1 (by omega) (by omega), i_cl]; omega) | omega) (by first | with_reducible assumption | with_reducible rfl | exact fun j hj => rfl | exact fun j hj => by subst_vars; rfl | exact fun j hj => upd_no (by rw [cl1 (by omega) (by omega), i_cl]; omega) | omega)
              · skip
                have c_97 : ¬ (x_21 - x_21 / 2 * 2).toInt = (1 : Int) := fun z => c_97 (i_eq.mpr z)
                exact b125 o_level x_95 x_23 x_93 ((x_21 - x_21 / 3 * 3) + 1) o_cellAt o_courseAt o_paceAt o_turnsAt o_slowAt o_fuelAt o_ringAt (by first | with_reducible assumption | with_reducible rfl | exact fun j hj => rfl | exact fun j hj => by subst_vars; rfl | exact fun j hj => upd_no (by rw [cl1 (by omega) (by omega), i_cl]; omega) | omega) (by first | with_reducible assumption | with_reducible rfl | exact fun j hj => rfl | exact fun j hj => by subst_vars; rfl | exact fun j hj => upd_no (by rw [cl1 (by omega) (by omega), i_cl]; omega) | omega)
    · skip
      have c_77 : ¬ o_level.toInt = (0 : Int) := fun z => c_77 (i_eq.mpr z)
      refine ok_chk ix_76 ?_
      unfold f_X7_goes_B67
      refine ok_ite (fun c_102 => ?_) (fun c_102 => ?_)
      · skip
        have c_102 : o_level.toInt ≤ (0 : Int) := i_le.mp c_102
        exact b125 o_level x_22 x_23 (o_courseAt (o_level - 1).toNatClampNeg) (o_paceAt (o_level - 1).toNatClampNeg) o_cellAt o_courseAt o_paceAt o_turnsAt o_slowAt o_fuelAt o_ringAt (by first | with_reducible assumption | with_reducible rfl | exact fun j hj => rfl | exact fun j hj => by subst_vars; rfl | exact fun j hj => upd_no (by rw [cl1 (by omega) (by omega), i_cl]; omega) | omega) (by first | with_reducible assumption | with_reducible rfl | exact fun j hj => rfl | exact fun j hj => by subst_vars; rfl | exact fun j hj => upd_no (by rw [cl1 (by omega) (by omega), i_cl]; omega) | omega)
      · skip
        have c_102 : ¬ o_level.toInt ≤ (0 : Int) := fun z => c_102 (i_le.mpr z)
        refine ok_ite (fun c_103 => ?_) (fun c_103 => ?_)
        · skip
          have c_103 : x_21.toInt ≤ (1 : Int) := i_le.mp c_103
          unfold f_X7_goes_B83
          refine ok_ite (fun c_104 => ?_) (fun c_104 => ?_)
          · skip
            unfold f_X7_goes_B112
            first | (have f_105 : (x_21 - x_21 / 2 * 2).toInt = x_21.toInt % (2 : Int) := i_rem2 rfl rfl (by omega) (by omega)) | skip
            refine ok_ite (fun c_106 => ?_) (fun c_106 => ?_)
            · skip
              have c_106 : (x_21 - x_21 / 2 * 2).toInt = (1 : Int) := i_eq.mp c_106
              first | (have f_107 : (x_23 + 1).toInt = x_23.toInt + (1 : Int) := i_add2 rfl rfl (by omega) (by omega)) | skip
              refine ok_nmi (fun x_108 hx_108 kx_108 => ?_)
              first | (have f_109 : ((o_paceAt (o_level - 1).toNatClampNeg) + (-1)).toInt = (o_paceAt (o_level - 1).toNatClampNeg).toInt + (-1 : Int) := i_add2 rfl rfl (by omega) (by omega)) | skip
              refine ok_nmi (fun x_110 hx_110 kx_110 => ?_)
              exact b125 o_level x_22 x_108 (o_courseAt (o_level - 1).toNatClampNeg) x_110 o_cellAt o_courseAt o_paceAt o_turnsAt o_slowAt o_fuelAt o_ringAt (by first | with_reducible assumption | with_reducible rfl | exact fun j hj => rfl | exact fun j hj => by subst_vars; rfl | exact fun j hj => upd_no (by rw [cl1 (by omega) (by omega), i_cl]; omega) | omega) (by first | with_reducible assumption | with_reducible rfl | exact fun j hj => rfl | exact fun j hj => by subst_vars; rfl | exact fun j hj => upd_no (by rw [cl1 (by omega) (by omega), i_cl]; omega) | omega)
            · skip
              have c_106 : ¬ (x_21 - x_21 / 2 * 2).toInt = (1 : Int) := fun z => c_106 (i_eq.mpr z)
              exact b125 o_level x_22 x_23 (o_courseAt (o_level - 1).toNatClampNeg) (o_paceAt (o_level - 1).toNatClampNeg) o_cellAt o_courseAt o_paceAt o_turnsAt o_slowAt o_fuelAt o_ringAt (by first | with_reducible assumption | with_reducible rfl | exact fun j hj => rfl | exact fun j hj => by subst_vars; rfl | exact fun j hj => upd_no (by rw [cl1 (by omega) (by omega), i_cl]; omega) | omega) (by first | with_reducible assumption | with_reducible rfl | exact fun j hj => rfl | exact fun j hj => by subst_vars; rfl | exact fun j hj => upd_no (by rw [cl1 (by omega) (by omega), i_cl]; omega) | omega)
          · skip
            exact absurd c_104 (by decide)
        · skip
          have c_103 : ¬ x_21.toInt ≤ (1 : Int) := fun z => c_103 (i_le.mpr z)
          unfold f_X7_goes_B83
          refine ok_ite (fun c_111 => ?_) (fun c_111 => ?_)
          · skip
            exact absurd c_111 (by decide)
          · skip
            first | (have f_112 : (x_21 / 2).toInt = x_21.toInt / (2 : Int) := i_div2 rfl rfl (by omega) (by omega)) | skip
            first | (have f_113 : ((x_21 / 2) - 1).toInt = (x_21 / 2).toInt - (1 : Int) := i_sub2 rfl rfl (by omega) (by omega)) | skip
            refine ok_ite (fun c_114 => ?_) (fun c_114 => ?_)
            · skip
              have c_114 : ((x_21 / 2) - 1).toInt = (o_courseAt (o_level - 1).toNatClampNeg).toInt := i_eq.mp c_114
              exact ok_some (show (∀ j : Nat, (j : Int) ≤ o_level.toInt → o_cellAt j = cA j) ∧ ((0 : Int) = 0 ∨ ((0 : Int) = 1 ∧ 0 ≤ (o_cellAt (o_level.toNatClampNeg + 1)).toInt ∧ (o_cellAt (o_level.toNatClampNeg + 1)).toInt ≤ 99)) from ⟨by first | with_reducible assumption | with_reducible rfl | exact fun j hj => rfl | exact fun j hj => by subst_vars; rfl | exact fun j hj => upd_no (by rw [cl1 (by omega) (by omega), i_cl]; omega) | omega, by first | omega | exact fun j hj => rfl | exact fun j hj => by subst_vars; rfl | exact fun j hj => upd_no (by rw [cl1 (by omega) (by omega), i_cl]; omega)⟩)
            · skip
              have c_114 : ¬ ((x_21 / 2) - 1).toInt = (o_courseAt (o_level - 1).toNatClampNeg).toInt := fun z => c_114 (i_eq.mpr z)
              refine ok_nmi (fun x_115 hx_115 kx_115 => ?_)
              first | (have f_116 : (x_22 + 1).toInt = x_22.toInt + (1 : Int) := i_add2 rfl rfl (by omega) (by omega)) | skip
              refine ok_nmi (fun x_117 hx_117 kx_117 => ?_)
              unfold f_X7_goes_B112
              first | (have f_118 : (x_21 - x_21 / 2 * 2).toInt = x_21.toInt % (2 : Int) := i_rem2 rfl rfl (by omega) (by omega)) | skip
              refine ok_ite (fun c_119 => ?_) (fun c_119 => ?_)
              · skip
                have c_119 : (x_21 - x_21 / 2 * 2).toInt = (1 : Int) := i_eq.mp c_119
                first | (have f_120 : (x_23 + 1).toInt = x_23.toInt + (1 : Int) := i_add2 rfl rfl (by omega) (by omega)) | skip
                refine ok_nmi (fun x_121 hx_121 kx_121 => ?_)
                first | (have f_122 : ((o_paceAt (o_level - 1).toNatClampNeg) + (-1)).toInt = (o_paceAt (o_level - 1).toNatClampNeg).toInt + (-1 : Int) := i_add2 rfl rfl (by omega) (by omega)) | skip
                refine ok_nmi (fun x_123 hx_123 kx_123 => ?_)
                exact b125 o_level x_117 x_121 x_115 x_123 o_cellAt o_courseAt o_paceAt o_turnsAt o_slowAt o_fuelAt o_ringAt (by first | with_reducible assumption | with_reducible rfl | exact fun j hj => rfl | exact fun j hj => by subst_vars; rfl | exact fun j hj => upd_no (by rw [cl1 (by omega) (by omega), i_cl]; omega) | omega) (by first | with_reducible assumption | with_reducible rfl | exact fun j hj => rfl | exact fun j hj => by subst_vars; rfl | exact fun j hj => upd_no (by rw [cl1 (by omega) (by omega), i_cl]; omega) | omega)
              · skip
                have c_119 : ¬ (x_21 - x_21 / 2 * 2).toInt = (1 : Int) := fun z => c_119 (i_eq.mpr z)
                exact b125 o_level x_117 x_23 x_115 (o_paceAt (o_level - 1).toNatClampNeg) o_cellAt o_courseAt o_paceAt o_turnsAt o_slowAt o_fuelAt o_ringAt (by first | with_reducible assumption | with_reducible rfl | exact fun j hj => rfl | exact fun j hj => by subst_vars; rfl | exact fun j hj => upd_no (by rw [cl1 (by omega) (by omega), i_cl]; omega) | omega) (by first | with_reducible assumption | with_reducible rfl | exact fun j hj => rfl | exact fun j hj => by subst_vars; rfl | exact fun j hj => upd_no (by rw [cl1 (by omega) (by omega), i_cl]; omega) | omega)
set_option maxRecDepth 100000 in
set_option maxHeartbeats 4000000 in
theorem s_X7_heavy (o_sets : Nat → Int32) (o_turnsAt : Nat → Int32) (o_slowAt : Nat → Int32) (o_ringAt : Nat → Int32) (h0 : SetOK o_sets) : okP (f_X7_heavy o_sets o_turnsAt o_slowAt o_ringAt) (fun u => True) := by
  obtain ⟨s0a, s0b, s1a, s1b, s2a, s2b, s3a, s3b, s4a, s4b, s5a, s5b, s6a, s6b, s7a, s7b⟩ := id h0
  have l12 : ∀ (n : Nat) (v1 : Int32) (v2 : Int32) (v3 : Int32), ((o_turnsAt v1.toNatClampNeg).toInt - v3.toInt).toNat < n → (0 ≤ (v1).toInt) → ((v1).toInt ≤ 6) → (0 ≤ v3.toInt) → okP (f_X7_heavy_L12 n v1 v2 v3 o_sets o_turnsAt o_slowAt o_ringAt) (fun u => True) := by
    intro n
    induction n with
    | zero =>
      intro v1 v2 v3 hm
      exact absurd hm (Nat.not_lt_zero _)
    | succ n12 ih12 =>
      intro v1 v2 v3 hm12 g12_0 g12_1 g12_2
      show okP (f_X7_heavy_L12b (f_X7_heavy_L12 n12) v1 v2 v3 o_sets o_turnsAt o_slowAt o_ringAt) (fun u => True)
      unfold f_X7_heavy_L12b
      have hiv := i_hi (o_turnsAt v1.toNatClampNeg)
      have ix_1 : ¬ (v1 < 0 ∨ 7 ≤ v1.toNatClampNeg) := ix (show 0 ≤ v1.toInt by omega) (show v1.toInt < (7 : Nat) by omega)
      refine ok_chk ix_1 ?_
      refine ok_ite (fun c_2 => ?_) (fun c_2 => ?_)
      · skip
        have c_2 : (o_turnsAt v1.toNatClampNeg).toInt ≤ v3.toInt := i_le.mp c_2
        refine ok_chk ix_1 ?_
        refine ok_ite (fun c_3 => ?_) (fun c_3 => ?_)
        · skip
          have c_3 : (o_slowAt v1.toNatClampNeg).toInt ≤ (0 : Int) := i_le.mp c_3
          unfold f_X7_heavy_B47
          refine ok_chk (nzi (show ¬ (1 : Int) = 0 by omega)) ?_
          first | (have f_4 : (v2 / 1).toInt = v2.toInt / (1 : Int) := i_div2 rfl rfl (by omega) (by omega)) | skip
          refine ok_chk ix_1 ?_
          exact ok_some trivial
        · skip
          have c_3 : ¬ (o_slowAt v1.toNatClampNeg).toInt ≤ (0 : Int) := fun z => c_3 (i_le.mpr z)
          unfold f_X7_heavy_B47
          refine ok_chk (nzi (show ¬ (2 : Int) = 0 by omega)) ?_
          first | (have f_5 : (v2 / 2).toInt = v2.toInt / (2 : Int) := i_div2 rfl rfl (by omega) (by omega)) | skip
          refine ok_chk ix_1 ?_
          exact ok_some trivial
      · skip
        have c_2 : ¬ (o_turnsAt v1.toNatClampNeg).toInt ≤ v3.toInt := fun z => c_2 (i_le.mpr z)
        first | (have f_6 : (v2 / 4).toInt = v2.toInt / (4 : Int) := i_div2 rfl rfl (by omega) (by omega)) | skip
        refine ok_nmi (fun x_7 hx_7 kx_7 => ?_)
        first | (have f_8 : (v3 + 1).toInt = v3.toInt + (1 : Int) := i_add2 rfl rfl (by omega) (by omega)) | skip
        refine ok_nmi (fun x_9 hx_9 kx_9 => ?_)
        exact ih12 v1 x_7 x_9 (show ((o_turnsAt v1.toNatClampNeg).toInt - x_9.toInt).toNat < n12 by omega) (show 0 ≤ (v1).toInt by omega) (show (v1).toInt ≤ 6 by omega) (show 0 ≤ x_9.toInt by omega)
  unfold f_X7_heavy
  refine ok_nmi (fun x_10 hx_10 kx_10 => ?_)
  have hiv := i_hi (o_turnsAt x_10.toNatClampNeg)
  exact l12 FU x_10 32 0 (FU_gt (show ((o_turnsAt x_10.toNatClampNeg).toInt - (0 : Int)).toNat < 1000000000000 by omega)) (show 0 ≤ (x_10).toInt by omega) (show (x_10).toInt ≤ 6 by omega) (show 0 ≤ (0 : Int) by omega)
set_option maxRecDepth 100000 in
set_option maxHeartbeats 4000000 in
theorem s_X7_asTold (o_noRings : Int32) (o_noTones : Int32) (o_noFuel : Int32) : okP (f_X7_asTold o_noRings o_noTones o_noFuel) (fun u => True) := by
  unfold f_X7_asTold
  exact ok_some trivial
