set_option maxRecDepth 100000 in
set_option maxHeartbeats 4000000 in
theorem s_X7_cell (x1 : Int32) (x2 : Int32) (x3 : Int32) (x4 : Int32) (o_currents : Nat → Int32) (o_warmths : Nat → Int32) : okP (f_X7_cell x1 x2 x3 x4 o_currents o_warmths) (fun u => ((¬ (0 ≤ x1.toInt ∧ x1.toInt ≤ 1 ∧ 0 ≤ x2.toInt ∧ x2.toInt < 100 ∧ 0 ≤ x3.toInt ∧ x3.toInt ≤ 1 ∧ 0 ≤ x4.toInt ∧ (x3.toInt = 0 → x4.toInt ≤ 8) ∧ (x3.toInt = 1 → x4.toInt ≤ 9)) ∧ u.1.toInt = -1 ∧ u.2.1 = o_currents ∧ u.2.2 = o_warmths) ∨ ((0 ≤ x1.toInt ∧ x1.toInt ≤ 1 ∧ 0 ≤ x2.toInt ∧ x2.toInt < 100 ∧ 0 ≤ x3.toInt ∧ x3.toInt ≤ 1 ∧ 0 ≤ x4.toInt ∧ (x3.toInt = 0 → x4.toInt ≤ 8) ∧ (x3.toInt = 1 → x4.toInt ≤ 9)) ∧ x3.toInt = 0 ∧ u.1 = o_currents ((100 * x1) + x2).toNatClampNeg ∧ u.2.1 = upd o_currents ((100 * x1) + x2).toNatClampNeg x4 ∧ u.2.2 = o_warmths) ∨ ((0 ≤ x1.toInt ∧ x1.toInt ≤ 1 ∧ 0 ≤ x2.toInt ∧ x2.toInt < 100 ∧ 0 ≤ x3.toInt ∧ x3.toInt ≤ 1 ∧ 0 ≤ x4.toInt ∧ (x3.toInt = 0 → x4.toInt ≤ 8) ∧ (x3.toInt = 1 → x4.toInt ≤ 9)) ∧ x3.toInt = 1 ∧ u.1 = o_warmths ((100 * x1) + x2).toNatClampNeg ∧ u.2.1 = o_currents ∧ u.2.2 = upd o_warmths ((100 * x1) + x2).toNatClampNeg x4))) := by
  unfold f_X7_cell
  first | (have f_1 : (x1.toInt64).toInt = x1.toInt := j_i2l _) | skip
  refine ok_bd1 (s_X7_in x1.toInt64 0 1) (fun r_2 q_3 => ?_)
  replace q_3 : (r_2.toInt = 1 ∧ (0 : Int) ≤ x1.toInt64.toInt ∧ x1.toInt64.toInt ≤ (1 : Int)) ∨ (r_2.toInt = 0 ∧ (x1.toInt64.toInt < (0 : Int) ∨ (1 : Int) < x1.toInt64.toInt)) := q_3
  refine ok_ite (fun c_4 => ?_) (fun c_4 => ?_)
  · skip
    have c_4 : r_2.toInt = (0 : Int) := i_eq.mp c_4
    replace q_3 : (x1.toInt64.toInt < (0 : Int) ∨ (1 : Int) < x1.toInt64.toInt) := by omega
    exact ok_some (show ((¬ (0 ≤ x1.toInt ∧ x1.toInt ≤ 1 ∧ 0 ≤ x2.toInt ∧ x2.toInt < 100 ∧ 0 ≤ x3.toInt ∧ x3.toInt ≤ 1 ∧ 0 ≤ x4.toInt ∧ (x3.toInt = 0 → x4.toInt ≤ 8) ∧ (x3.toInt = 1 → x4.toInt ≤ 9)) ∧ (-1 : Int) = -1 ∧ o_currents = o_currents ∧ o_warmths = o_warmths) ∨ ((0 ≤ x1.toInt ∧ x1.toInt ≤ 1 ∧ 0 ≤ x2.toInt ∧ x2.toInt < 100 ∧ 0 ≤ x3.toInt ∧ x3.toInt ≤ 1 ∧ 0 ≤ x4.toInt ∧ (x3.toInt = 0 → x4.toInt ≤ 8) ∧ (x3.toInt = 1 → x4.toInt ≤ 9)) ∧ x3.toInt = 0 ∧ (-1) = o_currents ((100 * x1) + x2).toNatClampNeg ∧ o_currents = upd o_currents ((100 * x1) + x2).toNatClampNeg x4 ∧ o_warmths = o_warmths) ∨ ((0 ≤ x1.toInt ∧ x1.toInt ≤ 1 ∧ 0 ≤ x2.toInt ∧ x2.toInt < 100 ∧ 0 ≤ x3.toInt ∧ x3.toInt ≤ 1 ∧ 0 ≤ x4.toInt ∧ (x3.toInt = 0 → x4.toInt ≤ 8) ∧ (x3.toInt = 1 → x4.toInt ≤ 9)) ∧ x3.toInt = 1 ∧ (-1) = o_warmths ((100 * x1) + x2).toNatClampNeg ∧ o_currents = o_currents ∧ o_warmths = upd o_warmths ((100 * x1) + x2).toNatClampNeg x4)) from by first | with_reducible assumption | with_reducible rfl | exact Or.inl ⟨by omega, rfl, rfl, rfl⟩ | (subst_vars; first | exact Or.inr (Or.inl ⟨by omega, by omega, rfl, rfl, rfl⟩) | exact Or.inr (Or.inr ⟨by omega, by omega, rfl, rfl, rfl⟩)) | exact Or.inr (Or.inl ⟨by omega, by omega, by assumption, rfl, rfl⟩) | exact Or.inr (Or.inr ⟨by omega, by omega, by assumption, rfl, rfl⟩) | omega)
  · skip
    have c_4 : ¬ r_2.toInt = (0 : Int) := fun z => c_4 (i_eq.mpr z)
    replace q_3 : (0 : Int) ≤ x1.toInt64.toInt ∧ x1.toInt64.toInt ≤ (1 : Int) := by omega
    refine ok_bd1 (s_X7_isCell x2) (fun r_5 q_6 => ?_)
    replace q_6 : (r_5.toInt = 1 ∧ 0 ≤ x2.toInt ∧ x2.toInt < 100) ∨ (r_5.toInt = 0 ∧ (x2.toInt < 0 ∨ 100 ≤ x2.toInt)) := q_6
    refine ok_ite (fun c_7 => ?_) (fun c_7 => ?_)
    · skip
      have c_7 : r_5.toInt = (0 : Int) := i_eq.mp c_7
      replace q_6 : (x2.toInt < 0 ∨ 100 ≤ x2.toInt) := by omega
      exact ok_some (show ((¬ (0 ≤ x1.toInt ∧ x1.toInt ≤ 1 ∧ 0 ≤ x2.toInt ∧ x2.toInt < 100 ∧ 0 ≤ x3.toInt ∧ x3.toInt ≤ 1 ∧ 0 ≤ x4.toInt ∧ (x3.toInt = 0 → x4.toInt ≤ 8) ∧ (x3.toInt = 1 → x4.toInt ≤ 9)) ∧ (-1 : Int) = -1 ∧ o_currents = o_currents ∧ o_warmths = o_warmths) ∨ ((0 ≤ x1.toInt ∧ x1.toInt ≤ 1 ∧ 0 ≤ x2.toInt ∧ x2.toInt < 100 ∧ 0 ≤ x3.toInt ∧ x3.toInt ≤ 1 ∧ 0 ≤ x4.toInt ∧ (x3.toInt = 0 → x4.toInt ≤ 8) ∧ (x3.toInt = 1 → x4.toInt ≤ 9)) ∧ x3.toInt = 0 ∧ (-1) = o_currents ((100 * x1) + x2).toNatClampNeg ∧ o_currents = upd o_currents ((100 * x1) + x2).toNatClampNeg x4 ∧ o_warmths = o_warmths) ∨ ((0 ≤ x1.toInt ∧ x1.toInt ≤ 1 ∧ 0 ≤ x2.toInt ∧ x2.toInt < 100 ∧ 0 ≤ x3.toInt ∧ x3.toInt ≤ 1 ∧ 0 ≤ x4.toInt ∧ (x3.toInt = 0 → x4.toInt ≤ 8) ∧ (x3.toInt = 1 → x4.toInt ≤ 9)) ∧ x3.toInt = 1 ∧ (-1) = o_warmths ((100 * x1) + x2).toNatClampNeg ∧ o_currents = o_currents ∧ o_warmths = upd o_warmths ((100 * x1) + x2).toNatClampNeg x4)) from by first | with_reducible assumption | with_reducible rfl | exact Or.inl ⟨by omega, rfl, rfl, rfl⟩ | (subst_vars; first | exact Or.inr (Or.inl ⟨by omega, by omega, rfl, rfl, rfl⟩) | exact Or.inr (Or.inr ⟨by omega, by omega, rfl, rfl, rfl⟩)) | exact Or.inr (Or.inl ⟨by omega, by omega, by assumption, rfl, rfl⟩) | exact Or.inr (Or.inr ⟨by omega, by omega, by assumption, rfl, rfl⟩) | omega)
    · skip
      have c_7 : ¬ r_5.toInt = (0 : Int) := fun z => c_7 (i_eq.mpr z)
      replace q_6 : 0 ≤ x2.toInt ∧ x2.toInt < 100 := by omega
      first | (have f_8 : (x3.toInt64).toInt = x3.toInt := j_i2l _) | skip
      refine ok_bd1 (s_X7_in x3.toInt64 0 1) (fun r_9 q_10 => ?_)
      replace q_10 : (r_9.toInt = 1 ∧ (0 : Int) ≤ x3.toInt64.toInt ∧ x3.toInt64.toInt ≤ (1 : Int)) ∨ (r_9.toInt = 0 ∧ (x3.toInt64.toInt < (0 : Int) ∨ (1 : Int) < x3.toInt64.toInt)) := q_10
      refine ok_ite (fun c_11 => ?_) (fun c_11 => ?_)
      · skip
        have c_11 : r_9.toInt = (0 : Int) := i_eq.mp c_11
        replace q_10 : (x3.toInt64.toInt < (0 : Int) ∨ (1 : Int) < x3.toInt64.toInt) := by omega
        exact ok_some (show ((¬ (0 ≤ x1.toInt ∧ x1.toInt ≤ 1 ∧ 0 ≤ x2.toInt ∧ x2.toInt < 100 ∧ 0 ≤ x3.toInt ∧ x3.toInt ≤ 1 ∧ 0 ≤ x4.toInt ∧ (x3.toInt = 0 → x4.toInt ≤ 8) ∧ (x3.toInt = 1 → x4.toInt ≤ 9)) ∧ (-1 : Int) = -1 ∧ o_currents = o_currents ∧ o_warmths = o_warmths) ∨ ((0 ≤ x1.toInt ∧ x1.toInt ≤ 1 ∧ 0 ≤ x2.toInt ∧ x2.toInt < 100 ∧ 0 ≤ x3.toInt ∧ x3.toInt ≤ 1 ∧ 0 ≤ x4.toInt ∧ (x3.toInt = 0 → x4.toInt ≤ 8) ∧ (x3.toInt = 1 → x4.toInt ≤ 9)) ∧ x3.toInt = 0 ∧ (-1) = o_currents ((100 * x1) + x2).toNatClampNeg ∧ o_currents = upd o_currents ((100 * x1) + x2).toNatClampNeg x4 ∧ o_warmths = o_warmths) ∨ ((0 ≤ x1.toInt ∧ x1.toInt ≤ 1 ∧ 0 ≤ x2.toInt ∧ x2.toInt < 100 ∧ 0 ≤ x3.toInt ∧ x3.toInt ≤ 1 ∧ 0 ≤ x4.toInt ∧ (x3.toInt = 0 → x4.toInt ≤ 8) ∧ (x3.toInt = 1 → x4.toInt ≤ 9)) ∧ x3.toInt = 1 ∧ (-1) = o_warmths ((100 * x1) + x2).toNatClampNeg ∧ o_currents = o_currents ∧ o_warmths = upd o_warmths ((100 * x1) + x2).toNatClampNeg x4)) from by first | with_reducible assumption | with_reducible rfl | exact Or.inl ⟨by omega, rfl, rfl, rfl⟩ | (subst_vars; first | exact Or.inr (Or.inl ⟨by omega, by omega, rfl, rfl, rfl⟩) | exact Or.inr (Or.inr ⟨by omega, by omega, rfl, rfl, rfl⟩)) | exact Or.inr (Or.inl ⟨by omega, by omega, by assumption, rfl, rfl⟩) | exact Or.inr (Or.inr ⟨by omega, by omega, by assumption, rfl, rfl⟩) | omega)
      · skip
        have c_11 : ¬ r_9.toInt = (0 : Int) := fun z => c_11 (i_eq.mpr z)
        replace q_10 : (0 : Int) ≤ x3.toInt64.toInt ∧ x3.toInt64.toInt ≤ (1 : Int) := by omega
        first | (have f_12 : (x4.toInt64).toInt = x4.toInt := j_i2l _) | skip
        refine ok_ite (fun c_13 => ?_) (fun c_13 => ?_)
        · skip
          have c_13 : x3.toInt = (0 : Int) := i_eq.mp c_13
          unfold f_X7_cell_B44
          refine ok_bd1 (s_X7_in x4.toInt64 0 8) (fun r_14 q_15 => ?_)
          replace q_15 : (r_14.toInt = 1 ∧ (0 : Int) ≤ x4.toInt64.toInt ∧ x4.toInt64.toInt ≤ (8 : Int)) ∨ (r_14.toInt = 0 ∧ (x4.toInt64.toInt < (0 : Int) ∨ (8 : Int) < x4.toInt64.toInt)) := q_15
          refine ok_ite (fun c_16 => ?_) (fun c_16 => ?_)
          · skip
            have c_16 : r_14.toInt = (0 : Int) := i_eq.mp c_16
            replace q_15 : (x4.toInt64.toInt < (0 : Int) ∨ (8 : Int) < x4.toInt64.toInt) := by omega
            exact ok_some (show ((¬ (0 ≤ x1.toInt ∧ x1.toInt ≤ 1 ∧ 0 ≤ x2.toInt ∧ x2.toInt < 100 ∧ 0 ≤ x3.toInt ∧ x3.toInt ≤ 1 ∧ 0 ≤ x4.toInt ∧ (x3.toInt = 0 → x4.toInt ≤ 8) ∧ (x3.toInt = 1 → x4.toInt ≤ 9)) ∧ (-1 : Int) = -1 ∧ o_currents = o_currents ∧ o_warmths = o_warmths) ∨ ((0 ≤ x1.toInt ∧ x1.toInt ≤ 1 ∧ 0 ≤ x2.toInt ∧ x2.toInt < 100 ∧ 0 ≤ x3.toInt ∧ x3.toInt ≤ 1 ∧ 0 ≤ x4.toInt ∧ (x3.toInt = 0 → x4.toInt ≤ 8) ∧ (x3.toInt = 1 → x4.toInt ≤ 9)) ∧ x3.toInt = 0 ∧ (-1) = o_currents ((100 * x1) + x2).toNatClampNeg ∧ o_currents = upd o_currents ((100 * x1) + x2).toNatClampNeg x4 ∧ o_warmths = o_warmths) ∨ ((0 ≤ x1.toInt ∧ x1.toInt ≤ 1 ∧ 0 ≤ x2.toInt ∧ x2.toInt < 100 ∧ 0 ≤ x3.toInt ∧ x3.toInt ≤ 1 ∧ 0 ≤ x4.toInt ∧ (x3.toInt = 0 → x4.toInt ≤ 8) ∧ (x3.toInt = 1 → x4.toInt ≤ 9)) ∧ x3.toInt = 1 ∧ (-1) = o_warmths ((100 * x1) + x2).toNatClampNeg ∧ o_currents = o_currents ∧ o_warmths = upd o_warmths ((100 * x1) + x2).toNatClampNeg x4)) from by first | with_reducible assumption | with_reducible rfl | exact Or.inl ⟨by omega, rfl, rfl, rfl⟩ | (subst_vars; first | exact Or.inr (Or.inl ⟨by omega, by omega, rfl, rfl, rfl⟩) | exact Or.inr (Or.inr ⟨by omega, by omega, rfl, rfl, rfl⟩)) | exact Or.inr (Or.inl ⟨by omega, by omega, by assumption, rfl, rfl⟩) | exact Or.inr (Or.inr ⟨by omega, by omega, by assumption, rfl, rfl⟩) | omega)
          · skip
            have c_16 : ¬ r_14.toInt = (0 : Int) := fun z => c_16 (i_eq.mpr z)
            replace q_15 : (0 : Int) ≤ x4.toInt64.toInt ∧ x4.toInt64.toInt ≤ (8 : Int) := by omega
            first | (have f_17 : (100 * x1).toInt = (100 : Int) * x1.toInt := i_mul2 rfl rfl (by omega) (by omega)) | skip
            first | (have f_18 : ((100 * x1) + x2).toInt = (100 * x1).toInt + x2.toInt := i_add2 rfl rfl (by omega) (by omega)) | skip
            refine ok_nmi (fun x_19 hx_19 kx_19 => ?_)
            refine ok_ite (fun c_20 => ?_) (fun c_20 => ?_)
            · skip
              have c_20 : x3.toInt = (0 : Int) := i_eq.mp c_20
              have ix_21 : ¬ (x_19 < 0 ∨ 200 ≤ x_19.toNatClampNeg) := ix (show 0 ≤ x_19.toInt by omega) (show x_19.toInt < (200 : Nat) by omega)
              refine ok_chk ix_21 ?_
              unfold f_X7_cell_B81
              refine ok_ite (fun c_22 => ?_) (fun c_22 => ?_)
              · skip
                have c_22 : x3.toInt = (0 : Int) := i_eq.mp c_22
                refine ok_chk ix_21 ?_
                exact ok_some (show ((¬ (0 ≤ x1.toInt ∧ x1.toInt ≤ 1 ∧ 0 ≤ x2.toInt ∧ x2.toInt < 100 ∧ 0 ≤ x3.toInt ∧ x3.toInt ≤ 1 ∧ 0 ≤ x4.toInt ∧ (x3.toInt = 0 → x4.toInt ≤ 8) ∧ (x3.toInt = 1 → x4.toInt ≤ 9)) ∧ (o_currents x_19.toNatClampNeg).toInt = -1 ∧ (upd o_currents x_19.toNatClampNeg x4) = o_currents ∧ o_warmths = o_warmths) ∨ ((0 ≤ x1.toInt ∧ x1.toInt ≤ 1 ∧ 0 ≤ x2.toInt ∧ x2.toInt < 100 ∧ 0 ≤ x3.toInt ∧ x3.toInt ≤ 1 ∧ 0 ≤ x4.toInt ∧ (x3.toInt = 0 → x4.toInt ≤ 8) ∧ (x3.toInt = 1 → x4.toInt ≤ 9)) ∧ x3.toInt = 0 ∧ (o_currents x_19.toNatClampNeg) = o_currents ((100 * x1) + x2).toNatClampNeg ∧ (upd o_currents x_19.toNatClampNeg x4) = upd o_currents ((100 * x1) + x2).toNatClampNeg x4 ∧ o_warmths = o_warmths) ∨ ((0 ≤ x1.toInt ∧ x1.toInt ≤ 1 ∧ 0 ≤ x2.toInt ∧ x2.toInt < 100 ∧ 0 ≤ x3.toInt ∧ x3.toInt ≤ 1 ∧ 0 ≤ x4.toInt ∧ (x3.toInt = 0 → x4.toInt ≤ 8) ∧ (x3.toInt = 1 → x4.toInt ≤ 9)) ∧ x3.toInt = 1 ∧ (o_currents x_19.toNatClampNeg) = o_warmths ((100 * x1) + x2).toNatClampNeg ∧ (upd o_currents x_19.toNatClampNeg x4) = o_currents ∧ o_warmths = upd o_warmths ((100 * x1) + x2).toNatClampNeg x4)) from by first | with_reducible assumption | with_reducible rfl | exact Or.inl ⟨by omega, rfl, rfl, rfl⟩ | (subst_vars; first | exact Or.inr (Or.inl ⟨by omega, by omega, rfl, rfl, rfl⟩) | exact Or.inr (Or.inr ⟨by omega, by omega, rfl, rfl, rfl⟩)) | exact Or.inr (Or.inl ⟨by omega, by omega, by assumption, rfl, rfl⟩) | exact Or.inr (Or.inr ⟨by omega, by omega, by assumption, rfl, rfl⟩) | omega)
              · skip
                have c_22 : ¬ x3.toInt = (0 : Int) := fun z => c_22 (i_eq.mpr z)
                refine ok_chk ix_21 ?_
                exact ok_some (show ((¬ (0 ≤ x1.toInt ∧ x1.toInt ≤ 1 ∧ 0 ≤ x2.toInt ∧ x2.toInt < 100 ∧ 0 ≤ x3.toInt ∧ x3.toInt ≤ 1 ∧ 0 ≤ x4.toInt ∧ (x3.toInt = 0 → x4.toInt ≤ 8) ∧ (x3.toInt = 1 → x4.toInt ≤ 9)) ∧ (o_currents x_19.toNatClampNeg).toInt = -1 ∧ o_currents = o_currents ∧ (upd o_warmths x_19.toNatClampNeg x4) = o_warmths) ∨ ((0 ≤ x1.toInt ∧ x1.toInt ≤ 1 ∧ 0 ≤ x2.toInt ∧ x2.toInt < 100 ∧ 0 ≤ x3.toInt ∧ x3.toInt ≤ 1 ∧ 0 ≤ x4.toInt ∧ (x3.toInt = 0 → x4.toInt ≤ 8) ∧ (x3.toInt = 1 → x4.toInt ≤ 9)) ∧ x3.toInt = 0 ∧ (o_currents x_19.toNatClampNeg) = o_currents ((100 * x1) + x2).toNatClampNeg ∧ o_currents = upd o_currents ((100 * x1) + x2).toNatClampNeg x4 ∧ (upd o_warmths x_19.toNatClampNeg x4) = o_warmths) ∨ ((0 ≤ x1.toInt ∧ x1.toInt ≤ 1 ∧ 0 ≤ x2.toInt ∧ x2.toInt < 100 ∧ 0 ≤ x3.toInt ∧ x3.toInt ≤ 1 ∧ 0 ≤ x4.toInt ∧ (x3.toInt = 0 → x4.toInt ≤ 8) ∧ (x3.toInt = 1 → x4.toInt ≤ 9)) ∧ x3.toInt = 1 ∧ (o_currents x_19.toNatClampNeg) = o_warmths ((100 * x1) + x2).toNatClampNeg ∧ o_currents = o_currents ∧ (upd o_warmths x_19.toNatClampNeg x4) = upd o_warmths ((100 * x1) + x2).toNatClampNeg x4)) from by first | with_reducible assumption | with_reducible rfl | exact Or.inl ⟨by omega, rfl, rfl, rfl⟩ | (subst_vars; first | exact Or.inr (Or.inl ⟨by omega, by omega, rfl, rfl, rfl⟩) | exact Or.inr (Or.inr ⟨by omega, by omega, rfl, rfl, rfl⟩)) | exact Or.inr (Or.inl ⟨by omega, by omega, by assumption, rfl, rfl⟩) | exact Or.inr (Or.inr ⟨by omega, by omega, by assumption, rfl, rfl⟩) | omega)
            · skip
              have c_20 : ¬ x3.toInt = (0 : Int) := fun z => c_20 (i_eq.mpr z)
              have ix_23 : ¬ (x_19 < 0 ∨ 200 ≤ x_19.toNatClampNeg) := ix (show 0 ≤ x_19.toInt by omega) (show x_19.toInt < (200 : Nat) by omega)
              refine ok_chk ix_23 ?_
              unfold f_X7_cell_B81
              refine ok_ite (fun c_24 => ?_) (fun c_24 => ?_)
              · skip
                have c_24 : x3.toInt = (0 : Int) := i_eq.mp c_24
                refine ok_chk ix_23 ?_
                exact ok_some (show ((¬ (0 ≤ x1.toInt ∧ x1.toInt ≤ 1 ∧ 0 ≤ x2.toInt ∧ x2.toInt < 100 ∧ 0 ≤ x3.toInt ∧ x3.toInt ≤ 1 ∧ 0 ≤ x4.toInt ∧ (x3.toInt = 0 → x4.toInt ≤ 8) ∧ (x3.toInt = 1 → x4.toInt ≤ 9)) ∧ (o_warmths x_19.toNatClampNeg).toInt = -1 ∧ (upd o_currents x_19.toNatClampNeg x4) = o_currents ∧ o_warmths = o_warmths) ∨ ((0 ≤ x1.toInt ∧ x1.toInt ≤ 1 ∧ 0 ≤ x2.toInt ∧ x2.toInt < 100 ∧ 0 ≤ x3.toInt ∧ x3.toInt ≤ 1 ∧ 0 ≤ x4.toInt ∧ (x3.toInt = 0 → x4.toInt ≤ 8) ∧ (x3.toInt = 1 → x4.toInt ≤ 9)) ∧ x3.toInt = 0 ∧ (o_warmths x_19.toNatClampNeg) = o_currents ((100 * x1) + x2).toNatClampNeg ∧ (upd o_currents x_19.toNatClampNeg x4) = upd o_currents ((100 * x1) + x2).toNatClampNeg x4 ∧ o_warmths = o_warmths) ∨ ((0 ≤ x1.toInt ∧ x1.toInt ≤ 1 ∧ 0 ≤ x2.toInt ∧ x2.toInt < 100 ∧ 0 ≤ x3.toInt ∧ x3.toInt ≤ 1 ∧ 0 ≤ x4.toInt ∧ (x3.toInt = 0 → x4.toInt ≤ 8) ∧ (x3.toInt = 1 → x4.toInt ≤ 9)) ∧ x3.toInt = 1 ∧ (o_warmths x_19.toNatClampNeg) = o_warmths ((100 * x1) + x2).toNatClampNeg ∧ (upd o_currents x_19.toNatClampNeg x4) = o_currents ∧ o_warmths = upd o_warmths ((100 * x1) + x2).toNatClampNeg x4)) from by first | with_reducible assumption | with_reducible rfl | exact Or.inl ⟨by omega, rfl, rfl, rfl⟩ | (subst_vars; first | exact Or.inr (Or.inl ⟨by omega, by omega, rfl, rfl, rfl⟩) | exact Or.inr (Or.inr ⟨by omega, by omega, rfl, rfl, rfl⟩)) | exact Or.inr (Or.inl ⟨by omega, by omega, by assumption, rfl, rfl⟩) | exact Or.inr (Or.inr ⟨by omega, by omega, by assumption, rfl, rfl⟩) | omega)
              · skip
                have c_24 : ¬ x3.toInt = (0 : Int) := fun z => c_24 (i_eq.mpr z)
                refine ok_chk ix_23 ?_
                exact ok_some (show ((¬ (0 ≤ x1.toInt ∧ x1.toInt ≤ 1 ∧ 0 ≤ x2.toInt ∧ x2.toInt < 100 ∧ 0 ≤ x3.toInt ∧ x3.toInt ≤ 1 ∧ 0 ≤ x4.toInt ∧ (x3.toInt = 0 → x4.toInt ≤ 8) ∧ (x3.toInt = 1 → x4.toInt ≤ 9)) ∧ (o_warmths x_19.toNatClampNeg).toInt = -1 ∧ o_currents = o_currents ∧ (upd o_warmths x_19.toNatClampNeg x4) = o_warmths) ∨ ((0 ≤ x1.toInt ∧ x1.toInt ≤ 1 ∧ 0 ≤ x2.toInt ∧ x2.toInt < 100 ∧ 0 ≤ x3.toInt ∧ x3.toInt ≤ 1 ∧ 0 ≤ x4.toInt ∧ (x3.toInt = 0 → x4.toInt ≤ 8) ∧ (x3.toInt = 1 → x4.toInt ≤ 9)) ∧ x3.toInt = 0 ∧ (o_warmths x_19.toNatClampNeg) = o_currents ((100 * x1) + x2).toNatClampNeg ∧ o_currents = upd o_currents ((100 * x1) + x2).toNatClampNeg x4 ∧ (upd o_warmths x_19.toNatClampNeg x4) = o_warmths) ∨ ((0 ≤ x1.toInt ∧ x1.toInt ≤ 1 ∧ 0 ≤ x2.toInt ∧ x2.toInt < 100 ∧ 0 ≤ x3.toInt ∧ x3.toInt ≤ 1 ∧ 0 ≤ x4.toInt ∧ (x3.toInt = 0 → x4.toInt ≤ 8) ∧ (x3.toInt = 1 → x4.toInt ≤ 9)) ∧ x3.toInt = 1 ∧ (o_warmths x_19.toNatClampNeg) = o_warmths ((100 * x1) + x2).toNatClampNeg ∧ o_currents = o_currents ∧ (upd o_warmths x_19.toNatClampNeg x4) = upd o_warmths ((100 * x1) + x2).toNatClampNeg x4)) from by first | with_reducible assumption | with_reducible rfl | exact Or.inl ⟨by omega, rfl, rfl, rfl⟩ | (subst_vars; first | exact Or.inr (Or.inl ⟨by omega, by omega, rfl, rfl, rfl⟩) | exact Or.inr (Or.inr ⟨by omega, by omega, rfl, rfl, rfl⟩)) | exact Or.inr (Or.inl ⟨by omega, by omega, by assumption, rfl, rfl⟩) | exact Or.inr (Or.inr ⟨by omega, by omega, by assumption, rfl, rfl⟩) | omega)
        · skip
          have c_13 : ¬ x3.toInt = (0 : Int) := fun z => c_13 (i_eq.mpr z)
          unfold f_X7_cell_B44
          refine ok_bd1 (s_X7_in x4.toInt64 0 9) (fun r_25 q_26 => ?_)
          replace q_26 : (r_25.toInt = 1 ∧ (0 : Int) ≤ x4.toInt64.toInt ∧ x4.toInt64.toInt ≤ (9 : Int)) ∨ (r_25.toInt = 0 ∧ (x4.toInt64.toInt < (0 : Int) ∨ (9 : Int) < x4.toInt64.toInt)) := q_26
          refine ok_ite (fun c_27 => ?_) (fun c_27 => ?_)
          · skip
            have c_27 : r_25.toInt = (0 : Int) := i_eq.mp c_27
            replace q_26 : (x4.toInt64.toInt < (0 : Int) ∨ (9 : Int) < x4.toInt64.toInt) := by omega
            exact ok_some (show ((¬ (0 ≤ x1.toInt ∧ x1.toInt ≤ 1 ∧ 0 ≤ x2.toInt ∧ x2.toInt < 100 ∧ 0 ≤ x3.toInt ∧ x3.toInt ≤ 1 ∧ 0 ≤ x4.toInt ∧ (x3.toInt = 0 → x4.toInt ≤ 8) ∧ (x3.toInt = 1 → x4.toInt ≤ 9)) ∧ (-1 : Int) = -1 ∧ o_currents = o_currents ∧ o_warmths = o_warmths) ∨ ((0 ≤ x1.toInt ∧ x1.toInt ≤ 1 ∧ 0 ≤ x2.toInt ∧ x2.toInt < 100 ∧ 0 ≤ x3.toInt ∧ x3.toInt ≤ 1 ∧ 0 ≤ x4.toInt ∧ (x3.toInt = 0 → x4.toInt ≤ 8) ∧ (x3.toInt = 1 → x4.toInt ≤ 9)) ∧ x3.toInt = 0 ∧ (-1) = o_currents ((100 * x1) + x2).toNatClampNeg ∧ o_currents = upd o_currents ((100 * x1) + x2).toNatClampNeg x4 ∧ o_warmths = o_warmths) ∨ ((0 ≤ x1.toInt ∧ x1.toInt ≤ 1 ∧ 0 ≤ x2.toInt ∧ x2.toInt < 100 ∧ 0 ≤ x3.toInt ∧ x3.toInt ≤ 1 ∧ 0 ≤ x4.toInt ∧ (x3.toInt = 0 → x4.toInt ≤ 8) ∧ (x3.toInt = 1 → x4.toInt ≤ 9)) ∧ x3.toInt = 1 ∧ (-1) = o_warmths ((100 * x1) + x2).toNatClampNeg ∧ o_currents = o_currents ∧ o_warmths = upd o_warmths ((100 * x1) + x2).toNatClampNeg x4)) from by first | with_reducible assumption | with_reducible rfl | exact Or.inl ⟨by omega, rfl, rfl, rfl⟩ | (subst_vars; first | exact Or.inr (Or.inl ⟨by omega, by omega, rfl, rfl, rfl⟩) | exact Or.inr (Or.inr ⟨by omega, by omega, rfl, rfl, rfl⟩)) | exact Or.inr (Or.inl ⟨by omega, by omega, by assumption, rfl, rfl⟩) | exact Or.inr (Or.inr ⟨by omega, by omega, by assumption, rfl, rfl⟩) | omega)
          · skip
            have c_27 : ¬ r_25.toInt = (0 : Int) := fun z => c_27 (i_eq.mpr z)
            replace q_26 : (0 : Int) ≤ x4.toInt64.toInt ∧ x4.toInt64.toInt ≤ (9 : Int) := by omega
            first | (have f_28 : (100 * x1).toInt = (100 : Int) * x1.toInt := i_mul2 rfl rfl (by omega) (by omega)) | skip
            first | (have f_29 : ((100 * x1) + x2).toInt = (100 * x1).toInt + x2.toInt := i_add2 rfl rfl (by omega) (by omega)) | skip
            refine ok_nmi (fun x_30 hx_30 kx_30 => ?_)
            refine ok_ite (fun c_31 => ?_) (fun c_31 => ?_)
            · skip
              have c_31 : x3.toInt = (0 : Int) := i_eq.mp c_31
              have ix_32 : ¬ (x_30 < 0 ∨ 200 ≤ x_30.toNatClampNeg) := ix (show 0 ≤ x_30.toInt by omega) (show x_30.toInt < (200 : Nat) by omega)
              refine ok_chk ix_32 ?_
              unfold f_X7_cell_B81
              refine ok_ite (fun c_33 => ?_) (fun c_33 => ?_)
              · skip
                have c_33 : x3.toInt = (0 : Int) := i_eq.mp c_33
                refine ok_chk ix_32 ?_
                exact ok_some (show ((¬ (0 ≤ x1.toInt ∧ x1.toInt ≤ 1 ∧ 0 ≤ x2.toInt ∧ x2.toInt < 100 ∧ 0 ≤ x3.toInt ∧ x3.toInt ≤ 1 ∧ 0 ≤ x4.toInt ∧ (x3.toInt = 0 → x4.toInt ≤ 8) ∧ (x3.toInt = 1 → x4.toInt ≤ 9)) ∧ (o_currents x_30.toNatClampNeg).toInt = -1 ∧ (upd o_currents x_30.toNatClampNeg x4) = o_currents ∧ o_warmths = o_warmths) ∨ ((0 ≤ x1.toInt ∧ x1.toInt ≤ 1 ∧ 0 ≤ x2.toInt ∧ x2.toInt < 100 ∧ 0 ≤ x3.toInt ∧ x3.toInt ≤ 1 ∧ 0 ≤ x4.toInt ∧ (x3.toInt = 0 → x4.toInt ≤ 8) ∧ (x3.toInt = 1 → x4.toInt ≤ 9)) ∧ x3.toInt = 0 ∧ (o_currents x_30.toNatClampNeg) = o_currents ((100 * x1) + x2).toNatClampNeg ∧ (upd o_currents x_30.toNatClampNeg x4) = upd o_currents ((100 * x1) + x2).toNatClampNeg x4 ∧ o_warmths = o_warmths) ∨ ((0 ≤ x1.toInt ∧ x1.toInt ≤ 1 ∧ 0 ≤ x2.toInt ∧ x2.toInt < 100 ∧ 0 ≤ x3.toInt ∧ x3.toInt ≤ 1 ∧ 0 ≤ x4.toInt ∧ (x3.toInt = 0 → x4.toInt ≤ 8) ∧ (x3.toInt = 1 → x4.toInt ≤ 9)) ∧ x3.toInt = 1 ∧ (o_currents x_30.toNatClampNeg) = o_warmths ((100 * x1) + x2).toNatClampNeg ∧ (upd o_currents x_30.toNatClampNeg x4) = o_currents ∧ o_warmths = upd o_warmths ((100 * x1) + x2).toNatClampNeg x4)) from by first | with_reducible assumption | with_reducible rfl | exact Or.inl ⟨by omega, rfl, rfl, rfl⟩ | (subst_vars; first | exact Or.inr (Or.inl ⟨by omega, by omega, rfl, rfl, rfl⟩) | exact Or.inr (Or.inr ⟨by omega, by omega, rfl, rfl, rfl⟩)) | exact Or.inr (Or.inl ⟨by omega, by omega, by assumption, rfl, rfl⟩) | exact Or.inr (Or.inr ⟨by omega, by omega, by assumption, rfl, rfl⟩) | omega)
              · skip
                have c_33 : ¬ x3.toInt = (0 : Int) := fun z => c_33 (i_eq.mpr z)
                refine ok_chk ix_32 ?_
                exact ok_some (show ((¬ (0 ≤ x1.toInt ∧ x1.toInt ≤ 1 ∧ 0 ≤ x2.toInt ∧ x2.toInt < 100 ∧ 0 ≤ x3.toInt ∧ x3.toInt ≤ 1 ∧ 0 ≤ x4.toInt ∧ (x3.toInt = 0 → x4.toInt ≤ 8) ∧ (x3.toInt = 1 → x4.toInt ≤ 9)) ∧ (o_currents x_30.toNatClampNeg).toInt = -1 ∧ o_currents = o_currents ∧ (upd o_warmths x_30.toNatClampNeg x4) = o_warmths) ∨ ((0 ≤ x1.toInt ∧ x1.toInt ≤ 1 ∧ 0 ≤ x2.toInt ∧ x2.toInt < 100 ∧ 0 ≤ x3.toInt ∧ x3.toInt ≤ 1 ∧ 0 ≤ x4.toInt ∧ (x3.toInt = 0 → x4.toInt ≤ 8) ∧ (x3.toInt = 1 → x4.toInt ≤ 9)) ∧ x3.toInt = 0 ∧ (o_currents x_30.toNatClampNeg) = o_currents ((100 * x1) + x2).toNatClampNeg ∧ o_currents = upd o_currents ((100 * x1) + x2).toNatClampNeg x4 ∧ (upd o_warmths x_30.toNatClampNeg x4) = o_warmths) ∨ ((0 ≤ x1.toInt ∧ x1.toInt ≤ 1 ∧ 0 ≤ x2.toInt ∧ x2.toInt < 100 ∧ 0 ≤ x3.toInt ∧ x3.toInt ≤ 1 ∧ 0 ≤ x4.toInt ∧ (x3.toInt = 0 → x4.toInt ≤ 8) ∧ (x3.toInt = 1 → x4.toInt ≤ 9)) ∧ x3.toInt = 1 ∧ (o_currents x_30.toNatClampNeg) = o_warmths ((100 * x1) + x2).toNatClampNeg ∧ o_currents = o_currents ∧ (upd o_warmths x_30.toNatClampNeg x4) = upd o_warmths ((100 * x1) + x2).toNatClampNeg x4)) from by first | with_reducible assumption | with_reducible rfl | exact Or.inl ⟨by omega, rfl, rfl, rfl⟩ | (subst_vars; first | exact Or.inr (Or.inl ⟨by omega, by omega, rfl, rfl, rfl⟩) | exact Or.inr (Or.inr ⟨by omega, by omega, rfl, rfl, rfl⟩)) | exact Or.inr (Or.inl ⟨by omega, by omega, by assumption, rfl, rfl⟩) | exact Or.inr (Or.inr ⟨by omega, by omega, by assumption, rfl, rfl⟩) | omega)
            · skip
              have c_31 : ¬ x3.toInt = (0 : Int) := fun z => c_31 (i_eq.mpr z)
              have ix_34 : ¬ (x_30 < 0 ∨ 200 ≤ x_30.toNatClampNeg) := ix (show 0 ≤ x_30.toInt by omega) (show x_30.toInt < (200 : Nat) by omega)
              refine ok_chk ix_34 ?_
              unfold f_X7_cell_B81
              refine ok_ite (fun c_35 => ?_) (fun c_35 => ?_)
              · skip
                have c_35 : x3.toInt = (0 : Int) := i_eq.mp c_35
                refine ok_chk ix_34 ?_
                exact ok_some (show ((¬ (0 ≤ x1.toInt ∧ x1.toInt ≤ 1 ∧ 0 ≤ x2.toInt ∧ x2.toInt < 100 ∧ 0 ≤ x3.toInt ∧ x3.toInt ≤ 1 ∧ 0 ≤ x4.toInt ∧ (x3.toInt = 0 → x4.toInt ≤ 8) ∧ (x3.toInt = 1 → x4.toInt ≤ 9)) ∧ (o_warmths x_30.toNatClampNeg).toInt = -1 ∧ (upd o_currents x_30.toNatClampNeg x4) = o_currents ∧ o_warmths = o_warmths) ∨ ((0 ≤ x1.toInt ∧ x1.toInt ≤ 1 ∧ 0 ≤ x2.toInt ∧ x2.toInt < 100 ∧ 0 ≤ x3.toInt ∧ x3.toInt ≤ 1 ∧ 0 ≤ x4.toInt ∧ (x3.toInt = 0 → x4.toInt ≤ 8) ∧ (x3.toInt = 1 → x4.toInt ≤ 9)) ∧ x3.toInt = 0 ∧ (o_warmths x_30.toNatClampNeg) = o_currents ((100 * x1) + x2).toNatClampNeg ∧ (upd o_currents x_30.toNatClampNeg x4) = upd o_currents ((100 * x1) + x2).toNatClampNeg x4 ∧ o_warmths = o_warmths) ∨ ((0 ≤ x1.toInt ∧ x1.toInt ≤ 1 ∧ 0 ≤ x2.toInt ∧ x2.toInt < 100 ∧ 0 ≤ x3.toInt ∧ x3.toInt ≤ 1 ∧ 0 ≤ x4.toInt ∧ (x3.toInt = 0 → x4.toInt ≤ 8) ∧ (x3.toInt = 1 → x4.toInt ≤ 9)) ∧ x3.toInt = 1 ∧ (o_warmths x_30.toNatClampNeg) = o_warmths ((100 * x1) + x2).toNatClampNeg ∧ (upd o_currents x_30.toNatClampNeg x4) = o_currents ∧ o_warmths = upd o_warmths ((100 * x1) + x2).toNatClampNeg x4)) from by first | with_reducible assumption | with_reducible rfl | exact Or.inl ⟨by omega, rfl, rfl, rfl⟩ | (subst_vars; first | exact Or.inr (Or.inl ⟨by omega, by omega, rfl, rfl, rfl⟩) | exact Or.inr (Or.inr ⟨by omega, by omega, rfl, rfl, rfl⟩)) | exact Or.inr (Or.inl ⟨by omega, by omega, by assumption, rfl, rfl⟩) | exact Or.inr (Or.inr ⟨by omega, by omega, by assumption, rfl, rfl⟩) | omega)
              · skip
                have c_35 : ¬ x3.toInt = (0 : Int) := fun z => c_35 (i_eq.mpr z)
                refine ok_chk ix_34 ?_
                exact ok_some (show ((¬ (0 ≤ x1.toInt ∧ x1.toInt ≤ 1 ∧ 0 ≤ x2.toInt ∧ x2.toInt < 100 ∧ 0 ≤ x3.toInt ∧ x3.toInt ≤ 1 ∧ 0 ≤ x4.toInt ∧ (x3.toInt = 0 → x4.toInt ≤ 8) ∧ (x3.toInt = 1 → x4.toInt ≤ 9)) ∧ (o_warmths x_30.toNatClampNeg).toInt = -1 ∧ o_currents = o_currents ∧ (upd o_warmths x_30.toNatClampNeg x4) = o_warmths) ∨ ((0 ≤ x1.toInt ∧ x1.toInt ≤ 1 ∧ 0 ≤ x2.toInt ∧ x2.toInt < 100 ∧ 0 ≤ x3.toInt ∧ x3.toInt ≤ 1 ∧ 0 ≤ x4.toInt ∧ (x3.toInt = 0 → x4.toInt ≤ 8) ∧ (x3.toInt = 1 → x4.toInt ≤ 9)) ∧ x3.toInt = 0 ∧ (o_warmths x_30.toNatClampNeg) = o_currents ((100 * x1) + x2).toNatClampNeg ∧ o_currents = upd o_currents ((100 * x1) + x2).toNatClampNeg x4 ∧ (upd o_warmths x_30.toNatClampNeg x4) = o_warmths) ∨ ((0 ≤ x1.toInt ∧ x1.toInt ≤ 1 ∧ 0 ≤ x2.toInt ∧ x2.toInt < 100 ∧ 0 ≤ x3.toInt ∧ x3.toInt ≤ 1 ∧ 0 ≤ x4.toInt ∧ (x3.toInt = 0 → x4.toInt ≤ 8) ∧ (x3.toInt = 1 → x4.toInt ≤ 9)) ∧ x3.toInt = 1 ∧ (o_warmths x_30.toNatClampNeg) = o_warmths ((100 * x1) + x2).toNatClampNeg ∧ o_currents = o_currents ∧ (upd o_warmths x_30.toNatClampNeg x4) = upd o_warmths ((100 * x1) + x2).toNatClampNeg x4)) from by first | with_reducible assumption | with_reducible rfl | exact Or.inl ⟨by omega, rfl, rfl, rfl⟩ | (subst_vars; first | exact Or.inr (Or.inl ⟨by omega, by omega, rfl, rfl, rfl⟩) | exact Or.inr (Or.inr ⟨by omega, by omega, rfl, rfl, rfl⟩)) | exact Or.inr (Or.inl ⟨by omega, by omega, by assumption, rfl, rfl⟩) | exact Or.inr (Or.inr ⟨by omega, by omega, by assumption, rfl, rfl⟩) | omega)
set_option maxRecDepth 100000 in
set_option maxHeartbeats 4000000 in
theorem s_X7_depth (x1 : Int32) (x2 : Int32) (o_depths : Nat → Int32) : okP (f_X7_depth x1 x2 o_depths) (fun u => (((0 ≤ x1.toInt ∧ x1.toInt < 100 ∧ 1 ≤ x2.toInt ∧ x2.toInt ≤ 9) ∧ u.1 = o_depths x1.toNatClampNeg ∧ u.2 = upd o_depths x1.toNatClampNeg x2) ∨ (¬ (0 ≤ x1.toInt ∧ x1.toInt < 100 ∧ 1 ≤ x2.toInt ∧ x2.toInt ≤ 9) ∧ u.1.toInt = -1 ∧ u.2 = o_depths))) := by
  unfold f_X7_depth
  refine ok_bd1 (s_X7_isCell x1) (fun r_1 q_2 => ?_)
  replace q_2 : (r_1.toInt = 1 ∧ 0 ≤ x1.toInt ∧ x1.toInt < 100) ∨ (r_1.toInt = 0 ∧ (x1.toInt < 0 ∨ 100 ≤ x1.toInt)) := q_2
  refine ok_ite (fun c_3 => ?_) (fun c_3 => ?_)
  · skip
    have c_3 : r_1.toInt = (0 : Int) := i_eq.mp c_3
    replace q_2 : (x1.toInt < 0 ∨ 100 ≤ x1.toInt) := by omega
    exact ok_some (show (((0 ≤ x1.toInt ∧ x1.toInt < 100 ∧ 1 ≤ x2.toInt ∧ x2.toInt ≤ 9) ∧ (-1) = o_depths x1.toNatClampNeg ∧ o_depths = upd o_depths x1.toNatClampNeg x2) ∨ (¬ (0 ≤ x1.toInt ∧ x1.toInt < 100 ∧ 1 ≤ x2.toInt ∧ x2.toInt ≤ 9) ∧ (-1 : Int) = -1 ∧ o_depths = o_depths)) from by first | with_reducible assumption | with_reducible rfl | exact Or.inr ⟨by omega, rfl, rfl⟩ | exact Or.inl ⟨by omega, by assumption, rfl⟩ | omega)
  · skip
    have c_3 : ¬ r_1.toInt = (0 : Int) := fun z => c_3 (i_eq.mpr z)
    replace q_2 : 0 ≤ x1.toInt ∧ x1.toInt < 100 := by omega
    first | (have f_4 : (x2.toInt64).toInt = x2.toInt := j_i2l _) | skip
    refine ok_bd1 (s_X7_in x2.toInt64 1 9) (fun r_5 q_6 => ?_)
    replace q_6 : (r_5.toInt = 1 ∧ (1 : Int) ≤ x2.toInt64.toInt ∧ x2.toInt64.toInt ≤ (9 : Int)) ∨ (r_5.toInt = 0 ∧ (x2.toInt64.toInt < (1 : Int) ∨ (9 : Int) < x2.toInt64.toInt)) := q_6
    refine ok_ite (fun c_7 => ?_) (fun c_7 => ?_)
    · skip
      have c_7 : r_5.toInt = (0 : Int) := i_eq.mp c_7
      replace q_6 : (x2.toInt64.toInt < (1 : Int) ∨ (9 : Int) < x2.toInt64.toInt) := by omega
      exact ok_some (show (((0 ≤ x1.toInt ∧ x1.toInt < 100 ∧ 1 ≤ x2.toInt ∧ x2.toInt ≤ 9) ∧ (-1) = o_depths x1.toNatClampNeg ∧ o_depths = upd o_depths x1.toNatClampNeg x2) ∨ (¬ (0 ≤ x1.toInt ∧ x1.toInt < 100 ∧ 1 ≤ x2.toInt ∧ x2.toInt ≤ 9) ∧ (-1 : Int) = -1 ∧ o_depths = o_depths)) from by first | with_reducible assumption | with_reducible rfl | exact Or.inr ⟨by omega, rfl, rfl⟩ | exact Or.inl ⟨by omega, by assumption, rfl⟩ | omega)
    · skip
      have c_7 : ¬ r_5.toInt = (0 : Int) := fun z => c_7 (i_eq.mpr z)
      replace q_6 : (1 : Int) ≤ x2.toInt64.toInt ∧ x2.toInt64.toInt ≤ (9 : Int) := by omega
      have ix_8 : ¬ (x1 < 0 ∨ 100 ≤ x1.toNatClampNeg) := ix (show 0 ≤ x1.toInt by omega) (show x1.toInt < (100 : Nat) by omega)
      refine ok_chk ix_8 ?_
      refine ok_nmi (fun x_9 hx_9 kx_9 => ?_)
      refine ok_chk ix_8 ?_
      exact ok_some (show (((0 ≤ x1.toInt ∧ x1.toInt < 100 ∧ 1 ≤ x2.toInt ∧ x2.toInt ≤ 9) ∧ x_9 = o_depths x1.toNatClampNeg ∧ (upd o_depths x1.toNatClampNeg x2) = upd o_depths x1.toNatClampNeg x2) ∨ (¬ (0 ≤ x1.toInt ∧ x1.toInt < 100 ∧ 1 ≤ x2.toInt ∧ x2.toInt ≤ 9) ∧ x_9.toInt = -1 ∧ (upd o_depths x1.toNatClampNeg x2) = o_depths)) from by first | with_reducible assumption | with_reducible rfl | exact Or.inr ⟨by omega, rfl, rfl⟩ | exact Or.inl ⟨by omega, by assumption, rfl⟩ | omega)
set_option maxRecDepth 100000 in
set_option maxHeartbeats 4000000 in
theorem s_X7_piece (x1 : Int32) (x2 : Int32) (x3 : Int32) (x4 : Int32) (x5 : Int32) (o_pieces : Int32) (o_pieceParts : Nat → Int32) (h0 : 0 ≤ (o_pieces).toInt) (h1 : (o_pieces).toInt ≤ 4) : okP (f_X7_piece x1 x2 x3 x4 x5 o_pieces o_pieceParts) (fun u => (0 ≤ u.2.1.toInt) ∧ (u.2.1.toInt ≤ 4) ∧ ((¬ (0 ≤ x1.toInt ∧ x1.toInt < 100 ∧ 1 ≤ x2.toInt ∧ x2.toInt ≤ 24 ∧ 0 ≤ x3.toInt ∧ x3.toInt ≤ 1 ∧ 0 ≤ x4.toInt ∧ x4.toInt ≤ x2.toInt ∧ 0 ≤ x5.toInt ∧ x5.toInt ≤ 9) ∧ u.1.toInt = -1 ∧ u.2.1.toInt = o_pieces.toInt) ∨ ((0 ≤ x1.toInt ∧ x1.toInt < 100 ∧ 1 ≤ x2.toInt ∧ x2.toInt ≤ 24 ∧ 0 ≤ x3.toInt ∧ x3.toInt ≤ 1 ∧ 0 ≤ x4.toInt ∧ x4.toInt ≤ x2.toInt ∧ 0 ≤ x5.toInt ∧ x5.toInt ≤ 9) ∧ 4 ≤ o_pieces.toInt ∧ u.1.toInt = -3 ∧ u.2.1.toInt = o_pieces.toInt) ∨ ((0 ≤ x1.toInt ∧ x1.toInt < 100 ∧ 1 ≤ x2.toInt ∧ x2.toInt ≤ 24 ∧ 0 ≤ x3.toInt ∧ x3.toInt ≤ 1 ∧ 0 ≤ x4.toInt ∧ x4.toInt ≤ x2.toInt ∧ 0 ≤ x5.toInt ∧ x5.toInt ≤ 9) ∧ o_pieces.toInt < 4 ∧ u.1.toInt = o_pieces.toInt ∧ u.2.1.toInt = o_pieces.toInt + 1))) := by
  unfold f_X7_piece
  refine ok_bd1 (s_X7_isCell x1) (fun r_1 q_2 => ?_)
  replace q_2 : (r_1.toInt = 1 ∧ 0 ≤ x1.toInt ∧ x1.toInt < 100) ∨ (r_1.toInt = 0 ∧ (x1.toInt < 0 ∨ 100 ≤ x1.toInt)) := q_2
  refine ok_ite (fun c_3 => ?_) (fun c_3 => ?_)
  · skip
    have c_3 : r_1.toInt = (0 : Int) := i_eq.mp c_3
    replace q_2 : (x1.toInt < 0 ∨ 100 ≤ x1.toInt) := by omega
    exact ok_some (show (0 ≤ o_pieces.toInt) ∧ (o_pieces.toInt ≤ 4) ∧ ((¬ (0 ≤ x1.toInt ∧ x1.toInt < 100 ∧ 1 ≤ x2.toInt ∧ x2.toInt ≤ 24 ∧ 0 ≤ x3.toInt ∧ x3.toInt ≤ 1 ∧ 0 ≤ x4.toInt ∧ x4.toInt ≤ x2.toInt ∧ 0 ≤ x5.toInt ∧ x5.toInt ≤ 9) ∧ (-1 : Int) = -1 ∧ o_pieces.toInt = o_pieces.toInt) ∨ ((0 ≤ x1.toInt ∧ x1.toInt < 100 ∧ 1 ≤ x2.toInt ∧ x2.toInt ≤ 24 ∧ 0 ≤ x3.toInt ∧ x3.toInt ≤ 1 ∧ 0 ≤ x4.toInt ∧ x4.toInt ≤ x2.toInt ∧ 0 ≤ x5.toInt ∧ x5.toInt ≤ 9) ∧ 4 ≤ o_pieces.toInt ∧ (-1 : Int) = -3 ∧ o_pieces.toInt = o_pieces.toInt) ∨ ((0 ≤ x1.toInt ∧ x1.toInt < 100 ∧ 1 ≤ x2.toInt ∧ x2.toInt ≤ 24 ∧ 0 ≤ x3.toInt ∧ x3.toInt ≤ 1 ∧ 0 ≤ x4.toInt ∧ x4.toInt ≤ x2.toInt ∧ 0 ≤ x5.toInt ∧ x5.toInt ≤ 9) ∧ o_pieces.toInt < 4 ∧ (-1 : Int) = o_pieces.toInt ∧ o_pieces.toInt = o_pieces.toInt + 1)) from ⟨by omega, by omega, by omega⟩)
  · skip
    have c_3 : ¬ r_1.toInt = (0 : Int) := fun z => c_3 (i_eq.mpr z)
    replace q_2 : 0 ≤ x1.toInt ∧ x1.toInt < 100 := by omega
    first | (have f_4 : (x2.toInt64).toInt = x2.toInt := j_i2l _) | skip
    refine ok_bd1 (s_X7_in x2.toInt64 1 24) (fun r_5 q_6 => ?_)
    replace q_6 : (r_5.toInt = 1 ∧ (1 : Int) ≤ x2.toInt64.toInt ∧ x2.toInt64.toInt ≤ (24 : Int)) ∨ (r_5.toInt = 0 ∧ (x2.toInt64.toInt < (1 : Int) ∨ (24 : Int) < x2.toInt64.toInt)) := q_6
    refine ok_ite (fun c_7 => ?_) (fun c_7 => ?_)
    · skip
      have c_7 : r_5.toInt = (0 : Int) := i_eq.mp c_7
      replace q_6 : (x2.toInt64.toInt < (1 : Int) ∨ (24 : Int) < x2.toInt64.toInt) := by omega
      exact ok_some (show (0 ≤ o_pieces.toInt) ∧ (o_pieces.toInt ≤ 4) ∧ ((¬ (0 ≤ x1.toInt ∧ x1.toInt < 100 ∧ 1 ≤ x2.toInt ∧ x2.toInt ≤ 24 ∧ 0 ≤ x3.toInt ∧ x3.toInt ≤ 1 ∧ 0 ≤ x4.toInt ∧ x4.toInt ≤ x2.toInt ∧ 0 ≤ x5.toInt ∧ x5.toInt ≤ 9) ∧ (-1 : Int) = -1 ∧ o_pieces.toInt = o_pieces.toInt) ∨ ((0 ≤ x1.toInt ∧ x1.toInt < 100 ∧ 1 ≤ x2.toInt ∧ x2.toInt ≤ 24 ∧ 0 ≤ x3.toInt ∧ x3.toInt ≤ 1 ∧ 0 ≤ x4.toInt ∧ x4.toInt ≤ x2.toInt ∧ 0 ≤ x5.toInt ∧ x5.toInt ≤ 9) ∧ 4 ≤ o_pieces.toInt ∧ (-1 : Int) = -3 ∧ o_pieces.toInt = o_pieces.toInt) ∨ ((0 ≤ x1.toInt ∧ x1.toInt < 100 ∧ 1 ≤ x2.toInt ∧ x2.toInt ≤ 24 ∧ 0 ≤ x3.toInt ∧ x3.toInt ≤ 1 ∧ 0 ≤ x4.toInt ∧ x4.toInt ≤ x2.toInt ∧ 0 ≤ x5.toInt ∧ x5.toInt ≤ 9) ∧ o_pieces.toInt < 4 ∧ (-1 : Int) = o_pieces.toInt ∧ o_pieces.toInt = o_pieces.toInt + 1)) from ⟨by omega, by omega, by omega⟩)
    · skip
      have c_7 : ¬ r_5.toInt = (0 : Int) := fun z => c_7 (i_eq.mpr z)
      replace q_6 : (1 : Int) ≤ x2.toInt64.toInt ∧ x2.toInt64.toInt ≤ (24 : Int) := by omega
      first | (have f_8 : (x3.toInt64).toInt = x3.toInt := j_i2l _) | skip
      refine ok_bd1 (s_X7_in x3.toInt64 0 1) (fun r_9 q_10 => ?_)
      replace q_10 : (r_9.toInt = 1 ∧ (0 : Int) ≤ x3.toInt64.toInt ∧ x3.toInt64.toInt ≤ (1 : Int)) ∨ (r_9.toInt = 0 ∧ (x3.toInt64.toInt < (0 : Int) ∨ (1 : Int) < x3.toInt64.toInt)) := q_10
      refine ok_ite (fun c_11 => ?_) (fun c_11 => ?_)
      · skip
        have c_11 : r_9.toInt = (0 : Int) := i_eq.mp c_11
        replace q_10 : (x3.toInt64.toInt < (0 : Int) ∨ (1 : Int) < x3.toInt64.toInt) := by omega
        exact ok_some (show (0 ≤ o_pieces.toInt) ∧ (o_pieces.toInt ≤ 4) ∧ ((¬ (0 ≤ x1.toInt ∧ x1.toInt < 100 ∧ 1 ≤ x2.toInt ∧ x2.toInt ≤ 24 ∧ 0 ≤ x3.toInt ∧ x3.toInt ≤ 1 ∧ 0 ≤ x4.toInt ∧ x4.toInt ≤ x2.toInt ∧ 0 ≤ x5.toInt ∧ x5.toInt ≤ 9) ∧ (-1 : Int) = -1 ∧ o_pieces.toInt = o_pieces.toInt) ∨ ((0 ≤ x1.toInt ∧ x1.toInt < 100 ∧ 1 ≤ x2.toInt ∧ x2.toInt ≤ 24 ∧ 0 ≤ x3.toInt ∧ x3.toInt ≤ 1 ∧ 0 ≤ x4.toInt ∧ x4.toInt ≤ x2.toInt ∧ 0 ≤ x5.toInt ∧ x5.toInt ≤ 9) ∧ 4 ≤ o_pieces.toInt ∧ (-1 : Int) = -3 ∧ o_pieces.toInt = o_pieces.toInt) ∨ ((0 ≤ x1.toInt ∧ x1.toInt < 100 ∧ 1 ≤ x2.toInt ∧ x2.toInt ≤ 24 ∧ 0 ≤ x3.toInt ∧ x3.toInt ≤ 1 ∧ 0 ≤ x4.toInt ∧ x4.toInt ≤ x2.toInt ∧ 0 ≤ x5.toInt ∧ x5.toInt ≤ 9) ∧ o_pieces.toInt < 4 ∧ (-1 : Int) = o_pieces.toInt ∧ o_pieces.toInt = o_pieces.toInt + 1)) from ⟨by omega, by omega, by omega⟩)
      · skip
        have c_11 : ¬ r_9.toInt = (0 : Int) := fun z => c_11 (i_eq.mpr z)
        replace q_10 : (0 : Int) ≤ x3.toInt64.toInt ∧ x3.toInt64.toInt ≤ (1 : Int) := by omega
        first | (have f_12 : (x4.toInt64).toInt = x4.toInt := j_i2l _) | skip
        refine ok_bd1 (s_X7_in x4.toInt64 0 x2.toInt64) (fun r_13 q_14 => ?_)
        replace q_14 : (r_13.toInt = 1 ∧ (0 : Int) ≤ x4.toInt64.toInt ∧ x4.toInt64.toInt ≤ x2.toInt64.toInt) ∨ (r_13.toInt = 0 ∧ (x4.toInt64.toInt < (0 : Int) ∨ x2.toInt64.toInt < x4.toInt64.toInt)) := q_14
        refine ok_ite (fun c_15 => ?_) (fun c_15 => ?_)
        · skip
          have c_15 : r_13.toInt = (0 : Int) := i_eq.mp c_15
          replace q_14 : (x4.toInt64.toInt < (0 : Int) ∨ x2.toInt64.toInt < x4.toInt64.toInt) := by omega
          exact ok_some (show (0 ≤ o_pieces.toInt) ∧ (o_pieces.toInt ≤ 4) ∧ ((¬ (0 ≤ x1.toInt ∧ x1.toInt < 100 ∧ 1 ≤ x2.toInt ∧ x2.toInt ≤ 24 ∧ 0 ≤ x3.toInt ∧ x3.toInt ≤ 1 ∧ 0 ≤ x4.toInt ∧ x4.toInt ≤ x2.toInt ∧ 0 ≤ x5.toInt ∧ x5.toInt ≤ 9) ∧ (-1 : Int) = -1 ∧ o_pieces.toInt = o_pieces.toInt) ∨ ((0 ≤ x1.toInt ∧ x1.toInt < 100 ∧ 1 ≤ x2.toInt ∧ x2.toInt ≤ 24 ∧ 0 ≤ x3.toInt ∧ x3.toInt ≤ 1 ∧ 0 ≤ x4.toInt ∧ x4.toInt ≤ x2.toInt ∧ 0 ≤ x5.toInt ∧ x5.toInt ≤ 9) ∧ 4 ≤ o_pieces.toInt ∧ (-1 : Int) = -3 ∧ o_pieces.toInt = o_pieces.toInt) ∨ ((0 ≤ x1.toInt ∧ x1.toInt < 100 ∧ 1 ≤ x2.toInt ∧ x2.toInt ≤ 24 ∧ 0 ≤ x3.toInt ∧ x3.toInt ≤ 1 ∧ 0 ≤ x4.toInt ∧ x4.toInt ≤ x2.toInt ∧ 0 ≤ x5.toInt ∧ x5.toInt ≤ 9) ∧ o_pieces.toInt < 4 ∧ (-1 : Int) = o_pieces.toInt ∧ o_pieces.toInt = o_pieces.toInt + 1)) from ⟨by omega, by omega, by omega⟩)
        · skip
          have c_15 : ¬ r_13.toInt = (0 : Int) := fun z => c_15 (i_eq.mpr z)
          replace q_14 : (0 : Int) ≤ x4.toInt64.toInt ∧ x4.toInt64.toInt ≤ x2.toInt64.toInt := by omega
          first | (have f_16 : (x5.toInt64).toInt = x5.toInt := j_i2l _) | skip
          refine ok_bd1 (s_X7_in x5.toInt64 0 9) (fun r_17 q_18 => ?_)
          replace q_18 : (r_17.toInt = 1 ∧ (0 : Int) ≤ x5.toInt64.toInt ∧ x5.toInt64.toInt ≤ (9 : Int)) ∨ (r_17.toInt = 0 ∧ (x5.toInt64.toInt < (0 : Int) ∨ (9 : Int) < x5.toInt64.toInt)) := q_18
          refine ok_ite (fun c_19 => ?_) (fun c_19 => ?_)
          · skip
            have c_19 : r_17.toInt = (0 : Int) := i_eq.mp c_19
            replace q_18 : (x5.toInt64.toInt < (0 : Int) ∨ (9 : Int) < x5.toInt64.toInt) := by omega
            exact ok_some (show (0 ≤ o_pieces.toInt) ∧ (o_pieces.toInt ≤ 4) ∧ ((¬ (0 ≤ x1.toInt ∧ x1.toInt < 100 ∧ 1 ≤ x2.toInt ∧ x2.toInt ≤ 24 ∧ 0 ≤ x3.toInt ∧ x3.toInt ≤ 1 ∧ 0 ≤ x4.toInt ∧ x4.toInt ≤ x2.toInt ∧ 0 ≤ x5.toInt ∧ x5.toInt ≤ 9) ∧ (-1 : Int) = -1 ∧ o_pieces.toInt = o_pieces.toInt) ∨ ((0 ≤ x1.toInt ∧ x1.toInt < 100 ∧ 1 ≤ x2.toInt ∧ x2.toInt ≤ 24 ∧ 0 ≤ x3.toInt ∧ x3.toInt ≤ 1 ∧ 0 ≤ x4.toInt ∧ x4.toInt ≤ x2.toInt ∧ 0 ≤ x5.toInt ∧ x5.toInt ≤ 9) ∧ 4 ≤ o_pieces.toInt ∧ (-1 : Int) = -3 ∧ o_pieces.toInt = o_pieces.toInt) ∨ ((0 ≤ x1.toInt ∧ x1.toInt < 100 ∧ 1 ≤ x2.toInt ∧ x2.toInt ≤ 24 ∧ 0 ≤ x3.toInt ∧ x3.toInt ≤ 1 ∧ 0 ≤ x4.toInt ∧ x4.toInt ≤ x2.toInt ∧ 0 ≤ x5.toInt ∧ x5.toInt ≤ 9) ∧ o_pieces.toInt < 4 ∧ (-1 : Int) = o_pieces.toInt ∧ o_pieces.toInt = o_pieces.toInt + 1)) from ⟨by omega, by omega, by omega⟩)
          · skip
            have c_19 : ¬ r_17.toInt = (0 : Int) := fun z => c_19 (i_eq.mpr z)
            replace q_18 : (0 : Int) ≤ x5.toInt64.toInt ∧ x5.toInt64.toInt ≤ (9 : Int) := by omega
            refine ok_ite (fun c_20 => ?_) (fun c_20 => ?_)
            · skip
              have c_20 : o_pieces.toInt = (4 : Int) := i_eq.mp c_20
              exact ok_some (show (0 ≤ o_pieces.toInt) ∧ (o_pieces.toInt ≤ 4) ∧ ((¬ (0 ≤ x1.toInt ∧ x1.toInt < 100 ∧ 1 ≤ x2.toInt ∧ x2.toInt ≤ 24 ∧ 0 ≤ x3.toInt ∧ x3.toInt ≤ 1 ∧ 0 ≤ x4.toInt ∧ x4.toInt ≤ x2.toInt ∧ 0 ≤ x5.toInt ∧ x5.toInt ≤ 9) ∧ (-3 : Int) = -1 ∧ o_pieces.toInt = o_pieces.toInt) ∨ ((0 ≤ x1.toInt ∧ x1.toInt < 100 ∧ 1 ≤ x2.toInt ∧ x2.toInt ≤ 24 ∧ 0 ≤ x3.toInt ∧ x3.toInt ≤ 1 ∧ 0 ≤ x4.toInt ∧ x4.toInt ≤ x2.toInt ∧ 0 ≤ x5.toInt ∧ x5.toInt ≤ 9) ∧ 4 ≤ o_pieces.toInt ∧ (-3 : Int) = -3 ∧ o_pieces.toInt = o_pieces.toInt) ∨ ((0 ≤ x1.toInt ∧ x1.toInt < 100 ∧ 1 ≤ x2.toInt ∧ x2.toInt ≤ 24 ∧ 0 ≤ x3.toInt ∧ x3.toInt ≤ 1 ∧ 0 ≤ x4.toInt ∧ x4.toInt ≤ x2.toInt ∧ 0 ≤ x5.toInt ∧ x5.toInt ≤ 9) ∧ o_pieces.toInt < 4 ∧ (-3 : Int) = o_pieces.toInt ∧ o_pieces.toInt = o_pieces.toInt + 1)) from ⟨by omega, by omega, by omega⟩)
            · skip
              have c_20 : ¬ o_pieces.toInt = (4 : Int) := fun z => c_20 (i_eq.mpr z)
              first | (have f_21 : (5 * o_pieces).toInt = (5 : Int) * o_pieces.toInt := i_mul2 rfl rfl (by omega) (by omega)) | skip
              refine ok_nmi (fun x_22 hx_22 kx_22 => ?_)
              have ix_23 : ¬ (x_22 < 0 ∨ 20 ≤ x_22.toNatClampNeg) := ix (show 0 ≤ x_22.toInt by omega) (show x_22.toInt < (20 : Nat) by omega)
              refine ok_chk ix_23 ?_
              first | (have f_24 : (x_22 + 1).toInt = x_22.toInt + (1 : Int) := i_add2 rfl rfl (by omega) (by omega)) | skip
              have ix_25 : ¬ ((x_22 + 1) < 0 ∨ 20 ≤ (x_22 + 1).toNatClampNeg) := ix (show 0 ≤ (x_22 + 1).toInt by omega) (show (x_22 + 1).toInt < (20 : Nat) by omega)
              refine ok_chk ix_25 ?_
              first | (have f_26 : (x_22 + 2).toInt = x_22.toInt + (2 : Int) := i_add2 rfl rfl (by omega) (by omega)) | skip
              have ix_27 : ¬ ((x_22 + 2) < 0 ∨ 20 ≤ (x_22 + 2).toNatClampNeg) := ix (show 0 ≤ (x_22 + 2).toInt by omega) (show (x_22 + 2).toInt < (20 : Nat) by omega)
              refine ok_chk ix_27 ?_
              first | (have f_28 : (x_22 + 3).toInt = x_22.toInt + (3 : Int) := i_add2 rfl rfl (by omega) (by omega)) | skip
              have ix_29 : ¬ ((x_22 + 3) < 0 ∨ 20 ≤ (x_22 + 3).toNatClampNeg) := ix (show 0 ≤ (x_22 + 3).toInt by omega) (show (x_22 + 3).toInt < (20 : Nat) by omega)
              refine ok_chk ix_29 ?_
              first | (have f_30 : (x_22 + 4).toInt = x_22.toInt + (4 : Int) := i_add2 rfl rfl (by omega) (by omega)) | skip
              have ix_31 : ¬ ((x_22 + 4) < 0 ∨ 20 ≤ (x_22 + 4).toNatClampNeg) := ix (show 0 ≤ (x_22 + 4).toInt by omega) (show (x_22 + 4).toInt < (20 : Nat) by omega)
              refine ok_chk ix_31 ?_
              first | (have f_32 : (o_pieces + 1).toInt = o_pieces.toInt + (1 : Int) := i_add2 rfl rfl (by omega) (by omega)) | skip
              refine ok_nmi (fun x_33 hx_33 kx_33 => ?_)
              first | (have f_34 : (x_33 - 1).toInt = x_33.toInt - (1 : Int) := i_sub2 rfl rfl (by omega) (by omega)) | skip
              exact ok_some (show (0 ≤ x_33.toInt) ∧ (x_33.toInt ≤ 4) ∧ ((¬ (0 ≤ x1.toInt ∧ x1.toInt < 100 ∧ 1 ≤ x2.toInt ∧ x2.toInt ≤ 24 ∧ 0 ≤ x3.toInt ∧ x3.toInt ≤ 1 ∧ 0 ≤ x4.toInt ∧ x4.toInt ≤ x2.toInt ∧ 0 ≤ x5.toInt ∧ x5.toInt ≤ 9) ∧ (x_33 - 1).toInt = -1 ∧ x_33.toInt = o_pieces.toInt) ∨ ((0 ≤ x1.toInt ∧ x1.toInt < 100 ∧ 1 ≤ x2.toInt ∧ x2.toInt ≤ 24 ∧ 0 ≤ x3.toInt ∧ x3.toInt ≤ 1 ∧ 0 ≤ x4.toInt ∧ x4.toInt ≤ x2.toInt ∧ 0 ≤ x5.toInt ∧ x5.toInt ≤ 9) ∧ 4 ≤ o_pieces.toInt ∧ (x_33 - 1).toInt = -3 ∧ x_33.toInt = o_pieces.toInt) ∨ ((0 ≤ x1.toInt ∧ x1.toInt < 100 ∧ 1 ≤ x2.toInt ∧ x2.toInt ≤ 24 ∧ 0 ≤ x3.toInt ∧ x3.toInt ≤ 1 ∧ 0 ≤ x4.toInt ∧ x4.toInt ≤ x2.toInt ∧ 0 ≤ x5.toInt ∧ x5.toInt ≤ 9) ∧ o_pieces.toInt < 4 ∧ (x_33 - 1).toInt = o_pieces.toInt ∧ x_33.toInt = o_pieces.toInt + 1)) from ⟨by omega, by omega, by omega⟩)
set_option maxRecDepth 100000 in
set_option maxHeartbeats 4000000 in
theorem s_X7_drifted (x1 : Int32) (x2 : Int32) (x3 : Int32) (o_sets : Nat → Int32) (o_currents : Nat → Int32) (h0 : 0 ≤ (x1).toInt) (h1 : (x1).toInt ≤ 99) (h2 : 0 ≤ x2.toInt) : okP (f_X7_drifted x1 x2 x3 o_sets o_currents) (fun u => (0 ≤ u.toInt) ∧ (u.toInt ≤ 99)) := by
  unfold f_X7_drifted
  first | (have f_1 : (x2 - x2 / 2 * 2).toInt = x2.toInt % (2 : Int) := i_rem2 rfl rfl (by omega) (by omega)) | skip
  first | (have f_2 : (100 * (x2 - x2 / 2 * 2)).toInt = (100 : Int) * (x2 - x2 / 2 * 2).toInt := i_mul2 rfl rfl (by omega) (by omega)) | skip
  first | (have f_3 : ((100 * (x2 - x2 / 2 * 2)) + x1).toInt = (100 * (x2 - x2 / 2 * 2)).toInt + x1.toInt := i_add2 rfl rfl (by omega) (by omega)) | skip
  have ix_4 : ¬ (((100 * (x2 - x2 / 2 * 2)) + x1) < 0 ∨ 200 ≤ ((100 * (x2 - x2 / 2 * 2)) + x1).toNatClampNeg) := ix (show 0 ≤ ((100 * (x2 - x2 / 2 * 2)) + x1).toInt by omega) (show ((100 * (x2 - x2 / 2 * 2)) + x1).toInt < (200 : Nat) by omega)
  refine ok_chk ix_4 ?_
  refine ok_nmi (fun x_5 hx_5 kx_5 => ?_)
  refine ok_ite (fun c_6 => ?_) (fun c_6 => ?_)
  · skip
    have c_6 : x_5.toInt = (8 : Int) := i_eq.mp c_6
    unfold f_X7_drifted_B33
    refine ok_ite (fun c_7 => ?_) (fun c_7 => ?_)
    · skip
      have c_7 : (0 : Int) ≤ x1.toInt := i_le.mp c_7
      unfold f_X7_drifted_B46
      refine ok_ite (fun c_8 => ?_) (fun c_8 => ?_)
      · skip
        have c_8 : x3.toInt = (0 : Int) := i_eq.mp c_8
        unfold f_X7_drifted_B64
        unfold f_X7_drifted_B82
        refine ok_ite (fun c_9 => ?_) (fun c_9 => ?_)
        · skip
          have c_9 : (0 : Int) ≤ x1.toInt := i_le.mp c_9
          exact ok_some (show (0 ≤ x1.toInt) ∧ (x1.toInt ≤ 99) from ⟨by omega, by omega⟩)
        · skip
          have c_9 : ¬ (0 : Int) ≤ x1.toInt := fun z => c_9 (i_le.mpr z)
          exact ok_some (show (0 ≤ x1.toInt) ∧ (x1.toInt ≤ 99) from ⟨by omega, by omega⟩)
      · skip
        have c_8 : ¬ x3.toInt = (0 : Int) := fun z => c_8 (i_eq.mpr z)
        refine ok_ite (fun c_10 => ?_) (fun c_10 => ?_)
        · skip
          have c_10 : (o_sets 7).toInt = (8 : Int) := i_eq.mp c_10
          unfold f_X7_drifted_B64
          unfold f_X7_drifted_B82
          refine ok_ite (fun c_11 => ?_) (fun c_11 => ?_)
          · skip
            have c_11 : (0 : Int) ≤ x1.toInt := i_le.mp c_11
            exact ok_some (show (0 ≤ x1.toInt) ∧ (x1.toInt ≤ 99) from ⟨by omega, by omega⟩)
          · skip
            have c_11 : ¬ (0 : Int) ≤ x1.toInt := fun z => c_11 (i_le.mpr z)
            exact ok_some (show (0 ≤ x1.toInt) ∧ (x1.toInt ≤ 99) from ⟨by omega, by omega⟩)
        · skip
          have c_10 : ¬ (o_sets 7).toInt = (8 : Int) := fun z => c_10 (i_eq.mpr z)
          refine ok_bd1 (s_X7_gone x1 (o_sets 7) 1) (fun r_12 q_13 => ?_)
          replace q_13 : r_12.toInt = -4 ∨ (0 ≤ r_12.toInt ∧ r_12.toInt ≤ 99) := q_13
          unfold f_X7_drifted_B82
          refine ok_ite (fun c_14 => ?_) (fun c_14 => ?_)
          · skip
            have c_14 : (0 : Int) ≤ r_12.toInt := i_le.mp c_14
            exact ok_some (show (0 ≤ r_12.toInt) ∧ (r_12.toInt ≤ 99) from ⟨by omega, by omega⟩)
          · skip
            have c_14 : ¬ (0 : Int) ≤ r_12.toInt := fun z => c_14 (i_le.mpr z)
            exact ok_some (show (0 ≤ x1.toInt) ∧ (x1.toInt ≤ 99) from ⟨by omega, by omega⟩)
    · skip
      have c_7 : ¬ (0 : Int) ≤ x1.toInt := fun z => c_7 (i_le.mpr z)
      unfold f_X7_drifted_B46
      refine ok_ite (fun c_15 => ?_) (fun c_15 => ?_)
      · skip
        have c_15 : x3.toInt = (0 : Int) := i_eq.mp c_15
        unfold f_X7_drifted_B64
        unfold f_X7_drifted_B82
        refine ok_ite (fun c_16 => ?_) (fun c_16 => ?_)
        · skip
          have c_16 : (0 : Int) ≤ x1.toInt := i_le.mp c_16
          exact ok_some (show (0 ≤ x1.toInt) ∧ (x1.toInt ≤ 99) from ⟨by omega, by omega⟩)
        · skip
          have c_16 : ¬ (0 : Int) ≤ x1.toInt := fun z => c_16 (i_le.mpr z)
          exact ok_some (show (0 ≤ x1.toInt) ∧ (x1.toInt ≤ 99) from ⟨by omega, by omega⟩)
      · skip
        have c_15 : ¬ x3.toInt = (0 : Int) := fun z => c_15 (i_eq.mpr z)
        refine ok_ite (fun c_17 => ?_) (fun c_17 => ?_)
        · skip
          have c_17 : (o_sets 7).toInt = (8 : Int) := i_eq.mp c_17
          unfold f_X7_drifted_B64
          unfold f_X7_drifted_B82
          refine ok_ite (fun c_18 => ?_) (fun c_18 => ?_)
          · skip
            have c_18 : (0 : Int) ≤ x1.toInt := i_le.mp c_18
            exact ok_some (show (0 ≤ x1.toInt) ∧ (x1.toInt ≤ 99) from ⟨by omega, by omega⟩)
          · skip
            have c_18 : ¬ (0 : Int) ≤ x1.toInt := fun z => c_18 (i_le.mpr z)
            exact ok_some (show (0 ≤ x1.toInt) ∧ (x1.toInt ≤ 99) from ⟨by omega, by omega⟩)
        · skip
          have c_17 : ¬ (o_sets 7).toInt = (8 : Int) := fun z => c_17 (i_eq.mpr z)
          refine ok_bd1 (s_X7_gone x1 (o_sets 7) 1) (fun r_19 q_20 => ?_)
          replace q_20 : r_19.toInt = -4 ∨ (0 ≤ r_19.toInt ∧ r_19.toInt ≤ 99) := q_20
          unfold f_X7_drifted_B82
          refine ok_ite (fun c_21 => ?_) (fun c_21 => ?_)
          · skip
            have c_21 : (0 : Int) ≤ r_19.toInt := i_le.mp c_21
            exact ok_some (show (0 ≤ r_19.toInt) ∧ (r_19.toInt ≤ 99) from ⟨by omega, by omega⟩)
          · skip
            have c_21 : ¬ (0 : Int) ≤ r_19.toInt := fun z => c_21 (i_le.mpr z)
            exact ok_some (show (0 ≤ x1.toInt) ∧ (x1.toInt ≤ 99) from ⟨by omega, by omega⟩)
  · skip
    have c_6 : ¬ x_5.toInt = (8 : Int) := fun z => c_6 (i_eq.mpr z)
    refine ok_bd1 (s_X7_gone x1 x_5 1) (fun r_22 q_23 => ?_)
    replace q_23 : r_22.toInt = -4 ∨ (0 ≤ r_22.toInt ∧ r_22.toInt ≤ 99) := q_23
    unfold f_X7_drifted_B33
    refine ok_ite (fun c_24 => ?_) (fun c_24 => ?_)
    · skip
      have c_24 : (0 : Int) ≤ r_22.toInt := i_le.mp c_24
      unfold f_X7_drifted_B46
      refine ok_ite (fun c_25 => ?_) (fun c_25 => ?_)
      · skip
        have c_25 : x3.toInt = (0 : Int) := i_eq.mp c_25
        unfold f_X7_drifted_B64
        unfold f_X7_drifted_B82
        refine ok_ite (fun c_26 => ?_) (fun c_26 => ?_)
        · skip
          have c_26 : (0 : Int) ≤ r_22.toInt := i_le.mp c_26
          exact ok_some (show (0 ≤ r_22.toInt) ∧ (r_22.toInt ≤ 99) from ⟨by omega, by omega⟩)
        · skip
          have c_26 : ¬ (0 : Int) ≤ r_22.toInt := fun z => c_26 (i_le.mpr z)
          exact ok_some (show (0 ≤ r_22.toInt) ∧ (r_22.toInt ≤ 99) from ⟨by omega, by omega⟩)
      · skip
        have c_25 : ¬ x3.toInt = (0 : Int) := fun z => c_25 (i_eq.mpr z)
        refine ok_ite (fun c_27 => ?_) (fun c_27 => ?_)
        · skip
          have c_27 : (o_sets 7).toInt = (8 : Int) := i_eq.mp c_27
          unfold f_X7_drifted_B64
          unfold f_X7_drifted_B82
          refine ok_ite (fun c_28 => ?_) (fun c_28 => ?_)
          · skip
            have c_28 : (0 : Int) ≤ r_22.toInt := i_le.mp c_28
            exact ok_some (show (0 ≤ r_22.toInt) ∧ (r_22.toInt ≤ 99) from ⟨by omega, by omega⟩)
          · skip
            have c_28 : ¬ (0 : Int) ≤ r_22.toInt := fun z => c_28 (i_le.mpr z)
            exact ok_some (show (0 ≤ r_22.toInt) ∧ (r_22.toInt ≤ 99) from ⟨by omega, by omega⟩)
        · skip
          have c_27 : ¬ (o_sets 7).toInt = (8 : Int) := fun z => c_27 (i_eq.mpr z)
          refine ok_bd1 (s_X7_gone r_22 (o_sets 7) 1) (fun r_29 q_30 => ?_)
          replace q_30 : r_29.toInt = -4 ∨ (0 ≤ r_29.toInt ∧ r_29.toInt ≤ 99) := q_30
          unfold f_X7_drifted_B82
          refine ok_ite (fun c_31 => ?_) (fun c_31 => ?_)
          · skip
            have c_31 : (0 : Int) ≤ r_29.toInt := i_le.mp c_31
            exact ok_some (show (0 ≤ r_29.toInt) ∧ (r_29.toInt ≤ 99) from ⟨by omega, by omega⟩)
          · skip
            have c_31 : ¬ (0 : Int) ≤ r_29.toInt := fun z => c_31 (i_le.mpr z)
            exact ok_some (show (0 ≤ r_22.toInt) ∧ (r_22.toInt ≤ 99) from ⟨by omega, by omega⟩)
    · skip
      have c_24 : ¬ (0 : Int) ≤ r_22.toInt := fun z => c_24 (i_le.mpr z)
      unfold f_X7_drifted_B46
      refine ok_ite (fun c_32 => ?_) (fun c_32 => ?_)
      · skip
        have c_32 : x3.toInt = (0 : Int) := i_eq.mp c_32
        unfold f_X7_drifted_B64
        unfold f_X7_drifted_B82
        refine ok_ite (fun c_33 => ?_) (fun c_33 => ?_)
        · skip
          have c_33 : (0 : Int) ≤ x1.toInt := i_le.mp c_33
          exact ok_some (show (0 ≤ x1.toInt) ∧ (x1.toInt ≤ 99) from ⟨by omega, by omega⟩)
        · skip
          have c_33 : ¬ (0 : Int) ≤ x1.toInt := fun z => c_33 (i_le.mpr z)
          exact ok_some (show (0 ≤ x1.toInt) ∧ (x1.toInt ≤ 99) from ⟨by omega, by omega⟩)
      · skip
        have c_32 : ¬ x3.toInt = (0 : Int) := fun z => c_32 (i_eq.mpr z)
        refine ok_ite (fun c_34 => ?_) (fun c_34 => ?_)
        · skip
          have c_34 : (o_sets 7).toInt = (8 : Int) := i_eq.mp c_34
          unfold f_X7_drifted_B64
          unfold f_X7_drifted_B82
          refine ok_ite (fun c_35 => ?_) (fun c_35 => ?_)
          · skip
            have c_35 : (0 : Int) ≤ x1.toInt := i_le.mp c_35
            exact ok_some (show (0 ≤ x1.toInt) ∧ (x1.toInt ≤ 99) from ⟨by omega, by omega⟩)
          · skip
            have c_35 : ¬ (0 : Int) ≤ x1.toInt := fun z => c_35 (i_le.mpr z)
            exact ok_some (show (0 ≤ x1.toInt) ∧ (x1.toInt ≤ 99) from ⟨by omega, by omega⟩)
        · skip
          have c_34 : ¬ (o_sets 7).toInt = (8 : Int) := fun z => c_34 (i_eq.mpr z)
          refine ok_bd1 (s_X7_gone x1 (o_sets 7) 1) (fun r_36 q_37 => ?_)
          replace q_37 : r_36.toInt = -4 ∨ (0 ≤ r_36.toInt ∧ r_36.toInt ≤ 99) := q_37
          unfold f_X7_drifted_B82
          refine ok_ite (fun c_38 => ?_) (fun c_38 => ?_)
          · skip
            have c_38 : (0 : Int) ≤ r_36.toInt := i_le.mp c_38
            exact ok_some (show (0 ≤ r_36.toInt) ∧ (r_36.toInt ≤ 99) from ⟨by omega, by omega⟩)
          · skip
            have c_38 : ¬ (0 : Int) ≤ r_36.toInt := fun z => c_38 (i_le.mpr z)
            exact ok_some (show (0 ≤ x1.toInt) ∧ (x1.toInt ≤ 99) from ⟨by omega, by omega⟩)
set_option maxRecDepth 100000 in
set_option maxHeartbeats 4000000 in
theorem s_X7_driftTo (x1 : Int32) (x2 : Int32) (x3 : Int32) (o_sets : Nat → Int32) (o_currents : Nat → Int32) (h0 : 0 ≤ (x1).toInt) (h1 : (x1).toInt ≤ 99) : okP (f_X7_driftTo x1 x2 x3 o_sets o_currents) (fun u => (0 ≤ u.toInt) ∧ (u.toInt ≤ 99)) := by
  have hiv_x2 := i_hi x2
  have l6 : ∀ (n : Nat) (v2 : Int32) (v3 : Int32) (v4 : Int32) (v5 : Int32), (v2.toInt - v5.toInt).toNat < n → (v2.toInt = x2.toInt) → (0 ≤ (v4).toInt) → ((v4).toInt ≤ 99) → (0 ≤ v5.toInt) → okP (f_X7_driftTo_L6 n v2 v3 v4 v5 o_sets o_currents) (fun u => (0 ≤ u.toInt) ∧ (u.toInt ≤ 99)) := by
    intro n
    induction n with
    | zero =>
      intro v2 v3 v4 v5 hm
      exact absurd hm (Nat.not_lt_zero _)
    | succ n6 ih6 =>
      intro v2 v3 v4 v5 hm6 g6_0 g6_1 g6_2 g6_3
      show okP (f_X7_driftTo_L6b (f_X7_driftTo_L6 n6) v2 v3 v4 v5 o_sets o_currents) (fun u => (0 ≤ u.toInt) ∧ (u.toInt ≤ 99))
      unfold f_X7_driftTo_L6b
      refine ok_ite (fun c_1 => ?_) (fun c_1 => ?_)
      · skip
        have c_1 : v2.toInt ≤ v5.toInt := i_le.mp c_1
        exact ok_some (show (0 ≤ v4.toInt) ∧ (v4.toInt ≤ 99) from ⟨by omega, by omega⟩)
      · skip
        have c_1 : ¬ v2.toInt ≤ v5.toInt := fun z => c_1 (i_le.mpr z)
        refine ok_bd1 (s_X7_drifted v4 v5 v3 o_sets o_currents (show 0 ≤ (v4).toInt by omega) (show (v4).toInt ≤ 99 by omega) (show 0 ≤ v5.toInt by omega)) (fun r_2 q_3 => ?_)
        obtain ⟨q_3_0, q_3_1⟩ : (0 ≤ r_2.toInt) ∧ (r_2.toInt ≤ 99) := q_3
        first | (have f_4 : (v5 + 1).toInt = v5.toInt + (1 : Int) := i_add2 rfl rfl (by omega) (by omega)) | skip
        refine ok_nmi (fun x_5 hx_5 kx_5 => ?_)
        exact ih6 v2 v3 r_2 x_5 (show (v2.toInt - x_5.toInt).toNat < n6 by omega) (show v2.toInt = x2.toInt by omega) (show 0 ≤ (r_2).toInt by omega) (show (r_2).toInt ≤ 99 by omega) (show 0 ≤ x_5.toInt by omega)
  unfold f_X7_driftTo
  exact l6 FU x2 x3 x1 0 (FU_gt (show (x2.toInt - (0 : Int)).toNat < 1000000000000 by omega)) (show x2.toInt = x2.toInt by omega) (show 0 ≤ (x1).toInt by omega) (show (x1).toInt ≤ 99 by omega) (show 0 ≤ (0 : Int) by omega)
set_option maxRecDepth 100000 in
set_option maxHeartbeats 4000000 in
theorem s_X7_drift (x1 : Int32) (x2 : Int32) (x3 : Int32) (o_sets : Nat → Int32) (o_currents : Nat → Int32) : okP (f_X7_drift x1 x2 x3 o_sets o_currents) (fun u => True) := by
  unfold f_X7_drift
  refine ok_bd1 (s_X7_isCell x1) (fun r_1 q_2 => ?_)
  replace q_2 : (r_1.toInt = 1 ∧ 0 ≤ x1.toInt ∧ x1.toInt < 100) ∨ (r_1.toInt = 0 ∧ (x1.toInt < 0 ∨ 100 ≤ x1.toInt)) := q_2
  refine ok_ite (fun c_3 => ?_) (fun c_3 => ?_)
  · skip
    have c_3 : r_1.toInt = (0 : Int) := i_eq.mp c_3
    replace q_2 : (x1.toInt < 0 ∨ 100 ≤ x1.toInt) := by omega
    exact ok_some trivial
  · skip
    have c_3 : ¬ r_1.toInt = (0 : Int) := fun z => c_3 (i_eq.mpr z)
    replace q_2 : 0 ≤ x1.toInt ∧ x1.toInt < 100 := by omega
    first | (have f_4 : (x2.toInt64).toInt = x2.toInt := j_i2l _) | skip
    refine ok_bd1 (s_X7_in x2.toInt64 0 24) (fun r_5 q_6 => ?_)
    replace q_6 : (r_5.toInt = 1 ∧ (0 : Int) ≤ x2.toInt64.toInt ∧ x2.toInt64.toInt ≤ (24 : Int)) ∨ (r_5.toInt = 0 ∧ (x2.toInt64.toInt < (0 : Int) ∨ (24 : Int) < x2.toInt64.toInt)) := q_6
    refine ok_ite (fun c_7 => ?_) (fun c_7 => ?_)
    · skip
      have c_7 : r_5.toInt = (0 : Int) := i_eq.mp c_7
      replace q_6 : (x2.toInt64.toInt < (0 : Int) ∨ (24 : Int) < x2.toInt64.toInt) := by omega
      exact ok_some trivial
    · skip
      have c_7 : ¬ r_5.toInt = (0 : Int) := fun z => c_7 (i_eq.mpr z)
      replace q_6 : (0 : Int) ≤ x2.toInt64.toInt ∧ x2.toInt64.toInt ≤ (24 : Int) := by omega
      first | (have f_8 : (x3.toInt64).toInt = x3.toInt := j_i2l _) | skip
      refine ok_bd1 (s_X7_in x3.toInt64 0 1) (fun r_9 q_10 => ?_)
      replace q_10 : (r_9.toInt = 1 ∧ (0 : Int) ≤ x3.toInt64.toInt ∧ x3.toInt64.toInt ≤ (1 : Int)) ∨ (r_9.toInt = 0 ∧ (x3.toInt64.toInt < (0 : Int) ∨ (1 : Int) < x3.toInt64.toInt)) := q_10
      refine ok_ite (fun c_11 => ?_) (fun c_11 => ?_)
      · skip
        have c_11 : r_9.toInt = (0 : Int) := i_eq.mp c_11
        replace q_10 : (x3.toInt64.toInt < (0 : Int) ∨ (1 : Int) < x3.toInt64.toInt) := by omega
        exact ok_some trivial
      · skip
        have c_11 : ¬ r_9.toInt = (0 : Int) := fun z => c_11 (i_eq.mpr z)
        replace q_10 : (0 : Int) ≤ x3.toInt64.toInt ∧ x3.toInt64.toInt ≤ (1 : Int) := by omega
        refine ok_bd1 (s_X7_driftTo x1 x2 x3 o_sets o_currents (show 0 ≤ (x1).toInt by omega) (show (x1).toInt ≤ 99 by omega)) (fun r_12 q_13 => ?_)
        obtain ⟨q_13_0, q_13_1⟩ : (0 ≤ r_12.toInt) ∧ (r_12.toInt ≤ 99) := q_13
        exact ok_some trivial
set_option maxRecDepth 100000 in
set_option maxHeartbeats 4000000 in
theorem s_X7_fit (x1 : Int32) (x2 : Int32) (o_sets : Nat → Int32) (o_currents : Nat → Int32) (o_warmths : Nat → Int32) (o_pieceParts : Nat → Int32) (h0 : 0 ≤ (x1).toInt) (h1 : (x1).toInt ≤ 3) (h2 : 0 ≤ (x2).toInt) (h3 : (x2).toInt ≤ 99) : okP (f_X7_fit x1 x2 o_sets o_currents o_warmths o_pieceParts) (fun u => True) := by
  have l23 : ∀ (n : Nat) (v3 : Int32) (v4 : Int32) (v5 : Int32) (v6 : Int32) (v7 : Int32), (v4.toInt - v7.toInt).toNat < n → (0 ≤ (v3).toInt) → ((v3).toInt ≤ 15) → (0 ≤ (v5).toInt) → ((v5).toInt ≤ 99) → (v6.toInt = 0 ∨ v6.toInt = 1) → (0 ≤ v7.toInt) → okP (f_X7_fit_L23 n v3 v4 v5 v6 v7 o_sets o_currents o_warmths o_pieceParts) (fun u => True) := by
    intro n
    induction n with
    | zero =>
      intro v3 v4 v5 v6 v7 hm
      exact absurd hm (Nat.not_lt_zero _)
    | succ n23 ih23 =>
      intro v3 v4 v5 v6 v7 hm23 g23_0 g23_1 g23_2 g23_3 g23_4 g23_5
      show okP (f_X7_fit_L23b (f_X7_fit_L23 n23) v3 v4 v5 v6 v7 o_sets o_currents o_warmths o_pieceParts) (fun u => True)
      unfold f_X7_fit_L23b
      have hiv_v4 := i_hi v4
      refine ok_ite (fun c_1 => ?_) (fun c_1 => ?_)
      · skip
        have c_1 : v4.toInt ≤ v7.toInt := i_le.mp c_1
        first | (have f_2 : (v5 / 10).toInt = v5.toInt / (10 : Int) := i_div2 rfl rfl (by omega) (by omega)) | skip
        have ix_3 : ¬ (v3 < 0 ∨ 20 ≤ v3.toNatClampNeg) := ix (show 0 ≤ v3.toInt by omega) (show v3.toInt < (20 : Nat) by omega)
        refine ok_chk ix_3 ?_
        first | (have f_4 : ((o_pieceParts v3.toNatClampNeg) / 10).toInt = (o_pieceParts v3.toNatClampNeg).toInt / (10 : Int) := i_div2 rfl rfl (by omega) (by omega)) | skip
        first | (have f_5 : ((v5 / 10) - ((o_pieceParts v3.toNatClampNeg) / 10)).toInt = (v5 / 10).toInt - ((o_pieceParts v3.toNatClampNeg) / 10).toInt := i_sub2 rfl rfl (by omega) (by omega)) | skip
        refine ok_nmi (fun x_6 hx_6 kx_6 => ?_)
        first | (have f_7 : (v5 - v5 / 10 * 10).toInt = v5.toInt % (10 : Int) := i_rem2 rfl rfl (by omega) (by omega)) | skip
        refine ok_chk ix_3 ?_
        first | (have f_8 : ((o_pieceParts v3.toNatClampNeg) - (o_pieceParts v3.toNatClampNeg) / 10 * 10).toInt = (o_pieceParts v3.toNatClampNeg).toInt % (10 : Int) := i_rem2 rfl rfl (by omega) (by omega)) | skip
        first | (have f_9 : ((v5 - v5 / 10 * 10) - ((o_pieceParts v3.toNatClampNeg) - (o_pieceParts v3.toNatClampNeg) / 10 * 10)).toInt = (v5 - v5 / 10 * 10).toInt - ((o_pieceParts v3.toNatClampNeg) - (o_pieceParts v3.toNatClampNeg) / 10 * 10).toInt := i_sub2 rfl rfl (by omega) (by omega)) | skip
        refine ok_nmi (fun x_10 hx_10 kx_10 => ?_)
        first | (have f_11 : (x_6.toInt64).toInt = x_6.toInt := j_i2l _) | skip
        refine ok_bd1 (s_X7_in x_6.toInt64 (-1) 1) (fun r_12 q_13 => ?_)
        replace q_13 : (r_12.toInt = 1 ∧ (-1 : Int) ≤ x_6.toInt64.toInt ∧ x_6.toInt64.toInt ≤ (1 : Int)) ∨ (r_12.toInt = 0 ∧ (x_6.toInt64.toInt < (-1 : Int) ∨ (1 : Int) < x_6.toInt64.toInt)) := q_13
        refine ok_ite (fun c_14 => ?_) (fun c_14 => ?_)
        · skip
          have c_14 : r_12.toInt = (0 : Int) := i_eq.mp c_14
          replace q_13 : (x_6.toInt64.toInt < (-1 : Int) ∨ (1 : Int) < x_6.toInt64.toInt) := by omega
          unfold f_X7_fit_B172
          unfold f_X7_fit_B173
          refine ok_ite (fun c_15 => ?_) (fun c_15 => ?_)
          · skip
            have c_15 : v6.toInt = (0 : Int) := i_eq.mp c_15
            exact ok_some trivial
          · skip
            have c_15 : ¬ v6.toInt = (0 : Int) := fun z => c_15 (i_eq.mpr z)
            refine ok_ite (fun c_16 => ?_) (fun c_16 => ?_)
            · skip
              exact ok_some trivial
            · skip
              exact absurd c_16 (by decide)
        · skip
          have c_14 : ¬ r_12.toInt = (0 : Int) := fun z => c_14 (i_eq.mpr z)
          replace q_13 : (-1 : Int) ≤ x_6.toInt64.toInt ∧ x_6.toInt64.toInt ≤ (1 : Int) := by omega
          first | (have f_17 : (x_10.toInt64).toInt = x_10.toInt := j_i2l _) | skip
          refine ok_bd1 (s_X7_in x_10.toInt64 (-1) 1) (fun r_18 q_19 => ?_)
          replace q_19 : (r_18.toInt = 1 ∧ (-1 : Int) ≤ x_10.toInt64.toInt ∧ x_10.toInt64.toInt ≤ (1 : Int)) ∨ (r_18.toInt = 0 ∧ (x_10.toInt64.toInt < (-1 : Int) ∨ (1 : Int) < x_10.toInt64.toInt)) := q_19
          refine ok_ite (fun c_20 => ?_) (fun c_20 => ?_)
          · skip
            have c_20 : r_18.toInt = (0 : Int) := i_eq.mp c_20
            replace q_19 : (x_10.toInt64.toInt < (-1 : Int) ∨ (1 : Int) < x_10.toInt64.toInt) := by omega
            unfold f_X7_fit_B172
            unfold f_X7_fit_B173
            refine ok_ite (fun c_21 => ?_) (fun c_21 => ?_)
            · skip
              have c_21 : v6.toInt = (0 : Int) := i_eq.mp c_21
              exact ok_some trivial
            · skip
              have c_21 : ¬ v6.toInt = (0 : Int) := fun z => c_21 (i_eq.mpr z)
              refine ok_ite (fun c_22 => ?_) (fun c_22 => ?_)
              · skip
                exact ok_some trivial
              · skip
                exact absurd c_22 (by decide)
          · skip
            have c_20 : ¬ r_18.toInt = (0 : Int) := fun z => c_20 (i_eq.mpr z)
            replace q_19 : (-1 : Int) ≤ x_10.toInt64.toInt ∧ x_10.toInt64.toInt ≤ (1 : Int) := by omega
            unfold f_X7_fit_B173
            refine ok_ite (fun c_23 => ?_) (fun c_23 => ?_)
            · skip
              have c_23 : v6.toInt = (0 : Int) := i_eq.mp c_23
              exact ok_some trivial
            · skip
              have c_23 : ¬ v6.toInt = (0 : Int) := fun z => c_23 (i_eq.mpr z)
              refine ok_ite (fun c_24 => ?_) (fun c_24 => ?_)
              · skip
                exact absurd c_24 (by decide)
              · skip
                refine ok_chk ix_3 ?_
                refine ok_ite (fun c_25 => ?_) (fun c_25 => ?_)
                · skip
                  have c_25 : v5.toInt = (o_pieceParts v3.toNatClampNeg).toInt := i_eq.mp c_25
                  exact ok_some trivial
                · skip
                  have c_25 : ¬ v5.toInt = (o_pieceParts v3.toNatClampNeg).toInt := fun z => c_25 (i_eq.mpr z)
                  exact ok_some trivial
      · skip
        have c_1 : ¬ v4.toInt ≤ v7.toInt := fun z => c_1 (i_le.mpr z)
        refine ok_ite (fun c_26 => ?_) (fun c_26 => ?_)
        · skip
          have c_26 : v6.toInt = (0 : Int) := i_eq.mp c_26
          unfold f_X7_fit_B81
          unfold f_X7_fit_B82
          first | (have f_27 : (v3 + 2).toInt = v3.toInt + (2 : Int) := i_add2 rfl rfl (by omega) (by omega)) | skip
          have ix_28 : ¬ ((v3 + 2) < 0 ∨ 20 ≤ (v3 + 2).toNatClampNeg) := ix (show 0 ≤ (v3 + 2).toInt by omega) (show (v3 + 2).toInt < (20 : Nat) by omega)
          refine ok_chk ix_28 ?_
          refine ok_bd1 (s_X7_drifted v5 v7 (o_pieceParts (v3 + 2).toNatClampNeg) o_sets o_currents (show 0 ≤ (v5).toInt by omega) (show (v5).toInt ≤ 99 by omega) (show 0 ≤ v7.toInt by omega)) (fun r_29 q_30 => ?_)
          obtain ⟨q_30_0, q_30_1⟩ : (0 ≤ r_29.toInt) ∧ (r_29.toInt ≤ 99) := q_30
          first | (have f_31 : (v7 + 1).toInt = v7.toInt + (1 : Int) := i_add2 rfl rfl (by omega) (by omega)) | skip
          refine ok_nmi (fun x_32 hx_32 kx_32 => ?_)
          exact ih23 v3 v4 r_29 0 x_32 (show (v4.toInt - x_32.toInt).toNat < n23 by omega) (show 0 ≤ (v3).toInt by omega) (show (v3).toInt ≤ 15 by omega) (show 0 ≤ (r_29).toInt by omega) (show (r_29).toInt ≤ 99 by omega) (show (0 : Int) = 0 ∨ (0 : Int) = 1 by omega) (show 0 ≤ x_32.toInt by omega)
        · skip
          have c_26 : ¬ v6.toInt = (0 : Int) := fun z => c_26 (i_eq.mpr z)
          first | (have f_33 : (v3 + 3).toInt = v3.toInt + (3 : Int) := i_add2 rfl rfl (by omega) (by omega)) | skip
          have ix_34 : ¬ ((v3 + 3) < 0 ∨ 20 ≤ (v3 + 3).toNatClampNeg) := ix (show 0 ≤ (v3 + 3).toInt by omega) (show (v3 + 3).toInt < (20 : Nat) by omega)
          refine ok_chk ix_34 ?_
          first | (have f_35 : (v4 - (o_pieceParts (v3 + 3).toNatClampNeg)).toInt = v4.toInt - (o_pieceParts (v3 + 3).toNatClampNeg).toInt := i_sub2 rfl rfl (by omega) (by omega)) | skip
          refine ok_ite (fun c_36 => ?_) (fun c_36 => ?_)
          · skip
            have c_36 : v7.toInt < (v4 - (o_pieceParts (v3 + 3).toNatClampNeg)).toInt := i_lt.mp c_36
            unfold f_X7_fit_B77
            unfold f_X7_fit_B82
            first | (have f_37 : (v3 + 2).toInt = v3.toInt + (2 : Int) := i_add2 rfl rfl (by omega) (by omega)) | skip
            have ix_38 : ¬ ((v3 + 2) < 0 ∨ 20 ≤ (v3 + 2).toNatClampNeg) := ix (show 0 ≤ (v3 + 2).toInt by omega) (show (v3 + 2).toInt < (20 : Nat) by omega)
            refine ok_chk ix_38 ?_
            refine ok_bd1 (s_X7_drifted v5 v7 (o_pieceParts (v3 + 2).toNatClampNeg) o_sets o_currents (show 0 ≤ (v5).toInt by omega) (show (v5).toInt ≤ 99 by omega) (show 0 ≤ v7.toInt by omega)) (fun r_39 q_40 => ?_)
            obtain ⟨q_40_0, q_40_1⟩ : (0 ≤ r_39.toInt) ∧ (r_39.toInt ≤ 99) := q_40
            first | (have f_41 : (v7 + 1).toInt = v7.toInt + (1 : Int) := i_add2 rfl rfl (by omega) (by omega)) | skip
            refine ok_nmi (fun x_42 hx_42 kx_42 => ?_)
            exact ih23 v3 v4 r_39 1 x_42 (show (v4.toInt - x_42.toInt).toNat < n23 by omega) (show 0 ≤ (v3).toInt by omega) (show (v3).toInt ≤ 15 by omega) (show 0 ≤ (r_39).toInt by omega) (show (r_39).toInt ≤ 99 by omega) (show (1 : Int) = 0 ∨ (1 : Int) = 1 by omega) (show 0 ≤ x_42.toInt by omega)
          · skip
            have c_36 : ¬ v7.toInt < (v4 - (o_pieceParts (v3 + 3).toNatClampNeg)).toInt := fun z => c_36 (i_lt.mpr z)
            first | (have f_43 : (v7 - v7 / 2 * 2).toInt = v7.toInt % (2 : Int) := i_rem2 rfl rfl (by omega) (by omega)) | skip
            first | (have f_44 : (100 * (v7 - v7 / 2 * 2)).toInt = (100 : Int) * (v7 - v7 / 2 * 2).toInt := i_mul2 rfl rfl (by omega) (by omega)) | skip
            first | (have f_45 : ((100 * (v7 - v7 / 2 * 2)) + v5).toInt = (100 * (v7 - v7 / 2 * 2)).toInt + v5.toInt := i_add2 rfl rfl (by omega) (by omega)) | skip
            have ix_46 : ¬ (((100 * (v7 - v7 / 2 * 2)) + v5) < 0 ∨ 200 ≤ ((100 * (v7 - v7 / 2 * 2)) + v5).toNatClampNeg) := ix (show 0 ≤ ((100 * (v7 - v7 / 2 * 2)) + v5).toInt by omega) (show ((100 * (v7 - v7 / 2 * 2)) + v5).toInt < (200 : Nat) by omega)
            refine ok_chk ix_46 ?_
            first | (have f_47 : (v3 + 4).toInt = v3.toInt + (4 : Int) := i_add2 rfl rfl (by omega) (by omega)) | skip
            have ix_48 : ¬ ((v3 + 4) < 0 ∨ 20 ≤ (v3 + 4).toNatClampNeg) := ix (show 0 ≤ (v3 + 4).toInt by omega) (show (v3 + 4).toInt < (20 : Nat) by omega)
            refine ok_chk ix_48 ?_
            refine ok_ite (fun c_49 => ?_) (fun c_49 => ?_)
            · skip
              have c_49 : (o_warmths ((100 * (v7 - v7 / 2 * 2)) + v5).toNatClampNeg).toInt < (o_pieceParts (v3 + 4).toNatClampNeg).toInt := i_lt.mp c_49
              unfold f_X7_fit_B81
              unfold f_X7_fit_B82
              first | (have f_50 : (v3 + 2).toInt = v3.toInt + (2 : Int) := i_add2 rfl rfl (by omega) (by omega)) | skip
              have ix_51 : ¬ ((v3 + 2) < 0 ∨ 20 ≤ (v3 + 2).toNatClampNeg) := ix (show 0 ≤ (v3 + 2).toInt by omega) (show (v3 + 2).toInt < (20 : Nat) by omega)
              refine ok_chk ix_51 ?_
              refine ok_bd1 (s_X7_drifted v5 v7 (o_pieceParts (v3 + 2).toNatClampNeg) o_sets o_currents (show 0 ≤ (v5).toInt by omega) (show (v5).toInt ≤ 99 by omega) (show 0 ≤ v7.toInt by omega)) (fun r_52 q_53 => ?_)
              obtain ⟨q_53_0, q_53_1⟩ : (0 ≤ r_52.toInt) ∧ (r_52.toInt ≤ 99) := q_53
              first | (have f_54 : (v7 + 1).toInt = v7.toInt + (1 : Int) := i_add2 rfl rfl (by omega) (by omega)) | skip
              refine ok_nmi (fun x_55 hx_55 kx_55 => ?_)
              exact ih23 v3 v4 r_52 0 x_55 (show (v4.toInt - x_55.toInt).toNat < n23 by omega) (show 0 ≤ (v3).toInt by omega) (show (v3).toInt ≤ 15 by omega) (show 0 ≤ (r_52).toInt by omega) (show (r_52).toInt ≤ 99 by omega) (show (0 : Int) = 0 ∨ (0 : Int) = 1 by omega) (show 0 ≤ x_55.toInt by omega)
            · skip
              have c_49 : ¬ (o_warmths ((100 * (v7 - v7 / 2 * 2)) + v5).toNatClampNeg).toInt < (o_pieceParts (v3 + 4).toNatClampNeg).toInt := fun z => c_49 (i_lt.mpr z)
              unfold f_X7_fit_B77
              unfold f_X7_fit_B82
              first | (have f_56 : (v3 + 2).toInt = v3.toInt + (2 : Int) := i_add2 rfl rfl (by omega) (by omega)) | skip
              have ix_57 : ¬ ((v3 + 2) < 0 ∨ 20 ≤ (v3 + 2).toNatClampNeg) := ix (show 0 ≤ (v3 + 2).toInt by omega) (show (v3 + 2).toInt < (20 : Nat) by omega)
              refine ok_chk ix_57 ?_
              refine ok_bd1 (s_X7_drifted v5 v7 (o_pieceParts (v3 + 2).toNatClampNeg) o_sets o_currents (show 0 ≤ (v5).toInt by omega) (show (v5).toInt ≤ 99 by omega) (show 0 ≤ v7.toInt by omega)) (fun r_58 q_59 => ?_)
              obtain ⟨q_59_0, q_59_1⟩ : (0 ≤ r_58.toInt) ∧ (r_58.toInt ≤ 99) := q_59
              first | (have f_60 : (v7 + 1).toInt = v7.toInt + (1 : Int) := i_add2 rfl rfl (by omega) (by omega)) | skip
              refine ok_nmi (fun x_61 hx_61 kx_61 => ?_)
              exact ih23 v3 v4 r_58 1 x_61 (show (v4.toInt - x_61.toInt).toNat < n23 by omega) (show 0 ≤ (v3).toInt by omega) (show (v3).toInt ≤ 15 by omega) (show 0 ≤ (r_58).toInt by omega) (show (r_58).toInt ≤ 99 by omega) (show (1 : Int) = 0 ∨ (1 : Int) = 1 by omega) (show 0 ≤ x_61.toInt by omega)
  unfold f_X7_fit
  first | (have f_62 : (5 * x1).toInt = (5 : Int) * x1.toInt := i_mul2 rfl rfl (by omega) (by omega)) | skip
  refine ok_nmi (fun x_63 hx_63 kx_63 => ?_)
  first | (have f_64 : (x_63 + 1).toInt = x_63.toInt + (1 : Int) := i_add2 rfl rfl (by omega) (by omega)) | skip
  have ix_65 : ¬ ((x_63 + 1) < 0 ∨ 20 ≤ (x_63 + 1).toNatClampNeg) := ix (show 0 ≤ (x_63 + 1).toInt by omega) (show (x_63 + 1).toInt < (20 : Nat) by omega)
  refine ok_chk ix_65 ?_
  refine ok_nmi (fun x_66 hx_66 kx_66 => ?_)
  have hiv := i_hi x_66
  exact l23 FU x_63 x_66 x2 1 0 (FU_gt (show (x_66.toInt - (0 : Int)).toNat < 1000000000000 by omega)) (show 0 ≤ (x_63).toInt by omega) (show (x_63).toInt ≤ 15 by omega) (show 0 ≤ (x2).toInt by omega) (show (x2).toInt ≤ 99 by omega) (show (1 : Int) = 0 ∨ (1 : Int) = 1 by omega) (show 0 ≤ (0 : Int) by omega)
set_option maxRecDepth 100000 in
set_option maxHeartbeats 4000000 in
theorem s_X7_fits (x1 : Int32) (x2 : Int32) (o_pieces : Int32) (o_sets : Nat → Int32) (o_currents : Nat → Int32) (o_warmths : Nat → Int32) (o_pieceParts : Nat → Int32) (h0 : 0 ≤ (o_pieces).toInt) (h1 : (o_pieces).toInt ≤ 4) : okP (f_X7_fits x1 x2 o_pieces o_sets o_currents o_warmths o_pieceParts) (fun u => True) := by
  unfold f_X7_fits
  first | (have f_1 : (x1.toInt64).toInt = x1.toInt := j_i2l _) | skip
  first | (have f_2 : (o_pieces - 1).toInt = o_pieces.toInt - (1 : Int) := i_sub2 rfl rfl (by omega) (by omega)) | skip
  first | (have f_3 : ((o_pieces - 1).toInt64).toInt = (o_pieces - 1).toInt := j_i2l _) | skip
  refine ok_bd1 (s_X7_in x1.toInt64 0 ((o_pieces - 1).toInt64)) (fun r_4 q_5 => ?_)
  replace q_5 : (r_4.toInt = 1 ∧ (0 : Int) ≤ x1.toInt64.toInt ∧ x1.toInt64.toInt ≤ ((o_pieces - 1).toInt64).toInt) ∨ (r_4.toInt = 0 ∧ (x1.toInt64.toInt < (0 : Int) ∨ ((o_pieces - 1).toInt64).toInt < x1.toInt64.toInt)) := q_5
  refine ok_ite (fun c_6 => ?_) (fun c_6 => ?_)
  · skip
    have c_6 : r_4.toInt = (0 : Int) := i_eq.mp c_6
    replace q_5 : (x1.toInt64.toInt < (0 : Int) ∨ ((o_pieces - 1).toInt64).toInt < x1.toInt64.toInt) := by omega
    exact ok_some trivial
  · skip
    have c_6 : ¬ r_4.toInt = (0 : Int) := fun z => c_6 (i_eq.mpr z)
    replace q_5 : (0 : Int) ≤ x1.toInt64.toInt ∧ x1.toInt64.toInt ≤ ((o_pieces - 1).toInt64).toInt := by omega
    refine ok_bd1 (s_X7_isCell x2) (fun r_7 q_8 => ?_)
    replace q_8 : (r_7.toInt = 1 ∧ 0 ≤ x2.toInt ∧ x2.toInt < 100) ∨ (r_7.toInt = 0 ∧ (x2.toInt < 0 ∨ 100 ≤ x2.toInt)) := q_8
    refine ok_ite (fun c_9 => ?_) (fun c_9 => ?_)
    · skip
      have c_9 : r_7.toInt = (0 : Int) := i_eq.mp c_9
      replace q_8 : (x2.toInt < 0 ∨ 100 ≤ x2.toInt) := by omega
      exact ok_some trivial
    · skip
      have c_9 : ¬ r_7.toInt = (0 : Int) := fun z => c_9 (i_eq.mpr z)
      replace q_8 : 0 ≤ x2.toInt ∧ x2.toInt < 100 := by omega
      refine ok_bd1 (s_X7_fit x1 x2 o_sets o_currents o_warmths o_pieceParts (show 0 ≤ (x1).toInt by omega) (show (x1).toInt ≤ 3 by omega) (show 0 ≤ (x2).toInt by omega) (show (x2).toInt ≤ 99 by omega)) (fun r_10 q_11 => ?_)
      exact ok_some trivial
set_option maxRecDepth 100000 in
set_option maxHeartbeats 4000000 in
theorem s_X7_drag (x1 : Int32) (x2 : Int32) (o_drags : Int32) (o_dragCell : Nat → Int32) (o_dragBy : Nat → Int32) (h0 : 0 ≤ (o_drags).toInt) (h1 : (o_drags).toInt ≤ 4) : okP (f_X7_drag x1 x2 o_drags o_dragCell o_dragBy) (fun u => (0 ≤ u.2.1.toInt) ∧ (u.2.1.toInt ≤ 4) ∧ ((¬ (0 ≤ x1.toInt ∧ x1.toInt < 100 ∧ 1 ≤ x2.toInt ∧ x2.toInt ≤ 7) ∧ u.1.toInt = -1 ∧ u.2.1.toInt = o_drags.toInt) ∨ ((0 ≤ x1.toInt ∧ x1.toInt < 100 ∧ 1 ≤ x2.toInt ∧ x2.toInt ≤ 7) ∧ 4 ≤ o_drags.toInt ∧ u.1.toInt = -3 ∧ u.2.1.toInt = o_drags.toInt) ∨ ((0 ≤ x1.toInt ∧ x1.toInt < 100 ∧ 1 ≤ x2.toInt ∧ x2.toInt ≤ 7) ∧ o_drags.toInt < 4 ∧ u.1.toInt = o_drags.toInt ∧ u.2.1.toInt = o_drags.toInt + 1))) := by
  unfold f_X7_drag
  refine ok_bd1 (s_X7_isCell x1) (fun r_1 q_2 => ?_)
  replace q_2 : (r_1.toInt = 1 ∧ 0 ≤ x1.toInt ∧ x1.toInt < 100) ∨ (r_1.toInt = 0 ∧ (x1.toInt < 0 ∨ 100 ≤ x1.toInt)) := q_2
  refine ok_ite (fun c_3 => ?_) (fun c_3 => ?_)
  · skip
    have c_3 : r_1.toInt = (0 : Int) := i_eq.mp c_3
    replace q_2 : (x1.toInt < 0 ∨ 100 ≤ x1.toInt) := by omega
    exact ok_some (show (0 ≤ o_drags.toInt) ∧ (o_drags.toInt ≤ 4) ∧ ((¬ (0 ≤ x1.toInt ∧ x1.toInt < 100 ∧ 1 ≤ x2.toInt ∧ x2.toInt ≤ 7) ∧ (-1 : Int) = -1 ∧ o_drags.toInt = o_drags.toInt) ∨ ((0 ≤ x1.toInt ∧ x1.toInt < 100 ∧ 1 ≤ x2.toInt ∧ x2.toInt ≤ 7) ∧ 4 ≤ o_drags.toInt ∧ (-1 : Int) = -3 ∧ o_drags.toInt = o_drags.toInt) ∨ ((0 ≤ x1.toInt ∧ x1.toInt < 100 ∧ 1 ≤ x2.toInt ∧ x2.toInt ≤ 7) ∧ o_drags.toInt < 4 ∧ (-1 : Int) = o_drags.toInt ∧ o_drags.toInt = o_drags.toInt + 1)) from ⟨by omega, by omega, by omega⟩)
  · skip
    have c_3 : ¬ r_1.toInt = (0 : Int) := fun z => c_3 (i_eq.mpr z)
    replace q_2 : 0 ≤ x1.toInt ∧ x1.toInt < 100 := by omega
    first | (have f_4 : (x2.toInt64).toInt = x2.toInt := j_i2l _) | skip
    refine ok_bd1 (s_X7_in x2.toInt64 1 7) (fun r_5 q_6 => ?_)
    replace q_6 : (r_5.toInt = 1 ∧ (1 : Int) ≤ x2.toInt64.toInt ∧ x2.toInt64.toInt ≤ (7 : Int)) ∨ (r_5.toInt = 0 ∧ (x2.toInt64.toInt < (1 : Int) ∨ (7 : Int) < x2.toInt64.toInt)) := q_6
    refine ok_ite (fun c_7 => ?_) (fun c_7 => ?_)
    · skip
      have c_7 : r_5.toInt = (0 : Int) := i_eq.mp c_7
      replace q_6 : (x2.toInt64.toInt < (1 : Int) ∨ (7 : Int) < x2.toInt64.toInt) := by omega
      exact ok_some (show (0 ≤ o_drags.toInt) ∧ (o_drags.toInt ≤ 4) ∧ ((¬ (0 ≤ x1.toInt ∧ x1.toInt < 100 ∧ 1 ≤ x2.toInt ∧ x2.toInt ≤ 7) ∧ (-1 : Int) = -1 ∧ o_drags.toInt = o_drags.toInt) ∨ ((0 ≤ x1.toInt ∧ x1.toInt < 100 ∧ 1 ≤ x2.toInt ∧ x2.toInt ≤ 7) ∧ 4 ≤ o_drags.toInt ∧ (-1 : Int) = -3 ∧ o_drags.toInt = o_drags.toInt) ∨ ((0 ≤ x1.toInt ∧ x1.toInt < 100 ∧ 1 ≤ x2.toInt ∧ x2.toInt ≤ 7) ∧ o_drags.toInt < 4 ∧ (-1 : Int) = o_drags.toInt ∧ o_drags.toInt = o_drags.toInt + 1)) from ⟨by omega, by omega, by omega⟩)
    · skip
      have c_7 : ¬ r_5.toInt = (0 : Int) := fun z => c_7 (i_eq.mpr z)
      replace q_6 : (1 : Int) ≤ x2.toInt64.toInt ∧ x2.toInt64.toInt ≤ (7 : Int) := by omega
      refine ok_ite (fun c_8 => ?_) (fun c_8 => ?_)
      · skip
        have c_8 : o_drags.toInt = (4 : Int) := i_eq.mp c_8
        exact ok_some (show (0 ≤ o_drags.toInt) ∧ (o_drags.toInt ≤ 4) ∧ ((¬ (0 ≤ x1.toInt ∧ x1.toInt < 100 ∧ 1 ≤ x2.toInt ∧ x2.toInt ≤ 7) ∧ (-3 : Int) = -1 ∧ o_drags.toInt = o_drags.toInt) ∨ ((0 ≤ x1.toInt ∧ x1.toInt < 100 ∧ 1 ≤ x2.toInt ∧ x2.toInt ≤ 7) ∧ 4 ≤ o_drags.toInt ∧ (-3 : Int) = -3 ∧ o_drags.toInt = o_drags.toInt) ∨ ((0 ≤ x1.toInt ∧ x1.toInt < 100 ∧ 1 ≤ x2.toInt ∧ x2.toInt ≤ 7) ∧ o_drags.toInt < 4 ∧ (-3 : Int) = o_drags.toInt ∧ o_drags.toInt = o_drags.toInt + 1)) from ⟨by omega, by omega, by omega⟩)
      · skip
        have c_8 : ¬ o_drags.toInt = (4 : Int) := fun z => c_8 (i_eq.mpr z)
        have ix_9 : ¬ (o_drags < 0 ∨ 6 ≤ o_drags.toNatClampNeg) := ix (show 0 ≤ o_drags.toInt by omega) (show o_drags.toInt < (6 : Nat) by omega)
        refine ok_chk ix_9 ?_
        refine ok_chk ix_9 ?_
        first | (have f_10 : (o_drags + 1).toInt = o_drags.toInt + (1 : Int) := i_add2 rfl rfl (by omega) (by omega)) | skip
        refine ok_nmi (fun x_11 hx_11 kx_11 => ?_)
        first | (have f_12 : (x_11 - 1).toInt = x_11.toInt - (1 : Int) := i_sub2 rfl rfl (by omega) (by omega)) | skip
        exact ok_some (show (0 ≤ x_11.toInt) ∧ (x_11.toInt ≤ 4) ∧ ((¬ (0 ≤ x1.toInt ∧ x1.toInt < 100 ∧ 1 ≤ x2.toInt ∧ x2.toInt ≤ 7) ∧ (x_11 - 1).toInt = -1 ∧ x_11.toInt = o_drags.toInt) ∨ ((0 ≤ x1.toInt ∧ x1.toInt < 100 ∧ 1 ≤ x2.toInt ∧ x2.toInt ≤ 7) ∧ 4 ≤ o_drags.toInt ∧ (x_11 - 1).toInt = -3 ∧ x_11.toInt = o_drags.toInt) ∨ ((0 ≤ x1.toInt ∧ x1.toInt < 100 ∧ 1 ≤ x2.toInt ∧ x2.toInt ≤ 7) ∧ o_drags.toInt < 4 ∧ (x_11 - 1).toInt = o_drags.toInt ∧ x_11.toInt = o_drags.toInt + 1)) from ⟨by omega, by omega, by omega⟩)
set_option maxRecDepth 100000 in
set_option maxHeartbeats 4000000 in
theorem s_X7_clear (o_pieces : Int32) (o_drags : Int32) (h0 : 0 ≤ (o_pieces).toInt) (h1 : (o_pieces).toInt ≤ 4) (h2 : 0 ≤ (o_drags).toInt) (h3 : (o_drags).toInt ≤ 4) : okP (f_X7_clear o_pieces o_drags) (fun u => (u.2.1.toInt = 0) ∧ (u.2.2.toInt = 0) ∧ (u.1.toInt = o_pieces.toInt + o_drags.toInt)) := by
  unfold f_X7_clear
  first | (have f_1 : (o_pieces + o_drags).toInt = o_pieces.toInt + o_drags.toInt := i_add2 rfl rfl (by omega) (by omega)) | skip
  refine ok_nmi (fun x_2 hx_2 kx_2 => ?_)
  exact ok_some (show ((0 : Int) = 0) ∧ ((0 : Int) = 0) ∧ (x_2.toInt = o_pieces.toInt + o_drags.toInt) from ⟨by omega, by omega, by omega⟩)
set_option maxRecDepth 100000 in
set_option maxHeartbeats 4000000 in
theorem s_X7_lowest (x1 : Int64) (x2 : Int64) (x3 : Int32) (h0 : ¬ x2.toInt = 0) : okP (f_X7_lowest x1 x2 x3) (fun u => True) := by
  have l6 : ∀ (n : Nat) (v0 : Int64) (v2 : Int64) (v4 : Int32) (v5 : Int64) (v7 : Int64), v7.toInt.natAbs < n → (¬ (v5.toInt = 0 ∧ v7.toInt = 0)) → okP (f_X7_lowest_L6 n v0 v2 v4 v5 v7) (fun u => True) := by
    intro n
    induction n with
    | zero =>
      intro v0 v2 v4 v5 v7 hm
      exact absurd hm (Nat.not_lt_zero _)
    | succ n6 ih6 =>
      intro v0 v2 v4 v5 v7 hm6 g6_0
      show okP (f_X7_lowest_L6b (f_X7_lowest_L6 n6) v0 v2 v4 v5 v7) (fun u => True)
      unfold f_X7_lowest_L6b
      refine ok_ite (fun c_1 => ?_) (fun c_1 => ?_)
      · skip
        have c_1 : v7.toInt = (0 : Int) := j_eq.mp ((lg_cmp_eq _ _).mp c_1)
        refine ok_ite (fun c_2 => ?_) (fun c_2 => ?_)
        · skip
          have c_2 : v4.toInt = (0 : Int) := i_eq.mp c_2
          refine ok_chk (nzj (show ¬ v5.toInt = 0 by omega)) ?_
          exact ok_some trivial
        · skip
          have c_2 : ¬ v4.toInt = (0 : Int) := fun z => c_2 (i_eq.mpr z)
          refine ok_chk (nzj (show ¬ v5.toInt = 0 by omega)) ?_
          exact ok_some trivial
      · skip
        have c_1 : ¬ v7.toInt = (0 : Int) := fun z => c_1 ((lg_cmp_eq _ _).mpr (j_eq.mpr z))
        refine ok_chk (nzj (show ¬ v7.toInt = 0 by omega)) ?_
        have rm_3 : (v5 - v5 / v7 * v7).toInt.natAbs < v7.toInt.natAbs := j_rem_lt (by omega)
        refine ok_nmj (fun x_4 hx_4 kx_4 => ?_)
        exact ih6 v0 v2 v4 v7 x_4 (show x_4.toInt.natAbs < n6 by omega) (show ¬ (v7.toInt = 0 ∧ x_4.toInt = 0) by omega)
  unfold f_X7_lowest
  exact l6 FU x1 x2 x3 x1 x2 (FU_gt2 _) (show ¬ (x1.toInt = 0 ∧ x2.toInt = 0) by omega)
set_option maxRecDepth 100000 in
set_option maxHeartbeats 4000000 in
theorem s_X7_thousandths (x1 : Int64) (o_all : Int64) (h0 : ¬ o_all.toInt = 0) : okP (f_X7_thousandths x1 o_all) (fun u => True) := by
  have l21 : ∀ (n : Nat) (v3 : Int32) (v4 : Int64) (v6 : Int32), (3 - v6.toInt).toNat < n → (0 ≤ (v6).toInt) → ((v6).toInt ≤ 3) → okP (f_X7_thousandths_L21 n v3 v4 v6 o_all) (fun u => True) := by
    intro n
    induction n with
    | zero =>
      intro v3 v4 v6 hm
      exact absurd hm (Nat.not_lt_zero _)
    | succ n21 ih21 =>
      intro v3 v4 v6 hm21 g21_0 g21_1
      show okP (f_X7_thousandths_L21b (f_X7_thousandths_L21 n21) v3 v4 v6 o_all) (fun u => True)
      unfold f_X7_thousandths_L21b
      refine ok_ite (fun c_1 => ?_) (fun c_1 => ?_)
      · skip
        have c_1 : (3 : Int) ≤ v6.toInt := i_le.mp c_1
        exact ok_some trivial
      · skip
        have c_1 : ¬ (3 : Int) ≤ v6.toInt := fun z => c_1 (i_le.mpr z)
        first | (have f_2 : (10 * v3).toInt = (10 : Int) * v3.toInt := i_mul2 rfl rfl (by omega) (by omega)) | skip
        first | (have f_3 : (v4 * 10).toInt = v4.toInt * (10 : Int) := j_mul2 rfl rfl (by omega) (by omega)) | skip
        refine ok_chk (nzj (show ¬ o_all.toInt = 0 by omega)) ?_
        first | (have f_4 : ((10 * v3) + (((v4 * 10) / o_all).toInt32)).toInt = (10 * v3).toInt + (((v4 * 10) / o_all).toInt32).toInt := i_add2 rfl rfl (by omega) (by omega)) | skip
        refine ok_nmi (fun x_5 hx_5 kx_5 => ?_)
        refine ok_chk (nzj (show ¬ o_all.toInt = 0 by omega)) ?_
        have rm_6 : ((v4 * 10) - (v4 * 10) / o_all * o_all).toInt.natAbs < o_all.toInt.natAbs := j_rem_lt (by omega)
        refine ok_nmj (fun x_7 hx_7 kx_7 => ?_)
        first | (have f_8 : (v6 + 1).toInt = v6.toInt + (1 : Int) := i_add2 rfl rfl (by omega) (by omega)) | skip
        refine ok_nmi (fun x_9 hx_9 kx_9 => ?_)
        exact ih21 x_5 x_7 x_9 (show (3 - x_9.toInt).toNat < n21 by omega) (show 0 ≤ (x_9).toInt by omega) (show (x_9).toInt ≤ 3 by omega)
  unfold f_X7_thousandths
  refine ok_ite (fun c_10 => ?_) (fun c_10 => ?_)
  · skip
    have c_10 : x1.toInt = o_all.toInt := j_eq.mp ((lg_cmp_eq _ _).mp c_10)
    exact ok_some trivial
  · skip
    have c_10 : ¬ x1.toInt = o_all.toInt := fun z => c_10 ((lg_cmp_eq _ _).mpr (j_eq.mpr z))
    exact l21 FU 0 x1 0 (FU_gt (show (3 - (0 : Int)).toNat < 1000000000000 by omega)) (show 0 ≤ (0 : Int) by omega) (show (0 : Int) ≤ 3 by omega)
set_option maxRecDepth 100000 in
set_option maxHeartbeats 4000000 in
theorem s_X7_isAssumption (x1 : Int32) (o_pieces : Int32) : okP (f_X7_isAssumption x1 o_pieces) (fun u => (u.toInt = 0 ∨ (u.toInt = 1 ∧ 0 ≤ x1.toInt ∧ x1.toInt ≤ 12))) := by
  unfold f_X7_isAssumption
  first | (have f_1 : (x1.toInt64).toInt = x1.toInt := j_i2l _) | skip
  refine ok_bd1 (s_X7_in x1.toInt64 0 12) (fun r_2 q_3 => ?_)
  replace q_3 : (r_2.toInt = 1 ∧ (0 : Int) ≤ x1.toInt64.toInt ∧ x1.toInt64.toInt ≤ (12 : Int)) ∨ (r_2.toInt = 0 ∧ (x1.toInt64.toInt < (0 : Int) ∨ (12 : Int) < x1.toInt64.toInt)) := q_3
  refine ok_ite (fun c_4 => ?_) (fun c_4 => ?_)
  · skip
    have c_4 : r_2.toInt = (0 : Int) := i_eq.mp c_4
    replace q_3 : (x1.toInt64.toInt < (0 : Int) ∨ (12 : Int) < x1.toInt64.toInt) := by omega
    exact ok_some (show ((0 : Int) = 0 ∨ ((0 : Int) = 1 ∧ 0 ≤ x1.toInt ∧ x1.toInt ≤ 12)) from by omega)
  · skip
    have c_4 : ¬ r_2.toInt = (0 : Int) := fun z => c_4 (i_eq.mpr z)
    replace q_3 : (0 : Int) ≤ x1.toInt64.toInt ∧ x1.toInt64.toInt ≤ (12 : Int) := by omega
    refine ok_ite (fun c_5 => ?_) (fun c_5 => ?_)
    · skip
      have c_5 : x1.toInt < (8 : Int) := i_lt.mp c_5
      exact ok_some (show ((1 : Int) = 0 ∨ ((1 : Int) = 1 ∧ 0 ≤ x1.toInt ∧ x1.toInt ≤ 12)) from by omega)
    · skip
      have c_5 : ¬ x1.toInt < (8 : Int) := fun z => c_5 (i_lt.mpr z)
      refine ok_ite (fun c_6 => ?_) (fun c_6 => ?_)
      · skip
        have c_6 : x1.toInt = (12 : Int) := i_eq.mp c_6
        exact ok_some (show ((1 : Int) = 0 ∨ ((1 : Int) = 1 ∧ 0 ≤ x1.toInt ∧ x1.toInt ≤ 12)) from by omega)
      · skip
        have c_6 : ¬ x1.toInt = (12 : Int) := fun z => c_6 (i_eq.mpr z)
        first | (have f_7 : (x1 - 8).toInt = x1.toInt - (8 : Int) := i_sub2 rfl rfl (by omega) (by omega)) | skip
        refine ok_ite (fun c_8 => ?_) (fun c_8 => ?_)
        · skip
          have c_8 : o_pieces.toInt ≤ (x1 - 8).toInt := i_le.mp c_8
          exact ok_some (show ((0 : Int) = 0 ∨ ((0 : Int) = 1 ∧ 0 ≤ x1.toInt ∧ x1.toInt ≤ 12)) from by omega)
        · skip
          have c_8 : ¬ o_pieces.toInt ≤ (x1 - 8).toInt := fun z => c_8 (i_le.mpr z)
          exact ok_some (show ((1 : Int) = 0 ∨ ((1 : Int) = 1 ∧ 0 ≤ x1.toInt ∧ x1.toInt ≤ 12)) from by omega)
set_option maxRecDepth 100000 in
set_option maxHeartbeats 4000000 in
theorem s_X7_refuses (x1 : Int32) (x2 : Int32) (x3 : Int32) (x4 : Int32) (o_lanes : Nat → Int32) (o_sizes : Nat → Int32) (h0 : 0 ≤ (x1).toInt) (h1 : (x1).toInt ≤ 3) : okP (f_X7_refuses x1 x2 x3 x4 o_lanes o_sizes) (fun u => (((o_lanes x1.toNatClampNeg).toInt < 0 ∧ u.toInt = -11) ∨ (0 ≤ (o_lanes x1.toNatClampNeg).toInt ∧ ¬ (o_lanes x1.toNatClampNeg).toInt = x2.toInt ∧ u.toInt = -12) ∨ (0 ≤ (o_lanes x1.toNatClampNeg).toInt ∧ (o_lanes x1.toNatClampNeg).toInt = x2.toInt ∧ (x3.toInt < 0 ∨ (o_sizes x1.toNatClampNeg).toInt < x3.toInt + x4.toInt) ∧ u.toInt = -13) ∨ (0 ≤ (o_lanes x1.toNatClampNeg).toInt ∧ (o_lanes x1.toNatClampNeg).toInt = x2.toInt ∧ 0 ≤ x3.toInt ∧ x3.toInt + x4.toInt ≤ (o_sizes x1.toNatClampNeg).toInt ∧ u.toInt = 0))) := by
  have lo3 := i_lo x3
  have hi3 := i_hi x3
  have lo4 := i_lo x4
  have hi4 := i_hi x4
  unfold f_X7_refuses
  have ix_1 : ¬ (x1 < 0 ∨ 4 ≤ x1.toNatClampNeg) := ix (show 0 ≤ x1.toInt by omega) (show x1.toInt < (4 : Nat) by omega)
  refine ok_chk ix_1 ?_
  refine ok_ite (fun c_2 => ?_) (fun c_2 => ?_)
  · skip
    have c_2 : (0 : Int) ≤ (o_lanes x1.toNatClampNeg).toInt := i_le.mp c_2
    refine ok_chk ix_1 ?_
    refine ok_ite (fun c_3 => ?_) (fun c_3 => ?_)
    · skip
      have c_3 : (o_lanes x1.toNatClampNeg).toInt = x2.toInt := i_eq.mp c_3
      refine ok_ite (fun c_4 => ?_) (fun c_4 => ?_)
      · skip
        have c_4 : x3.toInt < (0 : Int) := i_lt.mp c_4
        exact ok_some (show (((o_lanes x1.toNatClampNeg).toInt < 0 ∧ (-13 : Int) = -11) ∨ (0 ≤ (o_lanes x1.toNatClampNeg).toInt ∧ ¬ (o_lanes x1.toNatClampNeg).toInt = x2.toInt ∧ (-13 : Int) = -12) ∨ (0 ≤ (o_lanes x1.toNatClampNeg).toInt ∧ (o_lanes x1.toNatClampNeg).toInt = x2.toInt ∧ (x3.toInt < 0 ∨ (o_sizes x1.toNatClampNeg).toInt < x3.toInt + x4.toInt) ∧ (-13 : Int) = -13) ∨ (0 ≤ (o_lanes x1.toNatClampNeg).toInt ∧ (o_lanes x1.toNatClampNeg).toInt = x2.toInt ∧ 0 ≤ x3.toInt ∧ x3.toInt + x4.toInt ≤ (o_sizes x1.toNatClampNeg).toInt ∧ (-13 : Int) = 0)) from by omega)
      · skip
        have c_4 : ¬ x3.toInt < (0 : Int) := fun z => c_4 (i_lt.mpr z)
        first | (have f_5 : (x3.toInt64).toInt = x3.toInt := j_i2l _) | skip
        first | (have f_6 : (x4.toInt64).toInt = x4.toInt := j_i2l _) | skip
        first | (have f_7 : (x3.toInt64 + x4.toInt64).toInt = (x3.toInt64).toInt + (x4.toInt64).toInt := j_add2 rfl rfl (by omega) (by omega)) | skip
        refine ok_chk ix_1 ?_
        first | (have f_8 : ((o_sizes x1.toNatClampNeg).toInt64).toInt = (o_sizes x1.toNatClampNeg).toInt := j_i2l _) | skip
        refine ok_ite (fun c_9 => ?_) (fun c_9 => ?_)
        · skip
          have c_9 : (x3.toInt64 + x4.toInt64).toInt ≤ ((o_sizes x1.toNatClampNeg).toInt64).toInt := j_le.mp ((lg_cmp_le _ _).mp c_9)
          exact ok_some (show (((o_lanes x1.toNatClampNeg).toInt < 0 ∧ (0 : Int) = -11) ∨ (0 ≤ (o_lanes x1.toNatClampNeg).toInt ∧ ¬ (o_lanes x1.toNatClampNeg).toInt = x2.toInt ∧ (0 : Int) = -12) ∨ (0 ≤ (o_lanes x1.toNatClampNeg).toInt ∧ (o_lanes x1.toNatClampNeg).toInt = x2.toInt ∧ (x3.toInt < 0 ∨ (o_sizes x1.toNatClampNeg).toInt < x3.toInt + x4.toInt) ∧ (0 : Int) = -13) ∨ (0 ≤ (o_lanes x1.toNatClampNeg).toInt ∧ (o_lanes x1.toNatClampNeg).toInt = x2.toInt ∧ 0 ≤ x3.toInt ∧ x3.toInt + x4.toInt ≤ (o_sizes x1.toNatClampNeg).toInt ∧ (0 : Int) = 0)) from by omega)
        · skip
          have c_9 : ¬ (x3.toInt64 + x4.toInt64).toInt ≤ ((o_sizes x1.toNatClampNeg).toInt64).toInt := fun z => c_9 ((lg_cmp_le _ _).mpr (j_le.mpr z))
          exact ok_some (show (((o_lanes x1.toNatClampNeg).toInt < 0 ∧ (-13 : Int) = -11) ∨ (0 ≤ (o_lanes x1.toNatClampNeg).toInt ∧ ¬ (o_lanes x1.toNatClampNeg).toInt = x2.toInt ∧ (-13 : Int) = -12) ∨ (0 ≤ (o_lanes x1.toNatClampNeg).toInt ∧ (o_lanes x1.toNatClampNeg).toInt = x2.toInt ∧ (x3.toInt < 0 ∨ (o_sizes x1.toNatClampNeg).toInt < x3.toInt + x4.toInt) ∧ (-13 : Int) = -13) ∨ (0 ≤ (o_lanes x1.toNatClampNeg).toInt ∧ (o_lanes x1.toNatClampNeg).toInt = x2.toInt ∧ 0 ≤ x3.toInt ∧ x3.toInt + x4.toInt ≤ (o_sizes x1.toNatClampNeg).toInt ∧ (-13 : Int) = 0)) from by omega)
    · skip
      have c_3 : ¬ (o_lanes x1.toNatClampNeg).toInt = x2.toInt := fun z => c_3 (i_eq.mpr z)
      exact ok_some (show (((o_lanes x1.toNatClampNeg).toInt < 0 ∧ (-12 : Int) = -11) ∨ (0 ≤ (o_lanes x1.toNatClampNeg).toInt ∧ ¬ (o_lanes x1.toNatClampNeg).toInt = x2.toInt ∧ (-12 : Int) = -12) ∨ (0 ≤ (o_lanes x1.toNatClampNeg).toInt ∧ (o_lanes x1.toNatClampNeg).toInt = x2.toInt ∧ (x3.toInt < 0 ∨ (o_sizes x1.toNatClampNeg).toInt < x3.toInt + x4.toInt) ∧ (-12 : Int) = -13) ∨ (0 ≤ (o_lanes x1.toNatClampNeg).toInt ∧ (o_lanes x1.toNatClampNeg).toInt = x2.toInt ∧ 0 ≤ x3.toInt ∧ x3.toInt + x4.toInt ≤ (o_sizes x1.toNatClampNeg).toInt ∧ (-12 : Int) = 0)) from by omega)
  · skip
    have c_2 : ¬ (0 : Int) ≤ (o_lanes x1.toNatClampNeg).toInt := fun z => c_2 (i_le.mpr z)
    exact ok_some (show (((o_lanes x1.toNatClampNeg).toInt < 0 ∧ (-11 : Int) = -11) ∨ (0 ≤ (o_lanes x1.toNatClampNeg).toInt ∧ ¬ (o_lanes x1.toNatClampNeg).toInt = x2.toInt ∧ (-11 : Int) = -12) ∨ (0 ≤ (o_lanes x1.toNatClampNeg).toInt ∧ (o_lanes x1.toNatClampNeg).toInt = x2.toInt ∧ (x3.toInt < 0 ∨ (o_sizes x1.toNatClampNeg).toInt < x3.toInt + x4.toInt) ∧ (-11 : Int) = -13) ∨ (0 ≤ (o_lanes x1.toNatClampNeg).toInt ∧ (o_lanes x1.toNatClampNeg).toInt = x2.toInt ∧ 0 ≤ x3.toInt ∧ x3.toInt + x4.toInt ≤ (o_sizes x1.toNatClampNeg).toInt ∧ (-11 : Int) = 0)) from by omega)
set_option maxRecDepth 100000 in
set_option maxHeartbeats 4000000 in
theorem s_X7_sheet (x1 : Int32) (x2 : Int32) (x3 : Int32) (o_lanes : Nat → Int32) (o_sizes : Nat → Int32) (o_items : Nat → Int32) (l1 : Nat → Int32) (z1 : Nat → Int32) (h0 : ∀ j : Nat, j < 4 → 0 ≤ (o_sizes j).toInt ∧ (o_sizes j).toInt ≤ 16) (h1 : o_lanes = l1) (h2 : o_sizes = z1) : okP (f_X7_sheet x1 x2 x3 o_lanes o_sizes o_items) (fun u => (∀ j : Nat, j < 4 → 0 ≤ (u.2.2.1 j).toInt ∧ (u.2.2.1 j).toInt ≤ 16) ∧ ((¬ (0 ≤ x1.toInt ∧ x1.toInt < 4 ∧ 0 ≤ x2.toInt ∧ x2.toInt < 3 ∧ x3.toInt ≤ 16) ∧ u.1.toInt = -1 ∧ u.2.1 = l1 ∧ u.2.2.1 = z1) ∨ ((0 ≤ x1.toInt ∧ x1.toInt < 4 ∧ 0 ≤ x2.toInt ∧ x2.toInt < 3 ∧ x3.toInt ≤ 16) ∧ x3.toInt < 0 ∧ u.1.toInt = -14 ∧ u.2.1 = l1 ∧ u.2.2.1 = z1) ∨ ((0 ≤ x1.toInt ∧ x1.toInt < 4 ∧ 0 ≤ x2.toInt ∧ x2.toInt < 3 ∧ x3.toInt ≤ 16) ∧ 0 ≤ x3.toInt ∧ u.1.toInt = x3.toInt ∧ u.2.1 = upd l1 x1.toNatClampNeg x2 ∧ u.2.2.1 = upd z1 x1.toNatClampNeg x3))) := by
  have l46 : ∀ (n : Nat) (v1 : Int32) (v3 : Int32) (v4 : Int32) (o_lanes : Nat → Int32) (o_sizes : Nat → Int32) (o_items : Nat → Int32), (16 - v4.toInt).toNat < n → (0 ≤ (v1).toInt) → ((v1).toInt ≤ 3) → (0 ≤ (v4).toInt) → ((v4).toInt ≤ 16) → (∀ j : Nat, j < 4 → 0 ≤ (o_sizes j).toInt ∧ (o_sizes j).toInt ≤ 16) → (o_lanes = upd l1 x1.toNatClampNeg x2) → (o_sizes = upd z1 x1.toNatClampNeg x3) → (v3.toInt = x3.toInt) → ((0 ≤ x1.toInt ∧ x1.toInt < 4 ∧ 0 ≤ x2.toInt ∧ x2.toInt < 3 ∧ x3.toInt ≤ 16) ∧ 0 ≤ x3.toInt) → okP (f_X7_sheet_L46 n v1 v3 v4 o_lanes o_sizes o_items) (fun u => (∀ j : Nat, j < 4 → 0 ≤ (u.2.2.1 j).toInt ∧ (u.2.2.1 j).toInt ≤ 16) ∧ ((¬ (0 ≤ x1.toInt ∧ x1.toInt < 4 ∧ 0 ≤ x2.toInt ∧ x2.toInt < 3 ∧ x3.toInt ≤ 16) ∧ u.1.toInt = -1 ∧ u.2.1 = l1 ∧ u.2.2.1 = z1) ∨ ((0 ≤ x1.toInt ∧ x1.toInt < 4 ∧ 0 ≤ x2.toInt ∧ x2.toInt < 3 ∧ x3.toInt ≤ 16) ∧ x3.toInt < 0 ∧ u.1.toInt = -14 ∧ u.2.1 = l1 ∧ u.2.2.1 = z1) ∨ ((0 ≤ x1.toInt ∧ x1.toInt < 4 ∧ 0 ≤ x2.toInt ∧ x2.toInt < 3 ∧ x3.toInt ≤ 16) ∧ 0 ≤ x3.toInt ∧ u.1.toInt = x3.toInt ∧ u.2.1 = upd l1 x1.toNatClampNeg x2 ∧ u.2.2.1 = upd z1 x1.toNatClampNeg x3))) := by
    intro n
    induction n with
    | zero =>
      intro v1 v3 v4 o_lanes o_sizes o_items hm
      exact absurd hm (Nat.not_lt_zero _)
    | succ n46 ih46 =>
      intro v1 v3 v4 o_lanes o_sizes o_items hm46 g46_0 g46_1 g46_2 g46_3 g46_4 g46_5 g46_6 g46_7 g46_8
      show okP (f_X7_sheet_L46b (f_X7_sheet_L46 n46) v1 v3 v4 o_lanes o_sizes o_items) (fun u => (∀ j : Nat, j < 4 → 0 ≤ (u.2.2.1 j).toInt ∧ (u.2.2.1 j).toInt ≤ 16) ∧ ((¬ (0 ≤ x1.toInt ∧ x1.toInt < 4 ∧ 0 ≤ x2.toInt ∧ x2.toInt < 3 ∧ x3.toInt ≤ 16) ∧ u.1.toInt = -1 ∧ u.2.1 = l1 ∧ u.2.2.1 = z1) ∨ ((0 ≤ x1.toInt ∧ x1.toInt < 4 ∧ 0 ≤ x2.toInt ∧ x2.toInt < 3 ∧ x3.toInt ≤ 16) ∧ x3.toInt < 0 ∧ u.1.toInt = -14 ∧ u.2.1 = l1 ∧ u.2.2.1 = z1) ∨ ((0 ≤ x1.toInt ∧ x1.toInt < 4 ∧ 0 ≤ x2.toInt ∧ x2.toInt < 3 ∧ x3.toInt ≤ 16) ∧ 0 ≤ x3.toInt ∧ u.1.toInt = x3.toInt ∧ u.2.1 = upd l1 x1.toNatClampNeg x2 ∧ u.2.2.1 = upd z1 x1.toNatClampNeg x3)))
      unfold f_X7_sheet_L46b
      refine ok_ite (fun c_1 => ?_) (fun c_1 => ?_)
      · skip
        have c_1 : (16 : Int) ≤ v4.toInt := i_le.mp c_1
        exact ok_some (show (∀ j : Nat, j < 4 → 0 ≤ (o_sizes j).toInt ∧ (o_sizes j).toInt ≤ 16) ∧ ((¬ (0 ≤ x1.toInt ∧ x1.toInt < 4 ∧ 0 ≤ x2.toInt ∧ x2.toInt < 3 ∧ x3.toInt ≤ 16) ∧ v3.toInt = -1 ∧ o_lanes = l1 ∧ o_sizes = z1) ∨ ((0 ≤ x1.toInt ∧ x1.toInt < 4 ∧ 0 ≤ x2.toInt ∧ x2.toInt < 3 ∧ x3.toInt ≤ 16) ∧ x3.toInt < 0 ∧ v3.toInt = -14 ∧ o_lanes = l1 ∧ o_sizes = z1) ∨ ((0 ≤ x1.toInt ∧ x1.toInt < 4 ∧ 0 ≤ x2.toInt ∧ x2.toInt < 3 ∧ x3.toInt ≤ 16) ∧ 0 ≤ x3.toInt ∧ v3.toInt = x3.toInt ∧ o_lanes = upd l1 x1.toNatClampNeg x2 ∧ o_sizes = upd z1 x1.toNatClampNeg x3)) from ⟨by first | with_reducible assumption | with_reducible rfl | exact szs_upd (by assumption) (by omega) (by omega) | exact Or.inl ⟨by omega, rfl, by assumption, by assumption⟩ | exact Or.inr (Or.inl ⟨by omega, by omega, rfl, by assumption, by assumption⟩) | exact Or.inr (Or.inr ⟨by omega, by omega, by omega, by assumption, by assumption⟩) | (subst_vars; rfl) | omega, by first | with_reducible assumption | with_reducible rfl | exact szs_upd (by assumption) (by omega) (by omega) | exact Or.inl ⟨by omega, rfl, by assumption, by assumption⟩ | exact Or.inr (Or.inl ⟨by omega, by omega, rfl, by assumption, by assumption⟩) | exact Or.inr (Or.inr ⟨by omega, by omega, by omega, by assumption, by assumption⟩) | (subst_vars; rfl) | omega⟩)
      · skip
        have c_1 : ¬ (16 : Int) ≤ v4.toInt := fun z => c_1 (i_le.mpr z)
        first | (have f_2 : (16 * v1).toInt = (16 : Int) * v1.toInt := i_mul2 rfl rfl (by omega) (by omega)) | skip
        first | (have f_3 : ((16 * v1) + v4).toInt = (16 * v1).toInt + v4.toInt := i_add2 rfl rfl (by omega) (by omega)) | skip
        have ix_4 : ¬ (((16 * v1) + v4) < 0 ∨ 64 ≤ ((16 * v1) + v4).toNatClampNeg) := ix (show 0 ≤ ((16 * v1) + v4).toInt by omega) (show ((16 * v1) + v4).toInt < (64 : Nat) by omega)
        refine ok_chk ix_4 ?_
        first | (have f_5 : (v4 + 1).toInt = v4.toInt + (1 : Int) := i_add2 rfl rfl (by omega) (by omega)) | skip
        refine ok_nmi (fun x_6 hx_6 kx_6 => ?_)
        exact ih46 v1 v3 x_6 o_lanes o_sizes (upd o_items ((16 * v1) + v4).toNatClampNeg 0) (show (16 - x_6.toInt).toNat < n46 by omega) (show 0 ≤ (v1).toInt by first | omega | exact szs_upd (by assumption) (by omega) (by omega) | exact Or.inl ⟨by omega, rfl, by assumption, by assumption⟩ | exact Or.inr (Or.inl ⟨by omega, by omega, rfl, by assumption, by assumption⟩) | exact Or.inr (Or.inr ⟨by omega, by omega, by omega, by assumption, by assumption⟩) | (subst_vars; rfl)) (show (v1).toInt ≤ 3 by first | omega | exact szs_upd (by assumption) (by omega) (by omega) | exact Or.inl ⟨by omega, rfl, by assumption, by assumption⟩ | exact Or.inr (Or.inl ⟨by omega, by omega, rfl, by assumption, by assumption⟩) | exact Or.inr (Or.inr ⟨by omega, by omega, by omega, by assumption, by assumption⟩) | (subst_vars; rfl)) (show 0 ≤ (x_6).toInt by first | omega | exact szs_upd (by assumption) (by omega) (by omega) | exact Or.inl ⟨by omega, rfl, by assumption, by assumption⟩ | exact Or.inr (Or.inl ⟨by omega, by omega, rfl, by assumption, by assumption⟩) | exact Or.inr (Or.inr ⟨by omega, by omega, by omega, by assumption, by assumption⟩) | (subst_vars; rfl)) (show (x_6).toInt ≤ 16 by first | omega | exact szs_upd (by assumption) (by omega) (by omega) | exact Or.inl ⟨by omega, rfl, by assumption, by assumption⟩ | exact Or.inr (Or.inl ⟨by omega, by omega, rfl, by assumption, by assumption⟩) | exact Or.inr (Or.inr ⟨by omega, by omega, by omega, by assumption, by assumption⟩) | (subst_vars; rfl)) (by first | with_reducible assumption | with_reducible rfl | exact szs_upd (by assumption) (by omega) (by omega) | exact Or.inl ⟨by omega, rfl, by assumption, by assumption⟩ | exact Or.inr (Or.inl ⟨by omega, by omega, rfl, by assumption, by assumption⟩) | exact Or.inr (Or.inr ⟨by omega, by omega, by omega, by assumption, by assumption⟩) | (subst_vars; rfl) | omega) (by first | with_reducible assumption | with_reducible rfl | exact szs_upd (by assumption) (by omega) (by omega) | exact Or.inl ⟨by omega, rfl, by assumption, by assumption⟩ | exact Or.inr (Or.inl ⟨by omega, by omega, rfl, by assumption, by assumption⟩) | exact Or.inr (Or.inr ⟨by omega, by omega, by omega, by assumption, by assumption⟩) | (subst_vars; rfl) | omega) (by first | with_reducible assumption | with_reducible rfl | exact szs_upd (by assumption) (by omega) (by omega) | exact Or.inl ⟨by omega, rfl, by assumption, by assumption⟩ | exact Or.inr (Or.inl ⟨by omega, by omega, rfl, by assumption, by assumption⟩) | exact Or.inr (Or.inr ⟨by omega, by omega, by omega, by assumption, by assumption⟩) | (subst_vars; rfl) | omega) (show v3.toInt = x3.toInt by first | omega | exact szs_upd (by assumption) (by omega) (by omega) | exact Or.inl ⟨by omega, rfl, by assumption, by assumption⟩ | exact Or.inr (Or.inl ⟨by omega, by omega, rfl, by assumption, by assumption⟩) | exact Or.inr (Or.inr ⟨by omega, by omega, by omega, by assumption, by assumption⟩) | (subst_vars; rfl)) (show (0 ≤ x1.toInt ∧ x1.toInt < 4 ∧ 0 ≤ x2.toInt ∧ x2.toInt < 3 ∧ x3.toInt ≤ 16) ∧ 0 ≤ x3.toInt by first | omega | exact szs_upd (by assumption) (by omega) (by omega) | exact Or.inl ⟨by omega, rfl, by assumption, by assumption⟩ | exact Or.inr (Or.inl ⟨by omega, by omega, rfl, by assumption, by assumption⟩) | exact Or.inr (Or.inr ⟨by omega, by omega, by omega, by assumption, by assumption⟩) | (subst_vars; rfl))
  unfold f_X7_sheet
  refine ok_bd1 (s_X7_isSheet x1) (fun r_7 q_8 => ?_)
  replace q_8 : (r_7.toInt = 1 ∧ 0 ≤ x1.toInt ∧ x1.toInt < 4) ∨ (r_7.toInt = 0 ∧ (x1.toInt < 0 ∨ 4 ≤ x1.toInt)) := q_8
  refine ok_ite (fun c_9 => ?_) (fun c_9 => ?_)
  · skip
    have c_9 : r_7.toInt = (0 : Int) := i_eq.mp c_9
    replace q_8 : (x1.toInt < 0 ∨ 4 ≤ x1.toInt) := by omega
    exact ok_some (show (∀ j : Nat, j < 4 → 0 ≤ (o_sizes j).toInt ∧ (o_sizes j).toInt ≤ 16) ∧ ((¬ (0 ≤ x1.toInt ∧ x1.toInt < 4 ∧ 0 ≤ x2.toInt ∧ x2.toInt < 3 ∧ x3.toInt ≤ 16) ∧ (-1 : Int) = -1 ∧ o_lanes = l1 ∧ o_sizes = z1) ∨ ((0 ≤ x1.toInt ∧ x1.toInt < 4 ∧ 0 ≤ x2.toInt ∧ x2.toInt < 3 ∧ x3.toInt ≤ 16) ∧ x3.toInt < 0 ∧ (-1 : Int) = -14 ∧ o_lanes = l1 ∧ o_sizes = z1) ∨ ((0 ≤ x1.toInt ∧ x1.toInt < 4 ∧ 0 ≤ x2.toInt ∧ x2.toInt < 3 ∧ x3.toInt ≤ 16) ∧ 0 ≤ x3.toInt ∧ (-1 : Int) = x3.toInt ∧ o_lanes = upd l1 x1.toNatClampNeg x2 ∧ o_sizes = upd z1 x1.toNatClampNeg x3)) from ⟨by first | with_reducible assumption | with_reducible rfl | exact szs_upd (by assumption) (by omega) (by omega) | exact Or.inl ⟨by omega, rfl, by assumption, by assumption⟩ | exact Or.inr (Or.inl ⟨by omega, by omega, rfl, by assumption, by assumption⟩) | exact Or.inr (Or.inr ⟨by omega, by omega, by omega, by assumption, by assumption⟩) | (subst_vars; rfl) | omega, by first | with_reducible assumption | with_reducible rfl | exact szs_upd (by assumption) (by omega) (by omega) | exact Or.inl ⟨by omega, rfl, by assumption, by assumption⟩ | exact Or.inr (Or.inl ⟨by omega, by omega, rfl, by assumption, by assumption⟩) | exact Or.inr (Or.inr ⟨by omega, by omega, by omega, by assumption, by assumption⟩) | (subst_vars; rfl) | omega⟩)
  · skip
    have c_9 : ¬ r_7.toInt = (0 : Int) := fun z => c_9 (i_eq.mpr z)
    replace q_8 : 0 ≤ x1.toInt ∧ x1.toInt < 4 := by omega
    refine ok_bd1 (s_X7_isLane x2) (fun r_10 q_11 => ?_)
    replace q_11 : (r_10.toInt = 1 ∧ 0 ≤ x2.toInt ∧ x2.toInt < 3) ∨ (r_10.toInt = 0 ∧ (x2.toInt < 0 ∨ 3 ≤ x2.toInt)) := q_11
    refine ok_ite (fun c_12 => ?_) (fun c_12 => ?_)
    · skip
      have c_12 : r_10.toInt = (0 : Int) := i_eq.mp c_12
      replace q_11 : (x2.toInt < 0 ∨ 3 ≤ x2.toInt) := by omega
      exact ok_some (show (∀ j : Nat, j < 4 → 0 ≤ (o_sizes j).toInt ∧ (o_sizes j).toInt ≤ 16) ∧ ((¬ (0 ≤ x1.toInt ∧ x1.toInt < 4 ∧ 0 ≤ x2.toInt ∧ x2.toInt < 3 ∧ x3.toInt ≤ 16) ∧ (-1 : Int) = -1 ∧ o_lanes = l1 ∧ o_sizes = z1) ∨ ((0 ≤ x1.toInt ∧ x1.toInt < 4 ∧ 0 ≤ x2.toInt ∧ x2.toInt < 3 ∧ x3.toInt ≤ 16) ∧ x3.toInt < 0 ∧ (-1 : Int) = -14 ∧ o_lanes = l1 ∧ o_sizes = z1) ∨ ((0 ≤ x1.toInt ∧ x1.toInt < 4 ∧ 0 ≤ x2.toInt ∧ x2.toInt < 3 ∧ x3.toInt ≤ 16) ∧ 0 ≤ x3.toInt ∧ (-1 : Int) = x3.toInt ∧ o_lanes = upd l1 x1.toNatClampNeg x2 ∧ o_sizes = upd z1 x1.toNatClampNeg x3)) from ⟨by first | with_reducible assumption | with_reducible rfl | exact szs_upd (by assumption) (by omega) (by omega) | exact Or.inl ⟨by omega, rfl, by assumption, by assumption⟩ | exact Or.inr (Or.inl ⟨by omega, by omega, rfl, by assumption, by assumption⟩) | exact Or.inr (Or.inr ⟨by omega, by omega, by omega, by assumption, by assumption⟩) | (subst_vars; rfl) | omega, by first | with_reducible assumption | with_reducible rfl | exact szs_upd (by assumption) (by omega) (by omega) | exact Or.inl ⟨by omega, rfl, by assumption, by assumption⟩ | exact Or.inr (Or.inl ⟨by omega, by omega, rfl, by assumption, by assumption⟩) | exact Or.inr (Or.inr ⟨by omega, by omega, by omega, by assumption, by assumption⟩) | (subst_vars; rfl) | omega⟩)
    · skip
      have c_12 : ¬ r_10.toInt = (0 : Int) := fun z => c_12 (i_eq.mpr z)
      replace q_11 : 0 ≤ x2.toInt ∧ x2.toInt < 3 := by omega
      refine ok_ite (fun c_13 => ?_) (fun c_13 => ?_)
      · skip
        have c_13 : x3.toInt ≤ (16 : Int) := i_le.mp c_13
        refine ok_ite (fun c_14 => ?_) (fun c_14 => ?_)
        · skip
          have c_14 : (0 : Int) ≤ x3.toInt := i_le.mp c_14
          have ix_15 : ¬ (x1 < 0 ∨ 4 ≤ x1.toNatClampNeg) := ix (show 0 ≤ x1.toInt by omega) (show x1.toInt < (4 : Nat) by omega)
          refine ok_chk ix_15 ?_
          refine ok_chk ix_15 ?_
          exact l46 FU x1 x3 0 (upd o_lanes x1.toNatClampNeg x2) (upd o_sizes x1.toNatClampNeg x3) o_items (FU_gt (show (16 - (0 : Int)).toNat < 1000000000000 by omega)) (show 0 ≤ (x1).toInt by first | omega | exact szs_upd (by assumption) (by omega) (by omega) | exact Or.inl ⟨by omega, rfl, by assumption, by assumption⟩ | exact Or.inr (Or.inl ⟨by omega, by omega, rfl, by assumption, by assumption⟩) | exact Or.inr (Or.inr ⟨by omega, by omega, by omega, by assumption, by assumption⟩) | (subst_vars; rfl)) (show (x1).toInt ≤ 3 by first | omega | exact szs_upd (by assumption) (by omega) (by omega) | exact Or.inl ⟨by omega, rfl, by assumption, by assumption⟩ | exact Or.inr (Or.inl ⟨by omega, by omega, rfl, by assumption, by assumption⟩) | exact Or.inr (Or.inr ⟨by omega, by omega, by omega, by assumption, by assumption⟩) | (subst_vars; rfl)) (show 0 ≤ (0 : Int) by first | omega | exact szs_upd (by assumption) (by omega) (by omega) | exact Or.inl ⟨by omega, rfl, by assumption, by assumption⟩ | exact Or.inr (Or.inl ⟨by omega, by omega, rfl, by assumption, by assumption⟩) | exact Or.inr (Or.inr ⟨by omega, by omega, by omega, by assumption, by assumption⟩) | (subst_vars; rfl)) (show (0 : Int) ≤ 16 by first | omega | exact szs_upd (by assumption) (by omega) (by omega) | exact Or.inl ⟨by omega, rfl, by assumption, by assumption⟩ | exact Or.inr (Or.inl ⟨by omega, by omega, rfl, by assumption, by assumption⟩) | exact Or.inr (Or.inr ⟨by omega, by omega, by omega, by assumption, by assumption⟩) | (subst_vars; rfl)) (by first | with_reducible assumption | with_reducible rfl | exact szs_upd (by assumption) (by omega) (by omega) | exact Or.inl ⟨by omega, rfl, by assumption, by assumption⟩ | exact Or.inr (Or.inl ⟨by omega, by omega, rfl, by assumption, by assumption⟩) | exact Or.inr (Or.inr ⟨by omega, by omega, by omega, by assumption, by assumption⟩) | (subst_vars; rfl) | omega) (by first | with_reducible assumption | with_reducible rfl | exact szs_upd (by assumption) (by omega) (by omega) | exact Or.inl ⟨by omega, rfl, by assumption, by assumption⟩ | exact Or.inr (Or.inl ⟨by omega, by omega, rfl, by assumption, by assumption⟩) | exact Or.inr (Or.inr ⟨by omega, by omega, by omega, by assumption, by assumption⟩) | (subst_vars; rfl) | omega) (by first | with_reducible assumption | with_reducible rfl | exact szs_upd (by assumption) (by omega) (by omega) | exact Or.inl ⟨by omega, rfl, by assumption, by assumption⟩ | exact Or.inr (Or.inl ⟨by omega, by omega, rfl, by assumption, by assumption⟩) | exact Or.inr (Or.inr ⟨by omega, by omega, by omega, by assumption, by assumption⟩) | (subst_vars; rfl) | omega) (show x3.toInt = x3.toInt by first | omega | exact szs_upd (by assumption) (by omega) (by omega) | exact Or.inl ⟨by omega, rfl, by assumption, by assumption⟩ | exact Or.inr (Or.inl ⟨by omega, by omega, rfl, by assumption, by assumption⟩) | exact Or.inr (Or.inr ⟨by omega, by omega, by omega, by assumption, by assumption⟩) | (subst_vars; rfl)) (show (0 ≤ x1.toInt ∧ x1.toInt < 4 ∧ 0 ≤ x2.toInt ∧ x2.toInt < 3 ∧ x3.toInt ≤ 16) ∧ 0 ≤ x3.toInt by first | omega | exact szs_upd (by assumption) (by omega) (by omega) | exact Or.inl ⟨by omega, rfl, by assumption, by assumption⟩ | exact Or.inr (Or.inl ⟨by omega, by omega, rfl, by assumption, by assumption⟩) | exact Or.inr (Or.inr ⟨by omega, by omega, by omega, by assumption, by assumption⟩) | (subst_vars; rfl))
        · skip
          have c_14 : ¬ (0 : Int) ≤ x3.toInt := fun z => c_14 (i_le.mpr z)
          exact ok_some (show (∀ j : Nat, j < 4 → 0 ≤ (o_sizes j).toInt ∧ (o_sizes j).toInt ≤ 16) ∧ ((¬ (0 ≤ x1.toInt ∧ x1.toInt < 4 ∧ 0 ≤ x2.toInt ∧ x2.toInt < 3 ∧ x3.toInt ≤ 16) ∧ (-14 : Int) = -1 ∧ o_lanes = l1 ∧ o_sizes = z1) ∨ ((0 ≤ x1.toInt ∧ x1.toInt < 4 ∧ 0 ≤ x2.toInt ∧ x2.toInt < 3 ∧ x3.toInt ≤ 16) ∧ x3.toInt < 0 ∧ (-14 : Int) = -14 ∧ o_lanes = l1 ∧ o_sizes = z1) ∨ ((0 ≤ x1.toInt ∧ x1.toInt < 4 ∧ 0 ≤ x2.toInt ∧ x2.toInt < 3 ∧ x3.toInt ≤ 16) ∧ 0 ≤ x3.toInt ∧ (-14 : Int) = x3.toInt ∧ o_lanes = upd l1 x1.toNatClampNeg x2 ∧ o_sizes = upd z1 x1.toNatClampNeg x3)) from ⟨by first | with_reducible assumption | with_reducible rfl | exact szs_upd (by assumption) (by omega) (by omega) | exact Or.inl ⟨by omega, rfl, by assumption, by assumption⟩ | exact Or.inr (Or.inl ⟨by omega, by omega, rfl, by assumption, by assumption⟩) | exact Or.inr (Or.inr ⟨by omega, by omega, by omega, by assumption, by assumption⟩) | (subst_vars; rfl) | omega, by first | with_reducible assumption | with_reducible rfl | exact szs_upd (by assumption) (by omega) (by omega) | exact Or.inl ⟨by omega, rfl, by assumption, by assumption⟩ | exact Or.inr (Or.inl ⟨by omega, by omega, rfl, by assumption, by assumption⟩) | exact Or.inr (Or.inr ⟨by omega, by omega, by omega, by assumption, by assumption⟩) | (subst_vars; rfl) | omega⟩)
      · skip
        have c_13 : ¬ x3.toInt ≤ (16 : Int) := fun z => c_13 (i_le.mpr z)
        exact ok_some (show (∀ j : Nat, j < 4 → 0 ≤ (o_sizes j).toInt ∧ (o_sizes j).toInt ≤ 16) ∧ ((¬ (0 ≤ x1.toInt ∧ x1.toInt < 4 ∧ 0 ≤ x2.toInt ∧ x2.toInt < 3 ∧ x3.toInt ≤ 16) ∧ (-1 : Int) = -1 ∧ o_lanes = l1 ∧ o_sizes = z1) ∨ ((0 ≤ x1.toInt ∧ x1.toInt < 4 ∧ 0 ≤ x2.toInt ∧ x2.toInt < 3 ∧ x3.toInt ≤ 16) ∧ x3.toInt < 0 ∧ (-1 : Int) = -14 ∧ o_lanes = l1 ∧ o_sizes = z1) ∨ ((0 ≤ x1.toInt ∧ x1.toInt < 4 ∧ 0 ≤ x2.toInt ∧ x2.toInt < 3 ∧ x3.toInt ≤ 16) ∧ 0 ≤ x3.toInt ∧ (-1 : Int) = x3.toInt ∧ o_lanes = upd l1 x1.toNatClampNeg x2 ∧ o_sizes = upd z1 x1.toNatClampNeg x3)) from ⟨by first | with_reducible assumption | with_reducible rfl | exact szs_upd (by assumption) (by omega) (by omega) | exact Or.inl ⟨by omega, rfl, by assumption, by assumption⟩ | exact Or.inr (Or.inl ⟨by omega, by omega, rfl, by assumption, by assumption⟩) | exact Or.inr (Or.inr ⟨by omega, by omega, by omega, by assumption, by assumption⟩) | (subst_vars; rfl) | omega, by first | with_reducible assumption | with_reducible rfl | exact szs_upd (by assumption) (by omega) (by omega) | exact Or.inl ⟨by omega, rfl, by assumption, by assumption⟩ | exact Or.inr (Or.inl ⟨by omega, by omega, rfl, by assumption, by assumption⟩) | exact Or.inr (Or.inr ⟨by omega, by omega, by omega, by assumption, by assumption⟩) | (subst_vars; rfl) | omega⟩)
set_option maxRecDepth 100000 in
set_option maxHeartbeats 4000000 in
theorem s_X7_drop (x1 : Int32) (o_lanes : Nat → Int32) (o_sizes : Nat → Int32) : okP (f_X7_drop x1 o_lanes o_sizes) (fun u => ((¬ (0 ≤ x1.toInt ∧ x1.toInt < 4) ∧ u.1.toInt = -1 ∧ u.2 = o_lanes) ∨ ((0 ≤ x1.toInt ∧ x1.toInt < 4) ∧ (o_lanes x1.toNatClampNeg).toInt < 0 ∧ u.1.toInt = -11 ∧ u.2 = o_lanes) ∨ ((0 ≤ x1.toInt ∧ x1.toInt < 4) ∧ 0 ≤ (o_lanes x1.toNatClampNeg).toInt ∧ u.1.toInt = (o_sizes x1.toNatClampNeg).toInt ∧ u.2 = upd o_lanes x1.toNatClampNeg (-1)))) := by
  unfold f_X7_drop
  refine ok_bd1 (s_X7_isSheet x1) (fun r_1 q_2 => ?_)
  replace q_2 : (r_1.toInt = 1 ∧ 0 ≤ x1.toInt ∧ x1.toInt < 4) ∨ (r_1.toInt = 0 ∧ (x1.toInt < 0 ∨ 4 ≤ x1.toInt)) := q_2
  refine ok_ite (fun c_3 => ?_) (fun c_3 => ?_)
  · skip
    have c_3 : r_1.toInt = (0 : Int) := i_eq.mp c_3
    replace q_2 : (x1.toInt < 0 ∨ 4 ≤ x1.toInt) := by omega
    exact ok_some (show ((¬ (0 ≤ x1.toInt ∧ x1.toInt < 4) ∧ (-1 : Int) = -1 ∧ o_lanes = o_lanes) ∨ ((0 ≤ x1.toInt ∧ x1.toInt < 4) ∧ (o_lanes x1.toNatClampNeg).toInt < 0 ∧ (-1 : Int) = -11 ∧ o_lanes = o_lanes) ∨ ((0 ≤ x1.toInt ∧ x1.toInt < 4) ∧ 0 ≤ (o_lanes x1.toNatClampNeg).toInt ∧ (-1 : Int) = (o_sizes x1.toNatClampNeg).toInt ∧ o_lanes = upd o_lanes x1.toNatClampNeg (-1))) from by first | with_reducible assumption | with_reducible rfl | exact Or.inl ⟨by omega, rfl, rfl⟩ | exact Or.inr (Or.inl ⟨by omega, by omega, rfl, rfl⟩) | exact Or.inr (Or.inr ⟨by omega, by omega, by omega, rfl⟩) | omega)
  · skip
    have c_3 : ¬ r_1.toInt = (0 : Int) := fun z => c_3 (i_eq.mpr z)
    replace q_2 : 0 ≤ x1.toInt ∧ x1.toInt < 4 := by omega
    have ix_4 : ¬ (x1 < 0 ∨ 4 ≤ x1.toNatClampNeg) := ix (show 0 ≤ x1.toInt by omega) (show x1.toInt < (4 : Nat) by omega)
    refine ok_chk ix_4 ?_
    refine ok_ite (fun c_5 => ?_) (fun c_5 => ?_)
    · skip
      have c_5 : (0 : Int) ≤ (o_lanes x1.toNatClampNeg).toInt := i_le.mp c_5
      refine ok_chk ix_4 ?_
      refine ok_chk ix_4 ?_
      exact ok_some (show ((¬ (0 ≤ x1.toInt ∧ x1.toInt < 4) ∧ (o_sizes x1.toNatClampNeg).toInt = -1 ∧ (upd o_lanes x1.toNatClampNeg (-1)) = o_lanes) ∨ ((0 ≤ x1.toInt ∧ x1.toInt < 4) ∧ (o_lanes x1.toNatClampNeg).toInt < 0 ∧ (o_sizes x1.toNatClampNeg).toInt = -11 ∧ (upd o_lanes x1.toNatClampNeg (-1)) = o_lanes) ∨ ((0 ≤ x1.toInt ∧ x1.toInt < 4) ∧ 0 ≤ (o_lanes x1.toNatClampNeg).toInt ∧ (o_sizes x1.toNatClampNeg).toInt = (o_sizes x1.toNatClampNeg).toInt ∧ (upd o_lanes x1.toNatClampNeg (-1)) = upd o_lanes x1.toNatClampNeg (-1))) from by first | with_reducible assumption | with_reducible rfl | exact Or.inl ⟨by omega, rfl, rfl⟩ | exact Or.inr (Or.inl ⟨by omega, by omega, rfl, rfl⟩) | exact Or.inr (Or.inr ⟨by omega, by omega, by omega, rfl⟩) | omega)
    · skip
      have c_5 : ¬ (0 : Int) ≤ (o_lanes x1.toNatClampNeg).toInt := fun z => c_5 (i_le.mpr z)
      exact ok_some (show ((¬ (0 ≤ x1.toInt ∧ x1.toInt < 4) ∧ (-11 : Int) = -1 ∧ o_lanes = o_lanes) ∨ ((0 ≤ x1.toInt ∧ x1.toInt < 4) ∧ (o_lanes x1.toNatClampNeg).toInt < 0 ∧ (-11 : Int) = -11 ∧ o_lanes = o_lanes) ∨ ((0 ≤ x1.toInt ∧ x1.toInt < 4) ∧ 0 ≤ (o_lanes x1.toNatClampNeg).toInt ∧ (-11 : Int) = (o_sizes x1.toNatClampNeg).toInt ∧ o_lanes = upd o_lanes x1.toNatClampNeg (-1))) from by first | with_reducible assumption | with_reducible rfl | exact Or.inl ⟨by omega, rfl, rfl⟩ | exact Or.inr (Or.inl ⟨by omega, by omega, rfl, rfl⟩) | exact Or.inr (Or.inr ⟨by omega, by omega, by omega, rfl⟩) | omega)
set_option maxRecDepth 100000 in
set_option maxHeartbeats 4000000 in
theorem s_X7_item (x1 : Int32) (x2 : Int32) (x3 : Int32) (x4 : Int32) (o_lanes : Nat → Int32) (o_sizes : Nat → Int32) (o_items : Nat → Int32) (h0 : ∀ j : Nat, j < 4 → 0 ≤ (o_sizes j).toInt ∧ (o_sizes j).toInt ≤ 16) : okP (f_X7_item x1 x2 x3 x4 o_lanes o_sizes o_items) (fun u => ((¬ (0 ≤ x1.toInt ∧ x1.toInt < 4 ∧ 0 ≤ x2.toInt ∧ x2.toInt < 3) ∧ u.1.toInt = -1) ∨ ((0 ≤ x1.toInt ∧ x1.toInt < 4 ∧ 0 ≤ x2.toInt ∧ x2.toInt < 3) ∧ (o_lanes x1.toNatClampNeg).toInt < 0 ∧ u.1.toInt = -11) ∨ ((0 ≤ x1.toInt ∧ x1.toInt < 4 ∧ 0 ≤ x2.toInt ∧ x2.toInt < 3) ∧ 0 ≤ (o_lanes x1.toNatClampNeg).toInt ∧ ¬ (o_lanes x1.toNatClampNeg).toInt = x2.toInt ∧ u.1.toInt = -12) ∨ ((0 ≤ x1.toInt ∧ x1.toInt < 4 ∧ 0 ≤ x2.toInt ∧ x2.toInt < 3) ∧ 0 ≤ (o_lanes x1.toNatClampNeg).toInt ∧ (o_lanes x1.toNatClampNeg).toInt = x2.toInt ∧ ¬ (0 ≤ x3.toInt ∧ 0 ≤ (1 : Int) ∧ x3.toInt + (1 : Int) ≤ (o_sizes x1.toNatClampNeg).toInt) ∧ u.1.toInt = -13) ∨ ((0 ≤ x1.toInt ∧ x1.toInt < 4 ∧ 0 ≤ x2.toInt ∧ x2.toInt < 3) ∧ 0 ≤ (o_lanes x1.toNatClampNeg).toInt ∧ (o_lanes x1.toNatClampNeg).toInt = x2.toInt ∧ 0 ≤ x3.toInt ∧ 0 ≤ (1 : Int) ∧ x3.toInt + (1 : Int) ≤ (o_sizes x1.toNatClampNeg).toInt ∧ u.1.toInt = 1))) := by
  unfold f_X7_item
  refine ok_bd1 (s_X7_isSheet x1) (fun r_1 q_2 => ?_)
  replace q_2 : (r_1.toInt = 1 ∧ 0 ≤ x1.toInt ∧ x1.toInt < 4) ∨ (r_1.toInt = 0 ∧ (x1.toInt < 0 ∨ 4 ≤ x1.toInt)) := q_2
  refine ok_ite (fun c_3 => ?_) (fun c_3 => ?_)
  · skip
    have c_3 : r_1.toInt = (0 : Int) := i_eq.mp c_3
    replace q_2 : (x1.toInt < 0 ∨ 4 ≤ x1.toInt) := by omega
    exact ok_some (show ((¬ (0 ≤ x1.toInt ∧ x1.toInt < 4 ∧ 0 ≤ x2.toInt ∧ x2.toInt < 3) ∧ (-1 : Int) = -1) ∨ ((0 ≤ x1.toInt ∧ x1.toInt < 4 ∧ 0 ≤ x2.toInt ∧ x2.toInt < 3) ∧ (o_lanes x1.toNatClampNeg).toInt < 0 ∧ (-1 : Int) = -11) ∨ ((0 ≤ x1.toInt ∧ x1.toInt < 4 ∧ 0 ≤ x2.toInt ∧ x2.toInt < 3) ∧ 0 ≤ (o_lanes x1.toNatClampNeg).toInt ∧ ¬ (o_lanes x1.toNatClampNeg).toInt = x2.toInt ∧ (-1 : Int) = -12) ∨ ((0 ≤ x1.toInt ∧ x1.toInt < 4 ∧ 0 ≤ x2.toInt ∧ x2.toInt < 3) ∧ 0 ≤ (o_lanes x1.toNatClampNeg).toInt ∧ (o_lanes x1.toNatClampNeg).toInt = x2.toInt ∧ ¬ (0 ≤ x3.toInt ∧ 0 ≤ (1 : Int) ∧ x3.toInt + (1 : Int) ≤ (o_sizes x1.toNatClampNeg).toInt) ∧ (-1 : Int) = -13) ∨ ((0 ≤ x1.toInt ∧ x1.toInt < 4 ∧ 0 ≤ x2.toInt ∧ x2.toInt < 3) ∧ 0 ≤ (o_lanes x1.toNatClampNeg).toInt ∧ (o_lanes x1.toNatClampNeg).toInt = x2.toInt ∧ 0 ≤ x3.toInt ∧ 0 ≤ (1 : Int) ∧ x3.toInt + (1 : Int) ≤ (o_sizes x1.toNatClampNeg).toInt ∧ (-1 : Int) = 1)) from by first | exact Or.inl ⟨by omega, rfl⟩ | exact Or.inr (Or.inl ⟨by omega, by omega, rfl⟩) | exact Or.inr (Or.inr (Or.inl ⟨by omega, by omega, by omega, rfl⟩)) | exact Or.inr (Or.inr (Or.inr (Or.inl ⟨by omega, by omega, by omega, by omega, rfl⟩))) | exact Or.inr (Or.inr (Or.inr (Or.inr (⟨by omega, by omega, by omega, by omega, by omega, by omega, rfl⟩)))) | omega)
  · skip
    have c_3 : ¬ r_1.toInt = (0 : Int) := fun z => c_3 (i_eq.mpr z)
    replace q_2 : 0 ≤ x1.toInt ∧ x1.toInt < 4 := by omega
    refine ok_bd1 (s_X7_isLane x2) (fun r_4 q_5 => ?_)
    replace q_5 : (r_4.toInt = 1 ∧ 0 ≤ x2.toInt ∧ x2.toInt < 3) ∨ (r_4.toInt = 0 ∧ (x2.toInt < 0 ∨ 3 ≤ x2.toInt)) := q_5
    refine ok_ite (fun c_6 => ?_) (fun c_6 => ?_)
    · skip
      have c_6 : r_4.toInt = (0 : Int) := i_eq.mp c_6
      replace q_5 : (x2.toInt < 0 ∨ 3 ≤ x2.toInt) := by omega
      exact ok_some (show ((¬ (0 ≤ x1.toInt ∧ x1.toInt < 4 ∧ 0 ≤ x2.toInt ∧ x2.toInt < 3) ∧ (-1 : Int) = -1) ∨ ((0 ≤ x1.toInt ∧ x1.toInt < 4 ∧ 0 ≤ x2.toInt ∧ x2.toInt < 3) ∧ (o_lanes x1.toNatClampNeg).toInt < 0 ∧ (-1 : Int) = -11) ∨ ((0 ≤ x1.toInt ∧ x1.toInt < 4 ∧ 0 ≤ x2.toInt ∧ x2.toInt < 3) ∧ 0 ≤ (o_lanes x1.toNatClampNeg).toInt ∧ ¬ (o_lanes x1.toNatClampNeg).toInt = x2.toInt ∧ (-1 : Int) = -12) ∨ ((0 ≤ x1.toInt ∧ x1.toInt < 4 ∧ 0 ≤ x2.toInt ∧ x2.toInt < 3) ∧ 0 ≤ (o_lanes x1.toNatClampNeg).toInt ∧ (o_lanes x1.toNatClampNeg).toInt = x2.toInt ∧ ¬ (0 ≤ x3.toInt ∧ 0 ≤ (1 : Int) ∧ x3.toInt + (1 : Int) ≤ (o_sizes x1.toNatClampNeg).toInt) ∧ (-1 : Int) = -13) ∨ ((0 ≤ x1.toInt ∧ x1.toInt < 4 ∧ 0 ≤ x2.toInt ∧ x2.toInt < 3) ∧ 0 ≤ (o_lanes x1.toNatClampNeg).toInt ∧ (o_lanes x1.toNatClampNeg).toInt = x2.toInt ∧ 0 ≤ x3.toInt ∧ 0 ≤ (1 : Int) ∧ x3.toInt + (1 : Int) ≤ (o_sizes x1.toNatClampNeg).toInt ∧ (-1 : Int) = 1)) from by first | exact Or.inl ⟨by omega, rfl⟩ | exact Or.inr (Or.inl ⟨by omega, by omega, rfl⟩) | exact Or.inr (Or.inr (Or.inl ⟨by omega, by omega, by omega, rfl⟩)) | exact Or.inr (Or.inr (Or.inr (Or.inl ⟨by omega, by omega, by omega, by omega, rfl⟩))) | exact Or.inr (Or.inr (Or.inr (Or.inr (⟨by omega, by omega, by omega, by omega, by omega, by omega, rfl⟩)))) | omega)
    · skip
      have c_6 : ¬ r_4.toInt = (0 : Int) := fun z => c_6 (i_eq.mpr z)
      replace q_5 : 0 ≤ x2.toInt ∧ x2.toInt < 3 := by omega
      obtain ⟨z5a, z5b⟩ := h0 x1.toNatClampNeg (by rw [i_cl]; omega)
      refine ok_bd1 (s_X7_refuses x1 x2 x3 1 o_lanes o_sizes (show 0 ≤ (x1).toInt by omega) (show (x1).toInt ≤ 3 by omega)) (fun r_7 q_8 => ?_)
      replace q_8 : ((o_lanes x1.toNatClampNeg).toInt < 0 ∧ r_7.toInt = -11) ∨ (0 ≤ (o_lanes x1.toNatClampNeg).toInt ∧ ¬ (o_lanes x1.toNatClampNeg).toInt = x2.toInt ∧ r_7.toInt = -12) ∨ (0 ≤ (o_lanes x1.toNatClampNeg).toInt ∧ (o_lanes x1.toNatClampNeg).toInt = x2.toInt ∧ (x3.toInt < 0 ∨ (o_sizes x1.toNatClampNeg).toInt < x3.toInt + (1 : Int)) ∧ r_7.toInt = -13) ∨ (0 ≤ (o_lanes x1.toNatClampNeg).toInt ∧ (o_lanes x1.toNatClampNeg).toInt = x2.toInt ∧ 0 ≤ x3.toInt ∧ x3.toInt + (1 : Int) ≤ (o_sizes x1.toNatClampNeg).toInt ∧ r_7.toInt = 0) := q_8
      refine ok_ite (fun c_9 => ?_) (fun c_9 => ?_)
      · skip
        have c_9 : (0 : Int) ≤ r_7.toInt := i_le.mp c_9
        first | (have f_10 : (16 * x1).toInt = (16 : Int) * x1.toInt := i_mul2 rfl rfl (by omega) (by omega)) | skip
        first | (have f_11 : ((16 * x1) + x3).toInt = (16 * x1).toInt + x3.toInt := i_add2 rfl rfl (by omega) (by omega)) | skip
        refine ok_ite (fun c_12 => ?_) (fun c_12 => ?_)
        · skip
          have c_12 : x2.toInt = (0 : Int) := i_eq.mp c_12
          unfold f_X7_item_B67
          have ix_13 : ¬ (((16 * x1) + x3) < 0 ∨ 64 ≤ ((16 * x1) + x3).toNatClampNeg) := ix (show 0 ≤ ((16 * x1) + x3).toInt by omega) (show ((16 * x1) + x3).toInt < (64 : Nat) by omega)
          refine ok_chk ix_13 ?_
          exact ok_some (show ((¬ (0 ≤ x1.toInt ∧ x1.toInt < 4 ∧ 0 ≤ x2.toInt ∧ x2.toInt < 3) ∧ (1 : Int) = -1) ∨ ((0 ≤ x1.toInt ∧ x1.toInt < 4 ∧ 0 ≤ x2.toInt ∧ x2.toInt < 3) ∧ (o_lanes x1.toNatClampNeg).toInt < 0 ∧ (1 : Int) = -11) ∨ ((0 ≤ x1.toInt ∧ x1.toInt < 4 ∧ 0 ≤ x2.toInt ∧ x2.toInt < 3) ∧ 0 ≤ (o_lanes x1.toNatClampNeg).toInt ∧ ¬ (o_lanes x1.toNatClampNeg).toInt = x2.toInt ∧ (1 : Int) = -12) ∨ ((0 ≤ x1.toInt ∧ x1.toInt < 4 ∧ 0 ≤ x2.toInt ∧ x2.toInt < 3) ∧ 0 ≤ (o_lanes x1.toNatClampNeg).toInt ∧ (o_lanes x1.toNatClampNeg).toInt = x2.toInt ∧ ¬ (0 ≤ x3.toInt ∧ 0 ≤ (1 : Int) ∧ x3.toInt + (1 : Int) ≤ (o_sizes x1.toNatClampNeg).toInt) ∧ (1 : Int) = -13) ∨ ((0 ≤ x1.toInt ∧ x1.toInt < 4 ∧ 0 ≤ x2.toInt ∧ x2.toInt < 3) ∧ 0 ≤ (o_lanes x1.toNatClampNeg).toInt ∧ (o_lanes x1.toNatClampNeg).toInt = x2.toInt ∧ 0 ≤ x3.toInt ∧ 0 ≤ (1 : Int) ∧ x3.toInt + (1 : Int) ≤ (o_sizes x1.toNatClampNeg).toInt ∧ (1 : Int) = 1)) from by first | exact Or.inl ⟨by omega, rfl⟩ | exact Or.inr (Or.inl ⟨by omega, by omega, rfl⟩) | exact Or.inr (Or.inr (Or.inl ⟨by omega, by omega, by omega, rfl⟩)) | exact Or.inr (Or.inr (Or.inr (Or.inl ⟨by omega, by omega, by omega, by omega, rfl⟩))) | exact Or.inr (Or.inr (Or.inr (Or.inr (⟨by omega, by omega, by omega, by omega, by omega, by omega, rfl⟩)))) | omega)
        · skip
          have c_12 : ¬ x2.toInt = (0 : Int) := fun z => c_12 (i_eq.mpr z)
          refine ok_ite (fun c_14 => ?_) (fun c_14 => ?_)
          · skip
            have c_14 : x2.toInt = (1 : Int) := i_eq.mp c_14
            unfold f_X7_item_B67
            have ix_15 : ¬ (((16 * x1) + x3) < 0 ∨ 64 ≤ ((16 * x1) + x3).toNatClampNeg) := ix (show 0 ≤ ((16 * x1) + x3).toInt by omega) (show ((16 * x1) + x3).toInt < (64 : Nat) by omega)
            refine ok_chk ix_15 ?_
            exact ok_some (show ((¬ (0 ≤ x1.toInt ∧ x1.toInt < 4 ∧ 0 ≤ x2.toInt ∧ x2.toInt < 3) ∧ (1 : Int) = -1) ∨ ((0 ≤ x1.toInt ∧ x1.toInt < 4 ∧ 0 ≤ x2.toInt ∧ x2.toInt < 3) ∧ (o_lanes x1.toNatClampNeg).toInt < 0 ∧ (1 : Int) = -11) ∨ ((0 ≤ x1.toInt ∧ x1.toInt < 4 ∧ 0 ≤ x2.toInt ∧ x2.toInt < 3) ∧ 0 ≤ (o_lanes x1.toNatClampNeg).toInt ∧ ¬ (o_lanes x1.toNatClampNeg).toInt = x2.toInt ∧ (1 : Int) = -12) ∨ ((0 ≤ x1.toInt ∧ x1.toInt < 4 ∧ 0 ≤ x2.toInt ∧ x2.toInt < 3) ∧ 0 ≤ (o_lanes x1.toNatClampNeg).toInt ∧ (o_lanes x1.toNatClampNeg).toInt = x2.toInt ∧ ¬ (0 ≤ x3.toInt ∧ 0 ≤ (1 : Int) ∧ x3.toInt + (1 : Int) ≤ (o_sizes x1.toNatClampNeg).toInt) ∧ (1 : Int) = -13) ∨ ((0 ≤ x1.toInt ∧ x1.toInt < 4 ∧ 0 ≤ x2.toInt ∧ x2.toInt < 3) ∧ 0 ≤ (o_lanes x1.toNatClampNeg).toInt ∧ (o_lanes x1.toNatClampNeg).toInt = x2.toInt ∧ 0 ≤ x3.toInt ∧ 0 ≤ (1 : Int) ∧ x3.toInt + (1 : Int) ≤ (o_sizes x1.toNatClampNeg).toInt ∧ (1 : Int) = 1)) from by first | exact Or.inl ⟨by omega, rfl⟩ | exact Or.inr (Or.inl ⟨by omega, by omega, rfl⟩) | exact Or.inr (Or.inr (Or.inl ⟨by omega, by omega, by omega, rfl⟩)) | exact Or.inr (Or.inr (Or.inr (Or.inl ⟨by omega, by omega, by omega, by omega, rfl⟩))) | exact Or.inr (Or.inr (Or.inr (Or.inr (⟨by omega, by omega, by omega, by omega, by omega, by omega, rfl⟩)))) | omega)
          · skip
            have c_14 : ¬ x2.toInt = (1 : Int) := fun z => c_14 (i_eq.mpr z)
            unfold f_X7_item_B67
            have ix_16 : ¬ (((16 * x1) + x3) < 0 ∨ 64 ≤ ((16 * x1) + x3).toNatClampNeg) := ix (show 0 ≤ ((16 * x1) + x3).toInt by omega) (show ((16 * x1) + x3).toInt < (64 : Nat) by omega)
            refine ok_chk ix_16 ?_
            exact ok_some (show ((¬ (0 ≤ x1.toInt ∧ x1.toInt < 4 ∧ 0 ≤ x2.toInt ∧ x2.toInt < 3) ∧ (1 : Int) = -1) ∨ ((0 ≤ x1.toInt ∧ x1.toInt < 4 ∧ 0 ≤ x2.toInt ∧ x2.toInt < 3) ∧ (o_lanes x1.toNatClampNeg).toInt < 0 ∧ (1 : Int) = -11) ∨ ((0 ≤ x1.toInt ∧ x1.toInt < 4 ∧ 0 ≤ x2.toInt ∧ x2.toInt < 3) ∧ 0 ≤ (o_lanes x1.toNatClampNeg).toInt ∧ ¬ (o_lanes x1.toNatClampNeg).toInt = x2.toInt ∧ (1 : Int) = -12) ∨ ((0 ≤ x1.toInt ∧ x1.toInt < 4 ∧ 0 ≤ x2.toInt ∧ x2.toInt < 3) ∧ 0 ≤ (o_lanes x1.toNatClampNeg).toInt ∧ (o_lanes x1.toNatClampNeg).toInt = x2.toInt ∧ ¬ (0 ≤ x3.toInt ∧ 0 ≤ (1 : Int) ∧ x3.toInt + (1 : Int) ≤ (o_sizes x1.toNatClampNeg).toInt) ∧ (1 : Int) = -13) ∨ ((0 ≤ x1.toInt ∧ x1.toInt < 4 ∧ 0 ≤ x2.toInt ∧ x2.toInt < 3) ∧ 0 ≤ (o_lanes x1.toNatClampNeg).toInt ∧ (o_lanes x1.toNatClampNeg).toInt = x2.toInt ∧ 0 ≤ x3.toInt ∧ 0 ≤ (1 : Int) ∧ x3.toInt + (1 : Int) ≤ (o_sizes x1.toNatClampNeg).toInt ∧ (1 : Int) = 1)) from by first | exact Or.inl ⟨by omega, rfl⟩ | exact Or.inr (Or.inl ⟨by omega, by omega, rfl⟩) | exact Or.inr (Or.inr (Or.inl ⟨by omega, by omega, by omega, rfl⟩)) | exact Or.inr (Or.inr (Or.inr (Or.inl ⟨by omega, by omega, by omega, by omega, rfl⟩))) | exact Or.inr (Or.inr (Or.inr (Or.inr (⟨by omega, by omega, by omega, by omega, by omega, by omega, rfl⟩)))) | omega)
      · skip
        have c_9 : ¬ (0 : Int) ≤ r_7.toInt := fun z => c_9 (i_le.mpr z)
        exact ok_some (show ((¬ (0 ≤ x1.toInt ∧ x1.toInt < 4 ∧ 0 ≤ x2.toInt ∧ x2.toInt < 3) ∧ r_7.toInt = -1) ∨ ((0 ≤ x1.toInt ∧ x1.toInt < 4 ∧ 0 ≤ x2.toInt ∧ x2.toInt < 3) ∧ (o_lanes x1.toNatClampNeg).toInt < 0 ∧ r_7.toInt = -11) ∨ ((0 ≤ x1.toInt ∧ x1.toInt < 4 ∧ 0 ≤ x2.toInt ∧ x2.toInt < 3) ∧ 0 ≤ (o_lanes x1.toNatClampNeg).toInt ∧ ¬ (o_lanes x1.toNatClampNeg).toInt = x2.toInt ∧ r_7.toInt = -12) ∨ ((0 ≤ x1.toInt ∧ x1.toInt < 4 ∧ 0 ≤ x2.toInt ∧ x2.toInt < 3) ∧ 0 ≤ (o_lanes x1.toNatClampNeg).toInt ∧ (o_lanes x1.toNatClampNeg).toInt = x2.toInt ∧ ¬ (0 ≤ x3.toInt ∧ 0 ≤ (1 : Int) ∧ x3.toInt + (1 : Int) ≤ (o_sizes x1.toNatClampNeg).toInt) ∧ r_7.toInt = -13) ∨ ((0 ≤ x1.toInt ∧ x1.toInt < 4 ∧ 0 ≤ x2.toInt ∧ x2.toInt < 3) ∧ 0 ≤ (o_lanes x1.toNatClampNeg).toInt ∧ (o_lanes x1.toNatClampNeg).toInt = x2.toInt ∧ 0 ≤ x3.toInt ∧ 0 ≤ (1 : Int) ∧ x3.toInt + (1 : Int) ≤ (o_sizes x1.toNatClampNeg).toInt ∧ r_7.toInt = 1)) from by first | exact Or.inl ⟨by omega, rfl⟩ | exact Or.inr (Or.inl ⟨by omega, by omega, rfl⟩) | exact Or.inr (Or.inr (Or.inl ⟨by omega, by omega, by omega, rfl⟩)) | exact Or.inr (Or.inr (Or.inr (Or.inl ⟨by omega, by omega, by omega, by omega, rfl⟩))) | exact Or.inr (Or.inr (Or.inr (Or.inr (⟨by omega, by omega, by omega, by omega, by omega, by omega, rfl⟩)))) | omega)
set_option maxRecDepth 100000 in
set_option maxHeartbeats 4000000 in
theorem s_X7_copy (x1 : Int32) (x2 : Int32) (x3 : Int32) (x4 : Int32) (x5 : Int32) (o_lanes : Nat → Int32) (o_sizes : Nat → Int32) (o_items : Nat → Int32) (o_movedItems : Nat → Int32) (h0 : ∀ j : Nat, j < 4 → 0 ≤ (o_sizes j).toInt ∧ (o_sizes j).toInt ≤ 16) : okP (f_X7_copy x1 x2 x3 x4 x5 o_lanes o_sizes o_items o_movedItems) (fun u => ((¬ (0 ≤ x1.toInt ∧ x1.toInt < 4 ∧ 0 ≤ x3.toInt ∧ x3.toInt < 4) ∧ u.1.toInt = -1) ∨ ((0 ≤ x1.toInt ∧ x1.toInt < 4 ∧ 0 ≤ x3.toInt ∧ x3.toInt < 4) ∧ ((o_lanes x1.toNatClampNeg).toInt < 0 ∨ (o_lanes x3.toNatClampNeg).toInt < 0) ∧ u.1.toInt = -11) ∨ ((0 ≤ x1.toInt ∧ x1.toInt < 4 ∧ 0 ≤ x3.toInt ∧ x3.toInt < 4) ∧ 0 ≤ (o_lanes x1.toNatClampNeg).toInt ∧ 0 ≤ (o_lanes x3.toNatClampNeg).toInt ∧ ¬ (o_lanes x1.toNatClampNeg).toInt = (o_lanes x3.toNatClampNeg).toInt ∧ u.1.toInt = -12) ∨ ((0 ≤ x1.toInt ∧ x1.toInt < 4 ∧ 0 ≤ x3.toInt ∧ x3.toInt < 4) ∧ 0 ≤ (o_lanes x1.toNatClampNeg).toInt ∧ 0 ≤ (o_lanes x3.toNatClampNeg).toInt ∧ (o_lanes x1.toNatClampNeg).toInt = (o_lanes x3.toNatClampNeg).toInt ∧ ¬ (0 ≤ x2.toInt ∧ 0 ≤ x5.toInt ∧ x2.toInt + x5.toInt ≤ (o_sizes x1.toNatClampNeg).toInt ∧ 0 ≤ x4.toInt ∧ x4.toInt + x5.toInt ≤ (o_sizes x3.toNatClampNeg).toInt) ∧ u.1.toInt = -13) ∨ ((0 ≤ x1.toInt ∧ x1.toInt < 4 ∧ 0 ≤ x3.toInt ∧ x3.toInt < 4) ∧ 0 ≤ (o_lanes x1.toNatClampNeg).toInt ∧ 0 ≤ (o_lanes x3.toNatClampNeg).toInt ∧ (o_lanes x1.toNatClampNeg).toInt = (o_lanes x3.toNatClampNeg).toInt ∧ 0 ≤ x2.toInt ∧ 0 ≤ x5.toInt ∧ x2.toInt + x5.toInt ≤ (o_sizes x1.toNatClampNeg).toInt ∧ 0 ≤ x4.toInt ∧ x4.toInt + x5.toInt ≤ (o_sizes x3.toNatClampNeg).toInt ∧ u.1.toInt = x5.toInt))) := by
  have l138 : ∀ (n : Nat) (v3 : Int32) (v4 : Int32) (v5 : Int32) (v6 : Int32) (o_items : Nat → Int32) (o_movedItems : Nat → Int32), (16 - v6.toInt).toNat < n → (0 ≤ (v3).toInt) → ((v3).toInt ≤ 3) → (0 ≤ v4.toInt) → (v4.toInt + v5.toInt ≤ 16) → (0 ≤ v5.toInt) → (0 ≤ v6.toInt) → (v6.toInt ≤ v5.toInt) → (v5.toInt = x5.toInt) → (0 ≤ x1.toInt ∧ x1.toInt < 4 ∧ 0 ≤ x3.toInt ∧ x3.toInt < 4 ∧ 0 ≤ (o_lanes x1.toNatClampNeg).toInt ∧ 0 ≤ (o_lanes x3.toNatClampNeg).toInt ∧ (o_lanes x1.toNatClampNeg).toInt = (o_lanes x3.toNatClampNeg).toInt ∧ 0 ≤ x2.toInt ∧ 0 ≤ x5.toInt ∧ x2.toInt + x5.toInt ≤ (o_sizes x1.toNatClampNeg).toInt ∧ 0 ≤ x4.toInt ∧ x4.toInt + x5.toInt ≤ (o_sizes x3.toNatClampNeg).toInt) → okP (f_X7_copy_L138 n v3 v4 v5 v6 o_lanes o_sizes o_items o_movedItems) (fun u => ((¬ (0 ≤ x1.toInt ∧ x1.toInt < 4 ∧ 0 ≤ x3.toInt ∧ x3.toInt < 4) ∧ u.1.toInt = -1) ∨ ((0 ≤ x1.toInt ∧ x1.toInt < 4 ∧ 0 ≤ x3.toInt ∧ x3.toInt < 4) ∧ ((o_lanes x1.toNatClampNeg).toInt < 0 ∨ (o_lanes x3.toNatClampNeg).toInt < 0) ∧ u.1.toInt = -11) ∨ ((0 ≤ x1.toInt ∧ x1.toInt < 4 ∧ 0 ≤ x3.toInt ∧ x3.toInt < 4) ∧ 0 ≤ (o_lanes x1.toNatClampNeg).toInt ∧ 0 ≤ (o_lanes x3.toNatClampNeg).toInt ∧ ¬ (o_lanes x1.toNatClampNeg).toInt = (o_lanes x3.toNatClampNeg).toInt ∧ u.1.toInt = -12) ∨ ((0 ≤ x1.toInt ∧ x1.toInt < 4 ∧ 0 ≤ x3.toInt ∧ x3.toInt < 4) ∧ 0 ≤ (o_lanes x1.toNatClampNeg).toInt ∧ 0 ≤ (o_lanes x3.toNatClampNeg).toInt ∧ (o_lanes x1.toNatClampNeg).toInt = (o_lanes x3.toNatClampNeg).toInt ∧ ¬ (0 ≤ x2.toInt ∧ 0 ≤ x5.toInt ∧ x2.toInt + x5.toInt ≤ (o_sizes x1.toNatClampNeg).toInt ∧ 0 ≤ x4.toInt ∧ x4.toInt + x5.toInt ≤ (o_sizes x3.toNatClampNeg).toInt) ∧ u.1.toInt = -13) ∨ ((0 ≤ x1.toInt ∧ x1.toInt < 4 ∧ 0 ≤ x3.toInt ∧ x3.toInt < 4) ∧ 0 ≤ (o_lanes x1.toNatClampNeg).toInt ∧ 0 ≤ (o_lanes x3.toNatClampNeg).toInt ∧ (o_lanes x1.toNatClampNeg).toInt = (o_lanes x3.toNatClampNeg).toInt ∧ 0 ≤ x2.toInt ∧ 0 ≤ x5.toInt ∧ x2.toInt + x5.toInt ≤ (o_sizes x1.toNatClampNeg).toInt ∧ 0 ≤ x4.toInt ∧ x4.toInt + x5.toInt ≤ (o_sizes x3.toNatClampNeg).toInt ∧ u.1.toInt = x5.toInt))) := by
    intro n
    induction n with
    | zero =>
      intro v3 v4 v5 v6 o_items o_movedItems hm
      exact absurd hm (Nat.not_lt_zero _)
    | succ n138 ih138 =>
      intro v3 v4 v5 v6 o_items o_movedItems hm138 g138_0 g138_1 g138_2 g138_3 g138_4 g138_5 g138_6 g138_7 g138_8
      show okP (f_X7_copy_L138b (f_X7_copy_L138 n138) v3 v4 v5 v6 o_lanes o_sizes o_items o_movedItems) (fun u => ((¬ (0 ≤ x1.toInt ∧ x1.toInt < 4 ∧ 0 ≤ x3.toInt ∧ x3.toInt < 4) ∧ u.1.toInt = -1) ∨ ((0 ≤ x1.toInt ∧ x1.toInt < 4 ∧ 0 ≤ x3.toInt ∧ x3.toInt < 4) ∧ ((o_lanes x1.toNatClampNeg).toInt < 0 ∨ (o_lanes x3.toNatClampNeg).toInt < 0) ∧ u.1.toInt = -11) ∨ ((0 ≤ x1.toInt ∧ x1.toInt < 4 ∧ 0 ≤ x3.toInt ∧ x3.toInt < 4) ∧ 0 ≤ (o_lanes x1.toNatClampNeg).toInt ∧ 0 ≤ (o_lanes x3.toNatClampNeg).toInt ∧ ¬ (o_lanes x1.toNatClampNeg).toInt = (o_lanes x3.toNatClampNeg).toInt ∧ u.1.toInt = -12) ∨ ((0 ≤ x1.toInt ∧ x1.toInt < 4 ∧ 0 ≤ x3.toInt ∧ x3.toInt < 4) ∧ 0 ≤ (o_lanes x1.toNatClampNeg).toInt ∧ 0 ≤ (o_lanes x3.toNatClampNeg).toInt ∧ (o_lanes x1.toNatClampNeg).toInt = (o_lanes x3.toNatClampNeg).toInt ∧ ¬ (0 ≤ x2.toInt ∧ 0 ≤ x5.toInt ∧ x2.toInt + x5.toInt ≤ (o_sizes x1.toNatClampNeg).toInt ∧ 0 ≤ x4.toInt ∧ x4.toInt + x5.toInt ≤ (o_sizes x3.toNatClampNeg).toInt) ∧ u.1.toInt = -13) ∨ ((0 ≤ x1.toInt ∧ x1.toInt < 4 ∧ 0 ≤ x3.toInt ∧ x3.toInt < 4) ∧ 0 ≤ (o_lanes x1.toNatClampNeg).toInt ∧ 0 ≤ (o_lanes x3.toNatClampNeg).toInt ∧ (o_lanes x1.toNatClampNeg).toInt = (o_lanes x3.toNatClampNeg).toInt ∧ 0 ≤ x2.toInt ∧ 0 ≤ x5.toInt ∧ x2.toInt + x5.toInt ≤ (o_sizes x1.toNatClampNeg).toInt ∧ 0 ≤ x4.toInt ∧ x4.toInt + x5.toInt ≤ (o_sizes x3.toNatClampNeg).toInt ∧ u.1.toInt = x5.toInt)))
      unfold f_X7_copy_L138b
      refine ok_ite (fun c_1 => ?_) (fun c_1 => ?_)
      · skip
        have c_1 : v5.toInt ≤ v6.toInt := i_le.mp c_1
        exact ok_some (show ((¬ (0 ≤ x1.toInt ∧ x1.toInt < 4 ∧ 0 ≤ x3.toInt ∧ x3.toInt < 4) ∧ v5.toInt = -1) ∨ ((0 ≤ x1.toInt ∧ x1.toInt < 4 ∧ 0 ≤ x3.toInt ∧ x3.toInt < 4) ∧ ((o_lanes x1.toNatClampNeg).toInt < 0 ∨ (o_lanes x3.toNatClampNeg).toInt < 0) ∧ v5.toInt = -11) ∨ ((0 ≤ x1.toInt ∧ x1.toInt < 4 ∧ 0 ≤ x3.toInt ∧ x3.toInt < 4) ∧ 0 ≤ (o_lanes x1.toNatClampNeg).toInt ∧ 0 ≤ (o_lanes x3.toNatClampNeg).toInt ∧ ¬ (o_lanes x1.toNatClampNeg).toInt = (o_lanes x3.toNatClampNeg).toInt ∧ v5.toInt = -12) ∨ ((0 ≤ x1.toInt ∧ x1.toInt < 4 ∧ 0 ≤ x3.toInt ∧ x3.toInt < 4) ∧ 0 ≤ (o_lanes x1.toNatClampNeg).toInt ∧ 0 ≤ (o_lanes x3.toNatClampNeg).toInt ∧ (o_lanes x1.toNatClampNeg).toInt = (o_lanes x3.toNatClampNeg).toInt ∧ ¬ (0 ≤ x2.toInt ∧ 0 ≤ x5.toInt ∧ x2.toInt + x5.toInt ≤ (o_sizes x1.toNatClampNeg).toInt ∧ 0 ≤ x4.toInt ∧ x4.toInt + x5.toInt ≤ (o_sizes x3.toNatClampNeg).toInt) ∧ v5.toInt = -13) ∨ ((0 ≤ x1.toInt ∧ x1.toInt < 4 ∧ 0 ≤ x3.toInt ∧ x3.toInt < 4) ∧ 0 ≤ (o_lanes x1.toNatClampNeg).toInt ∧ 0 ≤ (o_lanes x3.toNatClampNeg).toInt ∧ (o_lanes x1.toNatClampNeg).toInt = (o_lanes x3.toNatClampNeg).toInt ∧ 0 ≤ x2.toInt ∧ 0 ≤ x5.toInt ∧ x2.toInt + x5.toInt ≤ (o_sizes x1.toNatClampNeg).toInt ∧ 0 ≤ x4.toInt ∧ x4.toInt + x5.toInt ≤ (o_sizes x3.toNatClampNeg).toInt ∧ v5.toInt = x5.toInt)) from by first | exact Or.inl ⟨by omega, rfl⟩ | exact Or.inr (Or.inl ⟨by omega, by omega, rfl⟩) | exact Or.inr (Or.inr (Or.inl ⟨by omega, by omega, by omega, by omega, rfl⟩)) | exact Or.inr (Or.inr (Or.inr (Or.inl ⟨by omega, by omega, by omega, by omega, by omega, rfl⟩))) | exact Or.inr (Or.inr (Or.inr (Or.inr (⟨by omega, by omega, by omega, by omega, by omega, by omega, by omega, by omega, by omega, rfl⟩)))) | omega)
      · skip
        have c_1 : ¬ v5.toInt ≤ v6.toInt := fun z => c_1 (i_le.mpr z)
        first | (have f_2 : (16 * v3).toInt = (16 : Int) * v3.toInt := i_mul2 rfl rfl (by omega) (by omega)) | skip
        first | (have f_3 : ((16 * v3) + v4).toInt = (16 * v3).toInt + v4.toInt := i_add2 rfl rfl (by omega) (by omega)) | skip
        first | (have f_4 : (((16 * v3) + v4) + v6).toInt = ((16 * v3) + v4).toInt + v6.toInt := i_add2 rfl rfl (by omega) (by omega)) | skip
        have ix_5 : ¬ (v6 < 0 ∨ 16 ≤ v6.toNatClampNeg) := ix (show 0 ≤ v6.toInt by omega) (show v6.toInt < (16 : Nat) by omega)
        refine ok_chk ix_5 ?_
        refine ok_nmi (fun x_6 hx_6 kx_6 => ?_)
        have ix_7 : ¬ ((((16 * v3) + v4) + v6) < 0 ∨ 64 ≤ (((16 * v3) + v4) + v6).toNatClampNeg) := ix (show 0 ≤ (((16 * v3) + v4) + v6).toInt by omega) (show (((16 * v3) + v4) + v6).toInt < (64 : Nat) by omega)
        refine ok_chk ix_7 ?_
        first | (have f_8 : (v6 + 1).toInt = v6.toInt + (1 : Int) := i_add2 rfl rfl (by omega) (by omega)) | skip
        refine ok_nmi (fun x_9 hx_9 kx_9 => ?_)
        exact ih138 v3 v4 v5 x_9 (upd o_items (((16 * v3) + v4) + v6).toNatClampNeg x_6) o_movedItems (show (16 - x_9.toInt).toNat < n138 by omega) (show 0 ≤ (v3).toInt by omega) (show (v3).toInt ≤ 3 by omega) (show 0 ≤ v4.toInt by omega) (show v4.toInt + v5.toInt ≤ 16 by omega) (show 0 ≤ v5.toInt by omega) (show 0 ≤ x_9.toInt by omega) (show x_9.toInt ≤ v5.toInt by omega) (show v5.toInt = x5.toInt by omega) (show 0 ≤ x1.toInt ∧ x1.toInt < 4 ∧ 0 ≤ x3.toInt ∧ x3.toInt < 4 ∧ 0 ≤ (o_lanes x1.toNatClampNeg).toInt ∧ 0 ≤ (o_lanes x3.toNatClampNeg).toInt ∧ (o_lanes x1.toNatClampNeg).toInt = (o_lanes x3.toNatClampNeg).toInt ∧ 0 ≤ x2.toInt ∧ 0 ≤ x5.toInt ∧ x2.toInt + x5.toInt ≤ (o_sizes x1.toNatClampNeg).toInt ∧ 0 ≤ x4.toInt ∧ x4.toInt + x5.toInt ≤ (o_sizes x3.toNatClampNeg).toInt by omega)
  have l101 : ∀ (n : Nat) (v1 : Int32) (v2 : Int32) (v3 : Int32) (v4 : Int32) (v5 : Int32) (v6 : Int32) (o_items : Nat → Int32) (o_movedItems : Nat → Int32), (16 - v6.toInt).toNat < n → (0 ≤ (v1).toInt) → ((v1).toInt ≤ 3) → (0 ≤ (v3).toInt) → ((v3).toInt ≤ 3) → (0 ≤ v2.toInt) → (v2.toInt + v5.toInt ≤ 16) → (0 ≤ v4.toInt) → (v4.toInt + v5.toInt ≤ 16) → (0 ≤ v5.toInt) → (0 ≤ v6.toInt) → (v6.toInt ≤ v5.toInt) → (v5.toInt = x5.toInt) → (0 ≤ x1.toInt ∧ x1.toInt < 4 ∧ 0 ≤ x3.toInt ∧ x3.toInt < 4 ∧ 0 ≤ (o_lanes x1.toNatClampNeg).toInt ∧ 0 ≤ (o_lanes x3.toNatClampNeg).toInt ∧ (o_lanes x1.toNatClampNeg).toInt = (o_lanes x3.toNatClampNeg).toInt ∧ 0 ≤ x2.toInt ∧ 0 ≤ x5.toInt ∧ x2.toInt + x5.toInt ≤ (o_sizes x1.toNatClampNeg).toInt ∧ 0 ≤ x4.toInt ∧ x4.toInt + x5.toInt ≤ (o_sizes x3.toNatClampNeg).toInt) → okP (f_X7_copy_L101 n v1 v2 v3 v4 v5 v6 o_lanes o_sizes o_items o_movedItems) (fun u => ((¬ (0 ≤ x1.toInt ∧ x1.toInt < 4 ∧ 0 ≤ x3.toInt ∧ x3.toInt < 4) ∧ u.1.toInt = -1) ∨ ((0 ≤ x1.toInt ∧ x1.toInt < 4 ∧ 0 ≤ x3.toInt ∧ x3.toInt < 4) ∧ ((o_lanes x1.toNatClampNeg).toInt < 0 ∨ (o_lanes x3.toNatClampNeg).toInt < 0) ∧ u.1.toInt = -11) ∨ ((0 ≤ x1.toInt ∧ x1.toInt < 4 ∧ 0 ≤ x3.toInt ∧ x3.toInt < 4) ∧ 0 ≤ (o_lanes x1.toNatClampNeg).toInt ∧ 0 ≤ (o_lanes x3.toNatClampNeg).toInt ∧ ¬ (o_lanes x1.toNatClampNeg).toInt = (o_lanes x3.toNatClampNeg).toInt ∧ u.1.toInt = -12) ∨ ((0 ≤ x1.toInt ∧ x1.toInt < 4 ∧ 0 ≤ x3.toInt ∧ x3.toInt < 4) ∧ 0 ≤ (o_lanes x1.toNatClampNeg).toInt ∧ 0 ≤ (o_lanes x3.toNatClampNeg).toInt ∧ (o_lanes x1.toNatClampNeg).toInt = (o_lanes x3.toNatClampNeg).toInt ∧ ¬ (0 ≤ x2.toInt ∧ 0 ≤ x5.toInt ∧ x2.toInt + x5.toInt ≤ (o_sizes x1.toNatClampNeg).toInt ∧ 0 ≤ x4.toInt ∧ x4.toInt + x5.toInt ≤ (o_sizes x3.toNatClampNeg).toInt) ∧ u.1.toInt = -13) ∨ ((0 ≤ x1.toInt ∧ x1.toInt < 4 ∧ 0 ≤ x3.toInt ∧ x3.toInt < 4) ∧ 0 ≤ (o_lanes x1.toNatClampNeg).toInt ∧ 0 ≤ (o_lanes x3.toNatClampNeg).toInt ∧ (o_lanes x1.toNatClampNeg).toInt = (o_lanes x3.toNatClampNeg).toInt ∧ 0 ≤ x2.toInt ∧ 0 ≤ x5.toInt ∧ x2.toInt + x5.toInt ≤ (o_sizes x1.toNatClampNeg).toInt ∧ 0 ≤ x4.toInt ∧ x4.toInt + x5.toInt ≤ (o_sizes x3.toNatClampNeg).toInt ∧ u.1.toInt = x5.toInt))) := by
    intro n
    induction n with
    | zero =>
      intro v1 v2 v3 v4 v5 v6 o_items o_movedItems hm
      exact absurd hm (Nat.not_lt_zero _)
    | succ n101 ih101 =>
      intro v1 v2 v3 v4 v5 v6 o_items o_movedItems hm101 g101_0 g101_1 g101_2 g101_3 g101_4 g101_5 g101_6 g101_7 g101_8 g101_9 g101_10 g101_11 g101_12
      show okP (f_X7_copy_L101b (f_X7_copy_L101 n101) v1 v2 v3 v4 v5 v6 o_lanes o_sizes o_items o_movedItems) (fun u => ((¬ (0 ≤ x1.toInt ∧ x1.toInt < 4 ∧ 0 ≤ x3.toInt ∧ x3.toInt < 4) ∧ u.1.toInt = -1) ∨ ((0 ≤ x1.toInt ∧ x1.toInt < 4 ∧ 0 ≤ x3.toInt ∧ x3.toInt < 4) ∧ ((o_lanes x1.toNatClampNeg).toInt < 0 ∨ (o_lanes x3.toNatClampNeg).toInt < 0) ∧ u.1.toInt = -11) ∨ ((0 ≤ x1.toInt ∧ x1.toInt < 4 ∧ 0 ≤ x3.toInt ∧ x3.toInt < 4) ∧ 0 ≤ (o_lanes x1.toNatClampNeg).toInt ∧ 0 ≤ (o_lanes x3.toNatClampNeg).toInt ∧ ¬ (o_lanes x1.toNatClampNeg).toInt = (o_lanes x3.toNatClampNeg).toInt ∧ u.1.toInt = -12) ∨ ((0 ≤ x1.toInt ∧ x1.toInt < 4 ∧ 0 ≤ x3.toInt ∧ x3.toInt < 4) ∧ 0 ≤ (o_lanes x1.toNatClampNeg).toInt ∧ 0 ≤ (o_lanes x3.toNatClampNeg).toInt ∧ (o_lanes x1.toNatClampNeg).toInt = (o_lanes x3.toNatClampNeg).toInt ∧ ¬ (0 ≤ x2.toInt ∧ 0 ≤ x5.toInt ∧ x2.toInt + x5.toInt ≤ (o_sizes x1.toNatClampNeg).toInt ∧ 0 ≤ x4.toInt ∧ x4.toInt + x5.toInt ≤ (o_sizes x3.toNatClampNeg).toInt) ∧ u.1.toInt = -13) ∨ ((0 ≤ x1.toInt ∧ x1.toInt < 4 ∧ 0 ≤ x3.toInt ∧ x3.toInt < 4) ∧ 0 ≤ (o_lanes x1.toNatClampNeg).toInt ∧ 0 ≤ (o_lanes x3.toNatClampNeg).toInt ∧ (o_lanes x1.toNatClampNeg).toInt = (o_lanes x3.toNatClampNeg).toInt ∧ 0 ≤ x2.toInt ∧ 0 ≤ x5.toInt ∧ x2.toInt + x5.toInt ≤ (o_sizes x1.toNatClampNeg).toInt ∧ 0 ≤ x4.toInt ∧ x4.toInt + x5.toInt ≤ (o_sizes x3.toNatClampNeg).toInt ∧ u.1.toInt = x5.toInt)))
      unfold f_X7_copy_L101b
      refine ok_ite (fun c_10 => ?_) (fun c_10 => ?_)
      · skip
        have c_10 : v5.toInt ≤ v6.toInt := i_le.mp c_10
        exact l138 FU v3 v4 v5 0 o_items o_movedItems (FU_gt (show (16 - (0 : Int)).toNat < 1000000000000 by omega)) (show 0 ≤ (v3).toInt by omega) (show (v3).toInt ≤ 3 by omega) (show 0 ≤ v4.toInt by omega) (show v4.toInt + v5.toInt ≤ 16 by omega) (show 0 ≤ v5.toInt by omega) (show 0 ≤ (0 : Int) by omega) (show (0 : Int) ≤ v5.toInt by omega) (show v5.toInt = x5.toInt by omega) (show 0 ≤ x1.toInt ∧ x1.toInt < 4 ∧ 0 ≤ x3.toInt ∧ x3.toInt < 4 ∧ 0 ≤ (o_lanes x1.toNatClampNeg).toInt ∧ 0 ≤ (o_lanes x3.toNatClampNeg).toInt ∧ (o_lanes x1.toNatClampNeg).toInt = (o_lanes x3.toNatClampNeg).toInt ∧ 0 ≤ x2.toInt ∧ 0 ≤ x5.toInt ∧ x2.toInt + x5.toInt ≤ (o_sizes x1.toNatClampNeg).toInt ∧ 0 ≤ x4.toInt ∧ x4.toInt + x5.toInt ≤ (o_sizes x3.toNatClampNeg).toInt by omega)
      · skip
        have c_10 : ¬ v5.toInt ≤ v6.toInt := fun z => c_10 (i_le.mpr z)
        first | (have f_11 : (16 * v1).toInt = (16 : Int) * v1.toInt := i_mul2 rfl rfl (by omega) (by omega)) | skip
        first | (have f_12 : ((16 * v1) + v2).toInt = (16 * v1).toInt + v2.toInt := i_add2 rfl rfl (by omega) (by omega)) | skip
        first | (have f_13 : (((16 * v1) + v2) + v6).toInt = ((16 * v1) + v2).toInt + v6.toInt := i_add2 rfl rfl (by omega) (by omega)) | skip
        have ix_14 : ¬ ((((16 * v1) + v2) + v6) < 0 ∨ 64 ≤ (((16 * v1) + v2) + v6).toNatClampNeg) := ix (show 0 ≤ (((16 * v1) + v2) + v6).toInt by omega) (show (((16 * v1) + v2) + v6).toInt < (64 : Nat) by omega)
        refine ok_chk ix_14 ?_
        refine ok_nmi (fun x_15 hx_15 kx_15 => ?_)
        have ix_16 : ¬ (v6 < 0 ∨ 16 ≤ v6.toNatClampNeg) := ix (show 0 ≤ v6.toInt by omega) (show v6.toInt < (16 : Nat) by omega)
        refine ok_chk ix_16 ?_
        first | (have f_17 : (v6 + 1).toInt = v6.toInt + (1 : Int) := i_add2 rfl rfl (by omega) (by omega)) | skip
        refine ok_nmi (fun x_18 hx_18 kx_18 => ?_)
        exact ih101 v1 v2 v3 v4 v5 x_18 o_items (upd o_movedItems v6.toNatClampNeg x_15) (show (16 - x_18.toInt).toNat < n101 by omega) (show 0 ≤ (v1).toInt by omega) (show (v1).toInt ≤ 3 by omega) (show 0 ≤ (v3).toInt by omega) (show (v3).toInt ≤ 3 by omega) (show 0 ≤ v2.toInt by omega) (show v2.toInt + v5.toInt ≤ 16 by omega) (show 0 ≤ v4.toInt by omega) (show v4.toInt + v5.toInt ≤ 16 by omega) (show 0 ≤ v5.toInt by omega) (show 0 ≤ x_18.toInt by omega) (show x_18.toInt ≤ v5.toInt by omega) (show v5.toInt = x5.toInt by omega) (show 0 ≤ x1.toInt ∧ x1.toInt < 4 ∧ 0 ≤ x3.toInt ∧ x3.toInt < 4 ∧ 0 ≤ (o_lanes x1.toNatClampNeg).toInt ∧ 0 ≤ (o_lanes x3.toNatClampNeg).toInt ∧ (o_lanes x1.toNatClampNeg).toInt = (o_lanes x3.toNatClampNeg).toInt ∧ 0 ≤ x2.toInt ∧ 0 ≤ x5.toInt ∧ x2.toInt + x5.toInt ≤ (o_sizes x1.toNatClampNeg).toInt ∧ 0 ≤ x4.toInt ∧ x4.toInt + x5.toInt ≤ (o_sizes x3.toNatClampNeg).toInt by omega)
  unfold f_X7_copy
  refine ok_bd1 (s_X7_isSheet x1) (fun r_19 q_20 => ?_)
  replace q_20 : (r_19.toInt = 1 ∧ 0 ≤ x1.toInt ∧ x1.toInt < 4) ∨ (r_19.toInt = 0 ∧ (x1.toInt < 0 ∨ 4 ≤ x1.toInt)) := q_20
  refine ok_ite (fun c_21 => ?_) (fun c_21 => ?_)
  · skip
    have c_21 : r_19.toInt = (0 : Int) := i_eq.mp c_21
    replace q_20 : (x1.toInt < 0 ∨ 4 ≤ x1.toInt) := by omega
    exact ok_some (show ((¬ (0 ≤ x1.toInt ∧ x1.toInt < 4 ∧ 0 ≤ x3.toInt ∧ x3.toInt < 4) ∧ (-1 : Int) = -1) ∨ ((0 ≤ x1.toInt ∧ x1.toInt < 4 ∧ 0 ≤ x3.toInt ∧ x3.toInt < 4) ∧ ((o_lanes x1.toNatClampNeg).toInt < 0 ∨ (o_lanes x3.toNatClampNeg).toInt < 0) ∧ (-1 : Int) = -11) ∨ ((0 ≤ x1.toInt ∧ x1.toInt < 4 ∧ 0 ≤ x3.toInt ∧ x3.toInt < 4) ∧ 0 ≤ (o_lanes x1.toNatClampNeg).toInt ∧ 0 ≤ (o_lanes x3.toNatClampNeg).toInt ∧ ¬ (o_lanes x1.toNatClampNeg).toInt = (o_lanes x3.toNatClampNeg).toInt ∧ (-1 : Int) = -12) ∨ ((0 ≤ x1.toInt ∧ x1.toInt < 4 ∧ 0 ≤ x3.toInt ∧ x3.toInt < 4) ∧ 0 ≤ (o_lanes x1.toNatClampNeg).toInt ∧ 0 ≤ (o_lanes x3.toNatClampNeg).toInt ∧ (o_lanes x1.toNatClampNeg).toInt = (o_lanes x3.toNatClampNeg).toInt ∧ ¬ (0 ≤ x2.toInt ∧ 0 ≤ x5.toInt ∧ x2.toInt + x5.toInt ≤ (o_sizes x1.toNatClampNeg).toInt ∧ 0 ≤ x4.toInt ∧ x4.toInt + x5.toInt ≤ (o_sizes x3.toNatClampNeg).toInt) ∧ (-1 : Int) = -13) ∨ ((0 ≤ x1.toInt ∧ x1.toInt < 4 ∧ 0 ≤ x3.toInt ∧ x3.toInt < 4) ∧ 0 ≤ (o_lanes x1.toNatClampNeg).toInt ∧ 0 ≤ (o_lanes x3.toNatClampNeg).toInt ∧ (o_lanes x1.toNatClampNeg).toInt = (o_lanes x3.toNatClampNeg).toInt ∧ 0 ≤ x2.toInt ∧ 0 ≤ x5.toInt ∧ x2.toInt + x5.toInt ≤ (o_sizes x1.toNatClampNeg).toInt ∧ 0 ≤ x4.toInt ∧ x4.toInt + x5.toInt ≤ (o_sizes x3.toNatClampNeg).toInt ∧ (-1 : Int) = x5.toInt)) from by first | exact Or.inl ⟨by omega, rfl⟩ | exact Or.inr (Or.inl ⟨by omega, by omega, rfl⟩) | exact Or.inr (Or.inr (Or.inl ⟨by omega, by omega, by omega, by omega, rfl⟩)) | exact Or.inr (Or.inr (Or.inr (Or.inl ⟨by omega, by omega, by omega, by omega, by omega, rfl⟩))) | exact Or.inr (Or.inr (Or.inr (Or.inr (⟨by omega, by omega, by omega, by omega, by omega, by omega, by omega, by omega, by omega, rfl⟩)))) | omega)
  · skip
    have c_21 : ¬ r_19.toInt = (0 : Int) := fun z => c_21 (i_eq.mpr z)
    replace q_20 : 0 ≤ x1.toInt ∧ x1.toInt < 4 := by omega
    refine ok_bd1 (s_X7_isSheet x3) (fun r_22 q_23 => ?_)
    replace q_23 : (r_22.toInt = 1 ∧ 0 ≤ x3.toInt ∧ x3.toInt < 4) ∨ (r_22.toInt = 0 ∧ (x3.toInt < 0 ∨ 4 ≤ x3.toInt)) := q_23
    refine ok_ite (fun c_24 => ?_) (fun c_24 => ?_)
    · skip
      have c_24 : r_22.toInt = (0 : Int) := i_eq.mp c_24
      replace q_23 : (x3.toInt < 0 ∨ 4 ≤ x3.toInt) := by omega
      exact ok_some (show ((¬ (0 ≤ x1.toInt ∧ x1.toInt < 4 ∧ 0 ≤ x3.toInt ∧ x3.toInt < 4) ∧ (-1 : Int) = -1) ∨ ((0 ≤ x1.toInt ∧ x1.toInt < 4 ∧ 0 ≤ x3.toInt ∧ x3.toInt < 4) ∧ ((o_lanes x1.toNatClampNeg).toInt < 0 ∨ (o_lanes x3.toNatClampNeg).toInt < 0) ∧ (-1 : Int) = -11) ∨ ((0 ≤ x1.toInt ∧ x1.toInt < 4 ∧ 0 ≤ x3.toInt ∧ x3.toInt < 4) ∧ 0 ≤ (o_lanes x1.toNatClampNeg).toInt ∧ 0 ≤ (o_lanes x3.toNatClampNeg).toInt ∧ ¬ (o_lanes x1.toNatClampNeg).toInt = (o_lanes x3.toNatClampNeg).toInt ∧ (-1 : Int) = -12) ∨ ((0 ≤ x1.toInt ∧ x1.toInt < 4 ∧ 0 ≤ x3.toInt ∧ x3.toInt < 4) ∧ 0 ≤ (o_lanes x1.toNatClampNeg).toInt ∧ 0 ≤ (o_lanes x3.toNatClampNeg).toInt ∧ (o_lanes x1.toNatClampNeg).toInt = (o_lanes x3.toNatClampNeg).toInt ∧ ¬ (0 ≤ x2.toInt ∧ 0 ≤ x5.toInt ∧ x2.toInt + x5.toInt ≤ (o_sizes x1.toNatClampNeg).toInt ∧ 0 ≤ x4.toInt ∧ x4.toInt + x5.toInt ≤ (o_sizes x3.toNatClampNeg).toInt) ∧ (-1 : Int) = -13) ∨ ((0 ≤ x1.toInt ∧ x1.toInt < 4 ∧ 0 ≤ x3.toInt ∧ x3.toInt < 4) ∧ 0 ≤ (o_lanes x1.toNatClampNeg).toInt ∧ 0 ≤ (o_lanes x3.toNatClampNeg).toInt ∧ (o_lanes x1.toNatClampNeg).toInt = (o_lanes x3.toNatClampNeg).toInt ∧ 0 ≤ x2.toInt ∧ 0 ≤ x5.toInt ∧ x2.toInt + x5.toInt ≤ (o_sizes x1.toNatClampNeg).toInt ∧ 0 ≤ x4.toInt ∧ x4.toInt + x5.toInt ≤ (o_sizes x3.toNatClampNeg).toInt ∧ (-1 : Int) = x5.toInt)) from by first | exact Or.inl ⟨by omega, rfl⟩ | exact Or.inr (Or.inl ⟨by omega, by omega, rfl⟩) | exact Or.inr (Or.inr (Or.inl ⟨by omega, by omega, by omega, by omega, rfl⟩)) | exact Or.inr (Or.inr (Or.inr (Or.inl ⟨by omega, by omega, by omega, by omega, by omega, rfl⟩))) | exact Or.inr (Or.inr (Or.inr (Or.inr (⟨by omega, by omega, by omega, by omega, by omega, by omega, by omega, by omega, by omega, rfl⟩)))) | omega)
    · skip
      have c_24 : ¬ r_22.toInt = (0 : Int) := fun z => c_24 (i_eq.mpr z)
      replace q_23 : 0 ≤ x3.toInt ∧ x3.toInt < 4 := by omega
      have ix_25 : ¬ (x1 < 0 ∨ 4 ≤ x1.toNatClampNeg) := ix (show 0 ≤ x1.toInt by omega) (show x1.toInt < (4 : Nat) by omega)
      refine ok_chk ix_25 ?_
      refine ok_ite (fun c_26 => ?_) (fun c_26 => ?_)
      · skip
        have c_26 : (o_lanes x1.toNatClampNeg).toInt < (0 : Int) := i_lt.mp c_26
        exact ok_some (show ((¬ (0 ≤ x1.toInt ∧ x1.toInt < 4 ∧ 0 ≤ x3.toInt ∧ x3.toInt < 4) ∧ (-11 : Int) = -1) ∨ ((0 ≤ x1.toInt ∧ x1.toInt < 4 ∧ 0 ≤ x3.toInt ∧ x3.toInt < 4) ∧ ((o_lanes x1.toNatClampNeg).toInt < 0 ∨ (o_lanes x3.toNatClampNeg).toInt < 0) ∧ (-11 : Int) = -11) ∨ ((0 ≤ x1.toInt ∧ x1.toInt < 4 ∧ 0 ≤ x3.toInt ∧ x3.toInt < 4) ∧ 0 ≤ (o_lanes x1.toNatClampNeg).toInt ∧ 0 ≤ (o_lanes x3.toNatClampNeg).toInt ∧ ¬ (o_lanes x1.toNatClampNeg).toInt = (o_lanes x3.toNatClampNeg).toInt ∧ (-11 : Int) = -12) ∨ ((0 ≤ x1.toInt ∧ x1.toInt < 4 ∧ 0 ≤ x3.toInt ∧ x3.toInt < 4) ∧ 0 ≤ (o_lanes x1.toNatClampNeg).toInt ∧ 0 ≤ (o_lanes x3.toNatClampNeg).toInt ∧ (o_lanes x1.toNatClampNeg).toInt = (o_lanes x3.toNatClampNeg).toInt ∧ ¬ (0 ≤ x2.toInt ∧ 0 ≤ x5.toInt ∧ x2.toInt + x5.toInt ≤ (o_sizes x1.toNatClampNeg).toInt ∧ 0 ≤ x4.toInt ∧ x4.toInt + x5.toInt ≤ (o_sizes x3.toNatClampNeg).toInt) ∧ (-11 : Int) = -13) ∨ ((0 ≤ x1.toInt ∧ x1.toInt < 4 ∧ 0 ≤ x3.toInt ∧ x3.toInt < 4) ∧ 0 ≤ (o_lanes x1.toNatClampNeg).toInt ∧ 0 ≤ (o_lanes x3.toNatClampNeg).toInt ∧ (o_lanes x1.toNatClampNeg).toInt = (o_lanes x3.toNatClampNeg).toInt ∧ 0 ≤ x2.toInt ∧ 0 ≤ x5.toInt ∧ x2.toInt + x5.toInt ≤ (o_sizes x1.toNatClampNeg).toInt ∧ 0 ≤ x4.toInt ∧ x4.toInt + x5.toInt ≤ (o_sizes x3.toNatClampNeg).toInt ∧ (-11 : Int) = x5.toInt)) from by first | exact Or.inl ⟨by omega, rfl⟩ | exact Or.inr (Or.inl ⟨by omega, by omega, rfl⟩) | exact Or.inr (Or.inr (Or.inl ⟨by omega, by omega, by omega, by omega, rfl⟩)) | exact Or.inr (Or.inr (Or.inr (Or.inl ⟨by omega, by omega, by omega, by omega, by omega, rfl⟩))) | exact Or.inr (Or.inr (Or.inr (Or.inr (⟨by omega, by omega, by omega, by omega, by omega, by omega, by omega, by omega, by omega, rfl⟩)))) | omega)
      · skip
        have c_26 : ¬ (o_lanes x1.toNatClampNeg).toInt < (0 : Int) := fun z => c_26 (i_lt.mpr z)
        have ix_27 : ¬ (x3 < 0 ∨ 4 ≤ x3.toNatClampNeg) := ix (show 0 ≤ x3.toInt by omega) (show x3.toInt < (4 : Nat) by omega)
        refine ok_chk ix_27 ?_
        refine ok_ite (fun c_28 => ?_) (fun c_28 => ?_)
        · skip
          have c_28 : (0 : Int) ≤ (o_lanes x3.toNatClampNeg).toInt := i_le.mp c_28
          refine ok_chk ix_25 ?_
          refine ok_chk ix_27 ?_
          refine ok_ite (fun c_29 => ?_) (fun c_29 => ?_)
          · skip
            have c_29 : (o_lanes x1.toNatClampNeg).toInt = (o_lanes x3.toNatClampNeg).toInt := i_eq.mp c_29
            refine ok_ite (fun c_30 => ?_) (fun c_30 => ?_)
            · skip
              have c_30 : x5.toInt < (0 : Int) := i_lt.mp c_30
              exact ok_some (show ((¬ (0 ≤ x1.toInt ∧ x1.toInt < 4 ∧ 0 ≤ x3.toInt ∧ x3.toInt < 4) ∧ (-13 : Int) = -1) ∨ ((0 ≤ x1.toInt ∧ x1.toInt < 4 ∧ 0 ≤ x3.toInt ∧ x3.toInt < 4) ∧ ((o_lanes x1.toNatClampNeg).toInt < 0 ∨ (o_lanes x3.toNatClampNeg).toInt < 0) ∧ (-13 : Int) = -11) ∨ ((0 ≤ x1.toInt ∧ x1.toInt < 4 ∧ 0 ≤ x3.toInt ∧ x3.toInt < 4) ∧ 0 ≤ (o_lanes x1.toNatClampNeg).toInt ∧ 0 ≤ (o_lanes x3.toNatClampNeg).toInt ∧ ¬ (o_lanes x1.toNatClampNeg).toInt = (o_lanes x3.toNatClampNeg).toInt ∧ (-13 : Int) = -12) ∨ ((0 ≤ x1.toInt ∧ x1.toInt < 4 ∧ 0 ≤ x3.toInt ∧ x3.toInt < 4) ∧ 0 ≤ (o_lanes x1.toNatClampNeg).toInt ∧ 0 ≤ (o_lanes x3.toNatClampNeg).toInt ∧ (o_lanes x1.toNatClampNeg).toInt = (o_lanes x3.toNatClampNeg).toInt ∧ ¬ (0 ≤ x2.toInt ∧ 0 ≤ x5.toInt ∧ x2.toInt + x5.toInt ≤ (o_sizes x1.toNatClampNeg).toInt ∧ 0 ≤ x4.toInt ∧ x4.toInt + x5.toInt ≤ (o_sizes x3.toNatClampNeg).toInt) ∧ (-13 : Int) = -13) ∨ ((0 ≤ x1.toInt ∧ x1.toInt < 4 ∧ 0 ≤ x3.toInt ∧ x3.toInt < 4) ∧ 0 ≤ (o_lanes x1.toNatClampNeg).toInt ∧ 0 ≤ (o_lanes x3.toNatClampNeg).toInt ∧ (o_lanes x1.toNatClampNeg).toInt = (o_lanes x3.toNatClampNeg).toInt ∧ 0 ≤ x2.toInt ∧ 0 ≤ x5.toInt ∧ x2.toInt + x5.toInt ≤ (o_sizes x1.toNatClampNeg).toInt ∧ 0 ≤ x4.toInt ∧ x4.toInt + x5.toInt ≤ (o_sizes x3.toNatClampNeg).toInt ∧ (-13 : Int) = x5.toInt)) from by first | exact Or.inl ⟨by omega, rfl⟩ | exact Or.inr (Or.inl ⟨by omega, by omega, rfl⟩) | exact Or.inr (Or.inr (Or.inl ⟨by omega, by omega, by omega, by omega, rfl⟩)) | exact Or.inr (Or.inr (Or.inr (Or.inl ⟨by omega, by omega, by omega, by omega, by omega, rfl⟩))) | exact Or.inr (Or.inr (Or.inr (Or.inr (⟨by omega, by omega, by omega, by omega, by omega, by omega, by omega, by omega, by omega, rfl⟩)))) | omega)
            · skip
              have c_30 : ¬ x5.toInt < (0 : Int) := fun z => c_30 (i_lt.mpr z)
              refine ok_chk ix_25 ?_
              obtain ⟨z5a, z5b⟩ := h0 x1.toNatClampNeg (by rw [i_cl]; omega)
              refine ok_bd1 (s_X7_refuses x1 (o_lanes x1.toNatClampNeg) x2 x5 o_lanes o_sizes (show 0 ≤ (x1).toInt by omega) (show (x1).toInt ≤ 3 by omega)) (fun r_31 q_32 => ?_)
              replace q_32 : ((o_lanes x1.toNatClampNeg).toInt < 0 ∧ r_31.toInt = -11) ∨ (0 ≤ (o_lanes x1.toNatClampNeg).toInt ∧ ¬ (o_lanes x1.toNatClampNeg).toInt = (o_lanes x1.toNatClampNeg).toInt ∧ r_31.toInt = -12) ∨ (0 ≤ (o_lanes x1.toNatClampNeg).toInt ∧ (o_lanes x1.toNatClampNeg).toInt = (o_lanes x1.toNatClampNeg).toInt ∧ (x2.toInt < 0 ∨ (o_sizes x1.toNatClampNeg).toInt < x2.toInt + x5.toInt) ∧ r_31.toInt = -13) ∨ (0 ≤ (o_lanes x1.toNatClampNeg).toInt ∧ (o_lanes x1.toNatClampNeg).toInt = (o_lanes x1.toNatClampNeg).toInt ∧ 0 ≤ x2.toInt ∧ x2.toInt + x5.toInt ≤ (o_sizes x1.toNatClampNeg).toInt ∧ r_31.toInt = 0) := q_32
              refine ok_ite (fun c_33 => ?_) (fun c_33 => ?_)
              · skip
                have c_33 : r_31.toInt < (0 : Int) := i_lt.mp c_33
                exact ok_some (show ((¬ (0 ≤ x1.toInt ∧ x1.toInt < 4 ∧ 0 ≤ x3.toInt ∧ x3.toInt < 4) ∧ (-13 : Int) = -1) ∨ ((0 ≤ x1.toInt ∧ x1.toInt < 4 ∧ 0 ≤ x3.toInt ∧ x3.toInt < 4) ∧ ((o_lanes x1.toNatClampNeg).toInt < 0 ∨ (o_lanes x3.toNatClampNeg).toInt < 0) ∧ (-13 : Int) = -11) ∨ ((0 ≤ x1.toInt ∧ x1.toInt < 4 ∧ 0 ≤ x3.toInt ∧ x3.toInt < 4) ∧ 0 ≤ (o_lanes x1.toNatClampNeg).toInt ∧ 0 ≤ (o_lanes x3.toNatClampNeg).toInt ∧ ¬ (o_lanes x1.toNatClampNeg).toInt = (o_lanes x3.toNatClampNeg).toInt ∧ (-13 : Int) = -12) ∨ ((0 ≤ x1.toInt ∧ x1.toInt < 4 ∧ 0 ≤ x3.toInt ∧ x3.toInt < 4) ∧ 0 ≤ (o_lanes x1.toNatClampNeg).toInt ∧ 0 ≤ (o_lanes x3.toNatClampNeg).toInt ∧ (o_lanes x1.toNatClampNeg).toInt = (o_lanes x3.toNatClampNeg).toInt ∧ ¬ (0 ≤ x2.toInt ∧ 0 ≤ x5.toInt ∧ x2.toInt + x5.toInt ≤ (o_sizes x1.toNatClampNeg).toInt ∧ 0 ≤ x4.toInt ∧ x4.toInt + x5.toInt ≤ (o_sizes x3.toNatClampNeg).toInt) ∧ (-13 : Int) = -13) ∨ ((0 ≤ x1.toInt ∧ x1.toInt < 4 ∧ 0 ≤ x3.toInt ∧ x3.toInt < 4) ∧ 0 ≤ (o_lanes x1.toNatClampNeg).toInt ∧ 0 ≤ (o_lanes x3.toNatClampNeg).toInt ∧ (o_lanes x1.toNatClampNeg).toInt = (o_lanes x3.toNatClampNeg).toInt ∧ 0 ≤ x2.toInt ∧ 0 ≤ x5.toInt ∧ x2.toInt + x5.toInt ≤ (o_sizes x1.toNatClampNeg).toInt ∧ 0 ≤ x4.toInt ∧ x4.toInt + x5.toInt ≤ (o_sizes x3.toNatClampNeg).toInt ∧ (-13 : Int) = x5.toInt)) from by first | exact Or.inl ⟨by omega, rfl⟩ | exact Or.inr (Or.inl ⟨by omega, by omega, rfl⟩) | exact Or.inr (Or.inr (Or.inl ⟨by omega, by omega, by omega, by omega, rfl⟩)) | exact Or.inr (Or.inr (Or.inr (Or.inl ⟨by omega, by omega, by omega, by omega, by omega, rfl⟩))) | exact Or.inr (Or.inr (Or.inr (Or.inr (⟨by omega, by omega, by omega, by omega, by omega, by omega, by omega, by omega, by omega, rfl⟩)))) | omega)
              · skip
                have c_33 : ¬ r_31.toInt < (0 : Int) := fun z => c_33 (i_lt.mpr z)
                refine ok_chk ix_27 ?_
                obtain ⟨z6a, z6b⟩ := h0 x3.toNatClampNeg (by rw [i_cl]; omega)
                refine ok_bd1 (s_X7_refuses x3 (o_lanes x3.toNatClampNeg) x4 x5 o_lanes o_sizes (show 0 ≤ (x3).toInt by omega) (show (x3).toInt ≤ 3 by omega)) (fun r_34 q_35 => ?_)
                replace q_35 : ((o_lanes x3.toNatClampNeg).toInt < 0 ∧ r_34.toInt = -11) ∨ (0 ≤ (o_lanes x3.toNatClampNeg).toInt ∧ ¬ (o_lanes x3.toNatClampNeg).toInt = (o_lanes x3.toNatClampNeg).toInt ∧ r_34.toInt = -12) ∨ (0 ≤ (o_lanes x3.toNatClampNeg).toInt ∧ (o_lanes x3.toNatClampNeg).toInt = (o_lanes x3.toNatClampNeg).toInt ∧ (x4.toInt < 0 ∨ (o_sizes x3.toNatClampNeg).toInt < x4.toInt + x5.toInt) ∧ r_34.toInt = -13) ∨ (0 ≤ (o_lanes x3.toNatClampNeg).toInt ∧ (o_lanes x3.toNatClampNeg).toInt = (o_lanes x3.toNatClampNeg).toInt ∧ 0 ≤ x4.toInt ∧ x4.toInt + x5.toInt ≤ (o_sizes x3.toNatClampNeg).toInt ∧ r_34.toInt = 0) := q_35
                refine ok_ite (fun c_36 => ?_) (fun c_36 => ?_)
                · skip
                  have c_36 : (0 : Int) ≤ r_34.toInt := i_le.mp c_36
                  exact l101 FU x1 x2 x3 x4 x5 0 o_items o_movedItems (FU_gt (show (16 - (0 : Int)).toNat < 1000000000000 by omega)) (show 0 ≤ (x1).toInt by omega) (show (x1).toInt ≤ 3 by omega) (show 0 ≤ (x3).toInt by omega) (show (x3).toInt ≤ 3 by omega) (show 0 ≤ x2.toInt by omega) (show x2.toInt + x5.toInt ≤ 16 by omega) (show 0 ≤ x4.toInt by omega) (show x4.toInt + x5.toInt ≤ 16 by omega) (show 0 ≤ x5.toInt by omega) (show 0 ≤ (0 : Int) by omega) (show (0 : Int) ≤ x5.toInt by omega) (show x5.toInt = x5.toInt by omega) (show 0 ≤ x1.toInt ∧ x1.toInt < 4 ∧ 0 ≤ x3.toInt ∧ x3.toInt < 4 ∧ 0 ≤ (o_lanes x1.toNatClampNeg).toInt ∧ 0 ≤ (o_lanes x3.toNatClampNeg).toInt ∧ (o_lanes x1.toNatClampNeg).toInt = (o_lanes x3.toNatClampNeg).toInt ∧ 0 ≤ x2.toInt ∧ 0 ≤ x5.toInt ∧ x2.toInt + x5.toInt ≤ (o_sizes x1.toNatClampNeg).toInt ∧ 0 ≤ x4.toInt ∧ x4.toInt + x5.toInt ≤ (o_sizes x3.toNatClampNeg).toInt by omega)
                · skip
                  have c_36 : ¬ (0 : Int) ≤ r_34.toInt := fun z => c_36 (i_le.mpr z)
                  exact ok_some (show ((¬ (0 ≤ x1.toInt ∧ x1.toInt < 4 ∧ 0 ≤ x3.toInt ∧ x3.toInt < 4) ∧ (-13 : Int) = -1) ∨ ((0 ≤ x1.toInt ∧ x1.toInt < 4 ∧ 0 ≤ x3.toInt ∧ x3.toInt < 4) ∧ ((o_lanes x1.toNatClampNeg).toInt < 0 ∨ (o_lanes x3.toNatClampNeg).toInt < 0) ∧ (-13 : Int) = -11) ∨ ((0 ≤ x1.toInt ∧ x1.toInt < 4 ∧ 0 ≤ x3.toInt ∧ x3.toInt < 4) ∧ 0 ≤ (o_lanes x1.toNatClampNeg).toInt ∧ 0 ≤ (o_lanes x3.toNatClampNeg).toInt ∧ ¬ (o_lanes x1.toNatClampNeg).toInt = (o_lanes x3.toNatClampNeg).toInt ∧ (-13 : Int) = -12) ∨ ((0 ≤ x1.toInt ∧ x1.toInt < 4 ∧ 0 ≤ x3.toInt ∧ x3.toInt < 4) ∧ 0 ≤ (o_lanes x1.toNatClampNeg).toInt ∧ 0 ≤ (o_lanes x3.toNatClampNeg).toInt ∧ (o_lanes x1.toNatClampNeg).toInt = (o_lanes x3.toNatClampNeg).toInt ∧ ¬ (0 ≤ x2.toInt ∧ 0 ≤ x5.toInt ∧ x2.toInt + x5.toInt ≤ (o_sizes x1.toNatClampNeg).toInt ∧ 0 ≤ x4.toInt ∧ x4.toInt + x5.toInt ≤ (o_sizes x3.toNatClampNeg).toInt) ∧ (-13 : Int) = -13) ∨ ((0 ≤ x1.toInt ∧ x1.toInt < 4 ∧ 0 ≤ x3.toInt ∧ x3.toInt < 4) ∧ 0 ≤ (o_lanes x1.toNatClampNeg).toInt ∧ 0 ≤ (o_lanes x3.toNatClampNeg).toInt ∧ (o_lanes x1.toNatClampNeg).toInt = (o_lanes x3.toNatClampNeg).toInt ∧ 0 ≤ x2.toInt ∧ 0 ≤ x5.toInt ∧ x2.toInt + x5.toInt ≤ (o_sizes x1.toNatClampNeg).toInt ∧ 0 ≤ x4.toInt ∧ x4.toInt + x5.toInt ≤ (o_sizes x3.toNatClampNeg).toInt ∧ (-13 : Int) = x5.toInt)) from by first | exact Or.inl ⟨by omega, rfl⟩ | exact Or.inr (Or.inl ⟨by omega, by omega, rfl⟩) | exact Or.inr (Or.inr (Or.inl ⟨by omega, by omega, by omega, by omega, rfl⟩)) | exact Or.inr (Or.inr (Or.inr (Or.inl ⟨by omega, by omega, by omega, by omega, by omega, rfl⟩))) | exact Or.inr (Or.inr (Or.inr (Or.inr (⟨by omega, by omega, by omega, by omega, by omega, by omega, by omega, by omega, by omega, rfl⟩)))) | omega)
          · skip
            have c_29 : ¬ (o_lanes x1.toNatClampNeg).toInt = (o_lanes x3.toNatClampNeg).toInt := fun z => c_29 (i_eq.mpr z)
            exact ok_some (show ((¬ (0 ≤ x1.toInt ∧ x1.toInt < 4 ∧ 0 ≤ x3.toInt ∧ x3.toInt < 4) ∧ (-12 : Int) = -1) ∨ ((0 ≤ x1.toInt ∧ x1.toInt < 4 ∧ 0 ≤ x3.toInt ∧ x3.toInt < 4) ∧ ((o_lanes x1.toNatClampNeg).toInt < 0 ∨ (o_lanes x3.toNatClampNeg).toInt < 0) ∧ (-12 : Int) = -11) ∨ ((0 ≤ x1.toInt ∧ x1.toInt < 4 ∧ 0 ≤ x3.toInt ∧ x3.toInt < 4) ∧ 0 ≤ (o_lanes x1.toNatClampNeg).toInt ∧ 0 ≤ (o_lanes x3.toNatClampNeg).toInt ∧ ¬ (o_lanes x1.toNatClampNeg).toInt = (o_lanes x3.toNatClampNeg).toInt ∧ (-12 : Int) = -12) ∨ ((0 ≤ x1.toInt ∧ x1.toInt < 4 ∧ 0 ≤ x3.toInt ∧ x3.toInt < 4) ∧ 0 ≤ (o_lanes x1.toNatClampNeg).toInt ∧ 0 ≤ (o_lanes x3.toNatClampNeg).toInt ∧ (o_lanes x1.toNatClampNeg).toInt = (o_lanes x3.toNatClampNeg).toInt ∧ ¬ (0 ≤ x2.toInt ∧ 0 ≤ x5.toInt ∧ x2.toInt + x5.toInt ≤ (o_sizes x1.toNatClampNeg).toInt ∧ 0 ≤ x4.toInt ∧ x4.toInt + x5.toInt ≤ (o_sizes x3.toNatClampNeg).toInt) ∧ (-12 : Int) = -13) ∨ ((0 ≤ x1.toInt ∧ x1.toInt < 4 ∧ 0 ≤ x3.toInt ∧ x3.toInt < 4) ∧ 0 ≤ (o_lanes x1.toNatClampNeg).toInt ∧ 0 ≤ (o_lanes x3.toNatClampNeg).toInt ∧ (o_lanes x1.toNatClampNeg).toInt = (o_lanes x3.toNatClampNeg).toInt ∧ 0 ≤ x2.toInt ∧ 0 ≤ x5.toInt ∧ x2.toInt + x5.toInt ≤ (o_sizes x1.toNatClampNeg).toInt ∧ 0 ≤ x4.toInt ∧ x4.toInt + x5.toInt ≤ (o_sizes x3.toNatClampNeg).toInt ∧ (-12 : Int) = x5.toInt)) from by first | exact Or.inl ⟨by omega, rfl⟩ | exact Or.inr (Or.inl ⟨by omega, by omega, rfl⟩) | exact Or.inr (Or.inr (Or.inl ⟨by omega, by omega, by omega, by omega, rfl⟩)) | exact Or.inr (Or.inr (Or.inr (Or.inl ⟨by omega, by omega, by omega, by omega, by omega, rfl⟩))) | exact Or.inr (Or.inr (Or.inr (Or.inr (⟨by omega, by omega, by omega, by omega, by omega, by omega, by omega, by omega, by omega, rfl⟩)))) | omega)
        · skip
          have c_28 : ¬ (0 : Int) ≤ (o_lanes x3.toNatClampNeg).toInt := fun z => c_28 (i_le.mpr z)
          exact ok_some (show ((¬ (0 ≤ x1.toInt ∧ x1.toInt < 4 ∧ 0 ≤ x3.toInt ∧ x3.toInt < 4) ∧ (-11 : Int) = -1) ∨ ((0 ≤ x1.toInt ∧ x1.toInt < 4 ∧ 0 ≤ x3.toInt ∧ x3.toInt < 4) ∧ ((o_lanes x1.toNatClampNeg).toInt < 0 ∨ (o_lanes x3.toNatClampNeg).toInt < 0) ∧ (-11 : Int) = -11) ∨ ((0 ≤ x1.toInt ∧ x1.toInt < 4 ∧ 0 ≤ x3.toInt ∧ x3.toInt < 4) ∧ 0 ≤ (o_lanes x1.toNatClampNeg).toInt ∧ 0 ≤ (o_lanes x3.toNatClampNeg).toInt ∧ ¬ (o_lanes x1.toNatClampNeg).toInt = (o_lanes x3.toNatClampNeg).toInt ∧ (-11 : Int) = -12) ∨ ((0 ≤ x1.toInt ∧ x1.toInt < 4 ∧ 0 ≤ x3.toInt ∧ x3.toInt < 4) ∧ 0 ≤ (o_lanes x1.toNatClampNeg).toInt ∧ 0 ≤ (o_lanes x3.toNatClampNeg).toInt ∧ (o_lanes x1.toNatClampNeg).toInt = (o_lanes x3.toNatClampNeg).toInt ∧ ¬ (0 ≤ x2.toInt ∧ 0 ≤ x5.toInt ∧ x2.toInt + x5.toInt ≤ (o_sizes x1.toNatClampNeg).toInt ∧ 0 ≤ x4.toInt ∧ x4.toInt + x5.toInt ≤ (o_sizes x3.toNatClampNeg).toInt) ∧ (-11 : Int) = -13) ∨ ((0 ≤ x1.toInt ∧ x1.toInt < 4 ∧ 0 ≤ x3.toInt ∧ x3.toInt < 4) ∧ 0 ≤ (o_lanes x1.toNatClampNeg).toInt ∧ 0 ≤ (o_lanes x3.toNatClampNeg).toInt ∧ (o_lanes x1.toNatClampNeg).toInt = (o_lanes x3.toNatClampNeg).toInt ∧ 0 ≤ x2.toInt ∧ 0 ≤ x5.toInt ∧ x2.toInt + x5.toInt ≤ (o_sizes x1.toNatClampNeg).toInt ∧ 0 ≤ x4.toInt ∧ x4.toInt + x5.toInt ≤ (o_sizes x3.toNatClampNeg).toInt ∧ (-11 : Int) = x5.toInt)) from by first | exact Or.inl ⟨by omega, rfl⟩ | exact Or.inr (Or.inl ⟨by omega, by omega, rfl⟩) | exact Or.inr (Or.inr (Or.inl ⟨by omega, by omega, by omega, by omega, rfl⟩)) | exact Or.inr (Or.inr (Or.inr (Or.inl ⟨by omega, by omega, by omega, by omega, by omega, rfl⟩))) | exact Or.inr (Or.inr (Or.inr (Or.inr (⟨by omega, by omega, by omega, by omega, by omega, by omega, by omega, by omega, by omega, rfl⟩)))) | omega)
