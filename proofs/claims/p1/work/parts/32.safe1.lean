set_option maxRecDepth 100000 in
set_option maxHeartbeats 4000000 in
theorem s_X6_within (x1 : Int32) (x2 : Int32) (x3 : Int32) : okP (f_X6_within x1 x2 x3) (fun u => ((u.toInt = 1 ∧ x2.toInt ≤ x1.toInt ∧ x1.toInt ≤ x3.toInt) ∨ (u.toInt = 0 ∧ (x1.toInt < x2.toInt ∨ x3.toInt < x1.toInt)))) := by
  unfold f_X6_within
  refine ok_ite (fun c_1 => ?_) (fun c_1 => ?_)
  · skip
    exact ok_some (by (try dsimp only) <;> first | trivial | assumption | rfl | omega | ((try simp only [lg_cmp_lt, lg_cmp_le, lg_cmp_gt, lg_cmp_ge, lg_cmp_eq] at *) <;> (try simp only [i_lt, i_le, i_eq, i_cl, LN32, LN64, LT32, LT64, t_add, t_sub, t_mul, t_neg, j_lt, j_le, j_eq, j_i2l, j_neg] at *) <;> omega))
  · skip
    refine ok_ite (fun c_2 => ?_) (fun c_2 => ?_)
    · skip
      exact ok_some (by (try dsimp only) <;> first | trivial | assumption | rfl | omega | ((try simp only [lg_cmp_lt, lg_cmp_le, lg_cmp_gt, lg_cmp_ge, lg_cmp_eq] at *) <;> (try simp only [i_lt, i_le, i_eq, i_cl, LN32, LN64, LT32, LT64, t_add, t_sub, t_mul, t_neg, j_lt, j_le, j_eq, j_i2l, j_neg] at *) <;> omega))
    · skip
      exact ok_some (by (try dsimp only) <;> first | trivial | assumption | rfl | omega | ((try simp only [lg_cmp_lt, lg_cmp_le, lg_cmp_gt, lg_cmp_ge, lg_cmp_eq] at *) <;> (try simp only [i_lt, i_le, i_eq, i_cl, LN32, LN64, LT32, LT64, t_add, t_sub, t_mul, t_neg, j_lt, j_le, j_eq, j_i2l, j_neg] at *) <;> omega))
set_option maxRecDepth 100000 in
set_option maxHeartbeats 4000000 in
theorem s_X6_isCell (x1 : Int32) : okP (f_X6_isCell x1) (fun u => ((u.toInt = 1 ∧ 0 ≤ x1.toInt ∧ x1.toInt < 100) ∨ (u.toInt = 0 ∧ (x1.toInt < 0 ∨ 100 ≤ x1.toInt)))) := by
  unfold f_X6_isCell
  refine ok_ite (fun c_1 => ?_) (fun c_1 => ?_)
  · skip
    exact ok_some (by (try dsimp only) <;> first | trivial | assumption | rfl | omega | ((try simp only [lg_cmp_lt, lg_cmp_le, lg_cmp_gt, lg_cmp_ge, lg_cmp_eq] at *) <;> (try simp only [i_lt, i_le, i_eq, i_cl, LN32, LN64, LT32, LT64, t_add, t_sub, t_mul, t_neg, j_lt, j_le, j_eq, j_i2l, j_neg] at *) <;> omega))
  · skip
    refine ok_ite (fun c_2 => ?_) (fun c_2 => ?_)
    · skip
      exact ok_some (by (try dsimp only) <;> first | trivial | assumption | rfl | omega | ((try simp only [lg_cmp_lt, lg_cmp_le, lg_cmp_gt, lg_cmp_ge, lg_cmp_eq] at *) <;> (try simp only [i_lt, i_le, i_eq, i_cl, LN32, LN64, LT32, LT64, t_add, t_sub, t_mul, t_neg, j_lt, j_le, j_eq, j_i2l, j_neg] at *) <;> omega))
    · skip
      exact ok_some (by (try dsimp only) <;> first | trivial | assumption | rfl | omega | ((try simp only [lg_cmp_lt, lg_cmp_le, lg_cmp_gt, lg_cmp_ge, lg_cmp_eq] at *) <;> (try simp only [i_lt, i_le, i_eq, i_cl, LN32, LN64, LT32, LT64, t_add, t_sub, t_mul, t_neg, j_lt, j_le, j_eq, j_i2l, j_neg] at *) <;> omega))
set_option maxRecDepth 100000 in
set_option maxHeartbeats 4000000 in
theorem s_X6_isSheet (x1 : Int32) : okP (f_X6_isSheet x1) (fun u => ((u.toInt = 1 ∧ 0 ≤ x1.toInt ∧ x1.toInt < 4) ∨ (u.toInt = 0 ∧ (x1.toInt < 0 ∨ 4 ≤ x1.toInt)))) := by
  unfold f_X6_isSheet
  refine ok_ite (fun c_1 => ?_) (fun c_1 => ?_)
  · skip
    exact ok_some (by (try dsimp only) <;> first | trivial | assumption | rfl | omega | ((try simp only [lg_cmp_lt, lg_cmp_le, lg_cmp_gt, lg_cmp_ge, lg_cmp_eq] at *) <;> (try simp only [i_lt, i_le, i_eq, i_cl, LN32, LN64, LT32, LT64, t_add, t_sub, t_mul, t_neg, j_lt, j_le, j_eq, j_i2l, j_neg] at *) <;> omega))
  · skip
    refine ok_ite (fun c_2 => ?_) (fun c_2 => ?_)
    · skip
      exact ok_some (by (try dsimp only) <;> first | trivial | assumption | rfl | omega | ((try simp only [lg_cmp_lt, lg_cmp_le, lg_cmp_gt, lg_cmp_ge, lg_cmp_eq] at *) <;> (try simp only [i_lt, i_le, i_eq, i_cl, LN32, LN64, LT32, LT64, t_add, t_sub, t_mul, t_neg, j_lt, j_le, j_eq, j_i2l, j_neg] at *) <;> omega))
    · skip
      exact ok_some (by (try dsimp only) <;> first | trivial | assumption | rfl | omega | ((try simp only [lg_cmp_lt, lg_cmp_le, lg_cmp_gt, lg_cmp_ge, lg_cmp_eq] at *) <;> (try simp only [i_lt, i_le, i_eq, i_cl, LN32, LN64, LT32, LT64, t_add, t_sub, t_mul, t_neg, j_lt, j_le, j_eq, j_i2l, j_neg] at *) <;> omega))
set_option maxRecDepth 100000 in
set_option maxHeartbeats 4000000 in
theorem s_X6_isLane (x1 : Int32) : okP (f_X6_isLane x1) (fun u => ((u.toInt = 1 ∧ 0 ≤ x1.toInt ∧ x1.toInt < 3) ∨ (u.toInt = 0 ∧ (x1.toInt < 0 ∨ 3 ≤ x1.toInt)))) := by
  unfold f_X6_isLane
  refine ok_ite (fun c_1 => ?_) (fun c_1 => ?_)
  · skip
    exact ok_some (by (try dsimp only) <;> first | trivial | assumption | rfl | omega | ((try simp only [lg_cmp_lt, lg_cmp_le, lg_cmp_gt, lg_cmp_ge, lg_cmp_eq] at *) <;> (try simp only [i_lt, i_le, i_eq, i_cl, LN32, LN64, LT32, LT64, t_add, t_sub, t_mul, t_neg, j_lt, j_le, j_eq, j_i2l, j_neg] at *) <;> omega))
  · skip
    refine ok_ite (fun c_2 => ?_) (fun c_2 => ?_)
    · skip
      exact ok_some (by (try dsimp only) <;> first | trivial | assumption | rfl | omega | ((try simp only [lg_cmp_lt, lg_cmp_le, lg_cmp_gt, lg_cmp_ge, lg_cmp_eq] at *) <;> (try simp only [i_lt, i_le, i_eq, i_cl, LN32, LN64, LT32, LT64, t_add, t_sub, t_mul, t_neg, j_lt, j_le, j_eq, j_i2l, j_neg] at *) <;> omega))
    · skip
      exact ok_some (by (try dsimp only) <;> first | trivial | assumption | rfl | omega | ((try simp only [lg_cmp_lt, lg_cmp_le, lg_cmp_gt, lg_cmp_ge, lg_cmp_eq] at *) <;> (try simp only [i_lt, i_le, i_eq, i_cl, LN32, LN64, LT32, LT64, t_add, t_sub, t_mul, t_neg, j_lt, j_le, j_eq, j_i2l, j_neg] at *) <;> omega))
set_option maxRecDepth 100000 in
set_option maxHeartbeats 4000000 in
theorem s_X6_ahead (x1 : Int32) (x2 : Int32) (x3 : Int32) : okP (f_X6_ahead x1 x2 x3) (fun u => (u.toInt = -1 ∨ (0 ≤ u.toInt ∧ u.toInt < 100))) := by
  unfold f_X6_ahead
  refine ok_ite (fun c_1 => ?_) (fun c_1 => ?_)
  · skip
    exact ok_some (by (try dsimp only) <;> first | trivial | assumption | rfl | omega | ((try simp only [lg_cmp_lt, lg_cmp_le, lg_cmp_gt, lg_cmp_ge, lg_cmp_eq] at *) <;> (try simp only [i_lt, i_le, i_eq, i_cl, LN32, LN64, LT32, LT64, t_add, t_sub, t_mul, t_neg, j_lt, j_le, j_eq, j_i2l, j_neg] at *) <;> omega))
  · skip
    refine ok_ite (fun c_2 => ?_) (fun c_2 => ?_)
    · skip
      exact ok_some (by (try dsimp only) <;> first | trivial | assumption | rfl | omega | ((try simp only [lg_cmp_lt, lg_cmp_le, lg_cmp_gt, lg_cmp_ge, lg_cmp_eq] at *) <;> (try simp only [i_lt, i_le, i_eq, i_cl, LN32, LN64, LT32, LT64, t_add, t_sub, t_mul, t_neg, j_lt, j_le, j_eq, j_i2l, j_neg] at *) <;> omega))
    · skip
      refine ok_ite (fun c_3 => ?_) (fun c_3 => ?_)
      · skip
        exact ok_some (by (try dsimp only) <;> first | trivial | assumption | rfl | omega | ((try simp only [lg_cmp_lt, lg_cmp_le, lg_cmp_gt, lg_cmp_ge, lg_cmp_eq] at *) <;> (try simp only [i_lt, i_le, i_eq, i_cl, LN32, LN64, LT32, LT64, t_add, t_sub, t_mul, t_neg, j_lt, j_le, j_eq, j_i2l, j_neg] at *) <;> omega))
      · skip
        refine ok_ite (fun c_4 => ?_) (fun c_4 => ?_)
        · skip
          try have hd_5 := i_div (a := x1) (b := 10) (by first | trivial | assumption | rfl | omega | ((try simp only [lg_cmp_lt, lg_cmp_le, lg_cmp_gt, lg_cmp_ge, lg_cmp_eq] at *) <;> (try simp only [i_lt, i_le, i_eq, i_cl, LN32, LN64, LT32, LT64, t_add, t_sub, t_mul, t_neg, j_lt, j_le, j_eq, j_i2l, j_neg] at *) <;> omega)) (by decide)
          refine ok_chk (by first | trivial | assumption | rfl | omega | ((try simp only [lg_cmp_lt, lg_cmp_le, lg_cmp_gt, lg_cmp_ge, lg_cmp_eq] at *) <;> (try simp only [i_lt, i_le, i_eq, i_cl, LN32, LN64, LT32, LT64, t_add, t_sub, t_mul, t_neg, j_lt, j_le, j_eq, j_i2l, j_neg] at *) <;> omega)) ?_
          refine ok_nmx (fun x_6 hx_6 => ?_)
          try have hd_7 := i_div (a := x1) (b := 10) (by first | trivial | assumption | rfl | omega | ((try simp only [lg_cmp_lt, lg_cmp_le, lg_cmp_gt, lg_cmp_ge, lg_cmp_eq] at *) <;> (try simp only [i_lt, i_le, i_eq, i_cl, LN32, LN64, LT32, LT64, t_add, t_sub, t_mul, t_neg, j_lt, j_le, j_eq, j_i2l, j_neg] at *) <;> omega)) (by decide)
          refine ok_chk (by first | trivial | assumption | rfl | omega | ((try simp only [lg_cmp_lt, lg_cmp_le, lg_cmp_gt, lg_cmp_ge, lg_cmp_eq] at *) <;> (try simp only [i_lt, i_le, i_eq, i_cl, LN32, LN64, LT32, LT64, t_add, t_sub, t_mul, t_neg, j_lt, j_le, j_eq, j_i2l, j_neg] at *) <;> omega)) ?_
          refine ok_nmx (fun x_8 hx_8 => ?_)
          refine ok_ite (fun c_9 => ?_) (fun c_9 => ?_)
          · skip
            unfold f_X6_ahead_B75
            unfold f_X6_ahead_B76
            refine ok_ite (fun c_10 => ?_) (fun c_10 => ?_)
            · skip
              exact ok_some (by (try dsimp only) <;> first | trivial | assumption | rfl | omega | ((try simp only [lg_cmp_lt, lg_cmp_le, lg_cmp_gt, lg_cmp_ge, lg_cmp_eq] at *) <;> (try simp only [i_lt, i_le, i_eq, i_cl, LN32, LN64, LT32, LT64, t_add, t_sub, t_mul, t_neg, j_lt, j_le, j_eq, j_i2l, j_neg] at *) <;> omega))
            · skip
              exact ok_some (by (try dsimp only) <;> first | trivial | assumption | rfl | omega | ((try simp only [lg_cmp_lt, lg_cmp_le, lg_cmp_gt, lg_cmp_ge, lg_cmp_eq] at *) <;> (try simp only [i_lt, i_le, i_eq, i_cl, LN32, LN64, LT32, LT64, t_add, t_sub, t_mul, t_neg, j_lt, j_le, j_eq, j_i2l, j_neg] at *) <;> omega))
          · skip
            refine ok_ite (fun c_11 => ?_) (fun c_11 => ?_)
            · skip
              unfold f_X6_ahead_B75
              unfold f_X6_ahead_B76
              refine ok_ite (fun c_12 => ?_) (fun c_12 => ?_)
              · skip
                exact ok_some (by (try dsimp only) <;> first | trivial | assumption | rfl | omega | ((try simp only [lg_cmp_lt, lg_cmp_le, lg_cmp_gt, lg_cmp_ge, lg_cmp_eq] at *) <;> (try simp only [i_lt, i_le, i_eq, i_cl, LN32, LN64, LT32, LT64, t_add, t_sub, t_mul, t_neg, j_lt, j_le, j_eq, j_i2l, j_neg] at *) <;> omega))
              · skip
                exact ok_some (by (try dsimp only) <;> first | trivial | assumption | rfl | omega | ((try simp only [lg_cmp_lt, lg_cmp_le, lg_cmp_gt, lg_cmp_ge, lg_cmp_eq] at *) <;> (try simp only [i_lt, i_le, i_eq, i_cl, LN32, LN64, LT32, LT64, t_add, t_sub, t_mul, t_neg, j_lt, j_le, j_eq, j_i2l, j_neg] at *) <;> omega))
            · skip
              refine ok_ite (fun c_13 => ?_) (fun c_13 => ?_)
              · skip
                unfold f_X6_ahead_B75
                unfold f_X6_ahead_B76
                refine ok_ite (fun c_14 => ?_) (fun c_14 => ?_)
                · skip
                  exact ok_some (by (try dsimp only) <;> first | trivial | assumption | rfl | omega | ((try simp only [lg_cmp_lt, lg_cmp_le, lg_cmp_gt, lg_cmp_ge, lg_cmp_eq] at *) <;> (try simp only [i_lt, i_le, i_eq, i_cl, LN32, LN64, LT32, LT64, t_add, t_sub, t_mul, t_neg, j_lt, j_le, j_eq, j_i2l, j_neg] at *) <;> omega))
                · skip
                  exact ok_some (by (try dsimp only) <;> first | trivial | assumption | rfl | omega | ((try simp only [lg_cmp_lt, lg_cmp_le, lg_cmp_gt, lg_cmp_ge, lg_cmp_eq] at *) <;> (try simp only [i_lt, i_le, i_eq, i_cl, LN32, LN64, LT32, LT64, t_add, t_sub, t_mul, t_neg, j_lt, j_le, j_eq, j_i2l, j_neg] at *) <;> omega))
              · skip
                refine ok_ite (fun c_15 => ?_) (fun c_15 => ?_)
                · skip
                  unfold f_X6_ahead_B75
                  unfold f_X6_ahead_B76
                  refine ok_ite (fun c_16 => ?_) (fun c_16 => ?_)
                  · skip
                    exact ok_some (by (try dsimp only) <;> first | trivial | assumption | rfl | omega | ((try simp only [lg_cmp_lt, lg_cmp_le, lg_cmp_gt, lg_cmp_ge, lg_cmp_eq] at *) <;> (try simp only [i_lt, i_le, i_eq, i_cl, LN32, LN64, LT32, LT64, t_add, t_sub, t_mul, t_neg, j_lt, j_le, j_eq, j_i2l, j_neg] at *) <;> omega))
                  · skip
                    exact ok_some (by (try dsimp only) <;> first | trivial | assumption | rfl | omega | ((try simp only [lg_cmp_lt, lg_cmp_le, lg_cmp_gt, lg_cmp_ge, lg_cmp_eq] at *) <;> (try simp only [i_lt, i_le, i_eq, i_cl, LN32, LN64, LT32, LT64, t_add, t_sub, t_mul, t_neg, j_lt, j_le, j_eq, j_i2l, j_neg] at *) <;> omega))
                · skip
                  unfold f_X6_ahead_B76
                  refine ok_ite (fun c_17 => ?_) (fun c_17 => ?_)
                  · skip
                    exact ok_some (by (try dsimp only) <;> first | trivial | assumption | rfl | omega | ((try simp only [lg_cmp_lt, lg_cmp_le, lg_cmp_gt, lg_cmp_ge, lg_cmp_eq] at *) <;> (try simp only [i_lt, i_le, i_eq, i_cl, LN32, LN64, LT32, LT64, t_add, t_sub, t_mul, t_neg, j_lt, j_le, j_eq, j_i2l, j_neg] at *) <;> omega))
                  · skip
                    exact ok_some (by (try dsimp only) <;> first | trivial | assumption | rfl | omega | ((try simp only [lg_cmp_lt, lg_cmp_le, lg_cmp_gt, lg_cmp_ge, lg_cmp_eq] at *) <;> (try simp only [i_lt, i_le, i_eq, i_cl, LN32, LN64, LT32, LT64, t_add, t_sub, t_mul, t_neg, j_lt, j_le, j_eq, j_i2l, j_neg] at *) <;> omega))
        · skip
          exact ok_some (by (try dsimp only) <;> first | trivial | assumption | rfl | omega | ((try simp only [lg_cmp_lt, lg_cmp_le, lg_cmp_gt, lg_cmp_ge, lg_cmp_eq] at *) <;> (try simp only [i_lt, i_le, i_eq, i_cl, LN32, LN64, LT32, LT64, t_add, t_sub, t_mul, t_neg, j_lt, j_le, j_eq, j_i2l, j_neg] at *) <;> omega))
set_option maxRecDepth 100000 in
set_option maxHeartbeats 4000000 in
theorem s_X6_howManyAbove (n_p1 : Nat) (x2 : Int32) (p1_arr : Nat → Int32) (h0 : n_p1 < 1000) : okP (f_X6_howManyAbove n_p1 x2 p1_arr) (fun u => True) := by
  have l11 : ∀ (n : Nat) (v1 : Int32) (v2 : Int32) (v4 : Int32) (v5 : Int32), ((n_p1 : Int) - v5.toInt).toNat < n → (v4.toInt = n_p1) → (0 ≤ v5.toInt) → (v5.toInt ≤ n_p1) → okP (f_X6_howManyAbove_L11 n_p1 n v1 v2 v4 v5 p1_arr) (fun u => True) := by
    intro n
    induction n with
    | zero =>
      intro v1 v2 v4 v5 hm
      exact absurd hm (Nat.not_lt_zero _)
    | succ n11 ih11 =>
      intro v1 v2 v4 v5 hm11 g11_0 g11_1 g11_2
      show okP (f_X6_howManyAbove_L11b n_p1 (f_X6_howManyAbove_L11 n_p1 n11) v1 v2 v4 v5 p1_arr) (fun u => True)
      unfold f_X6_howManyAbove_L11b
      refine ok_ite (fun c_1 => ?_) (fun c_1 => ?_)
      · skip
        exact ok_some trivial
      · skip
        refine ok_chk (by first | trivial | assumption | rfl | omega | ((try simp only [lg_cmp_lt, lg_cmp_le, lg_cmp_gt, lg_cmp_ge, lg_cmp_eq] at *) <;> (try simp only [i_lt, i_le, i_eq, i_cl, LN32, LN64, LT32, LT64, t_add, t_sub, t_mul, t_neg, j_lt, j_le, j_eq, j_i2l, j_neg] at *) <;> omega)) ?_
        refine ok_nmx (fun x_2 hx_2 => ?_)
        refine ok_ite (fun c_3 => ?_) (fun c_3 => ?_)
        · skip
          unfold f_X6_howManyAbove_B36
          refine ok_nmx (fun x_4 hx_4 => ?_)
          refine ok_nmx (fun x_5 hx_5 => ?_)
          exact ih11 v1 x_4 v4 x_5 (by first | trivial | assumption | rfl | omega | ((try simp only [lg_cmp_lt, lg_cmp_le, lg_cmp_gt, lg_cmp_ge, lg_cmp_eq] at *) <;> (try simp only [i_lt, i_le, i_eq, i_cl, LN32, LN64, LT32, LT64, t_add, t_sub, t_mul, t_neg, j_lt, j_le, j_eq, j_i2l, j_neg] at *) <;> omega)) (by first | trivial | assumption | rfl | omega | ((try simp only [lg_cmp_lt, lg_cmp_le, lg_cmp_gt, lg_cmp_ge, lg_cmp_eq] at *) <;> (try simp only [i_lt, i_le, i_eq, i_cl, LN32, LN64, LT32, LT64, t_add, t_sub, t_mul, t_neg, j_lt, j_le, j_eq, j_i2l, j_neg] at *) <;> omega)) (by first | trivial | assumption | rfl | omega | ((try simp only [lg_cmp_lt, lg_cmp_le, lg_cmp_gt, lg_cmp_ge, lg_cmp_eq] at *) <;> (try simp only [i_lt, i_le, i_eq, i_cl, LN32, LN64, LT32, LT64, t_add, t_sub, t_mul, t_neg, j_lt, j_le, j_eq, j_i2l, j_neg] at *) <;> omega)) (by first | trivial | assumption | rfl | omega | ((try simp only [lg_cmp_lt, lg_cmp_le, lg_cmp_gt, lg_cmp_ge, lg_cmp_eq] at *) <;> (try simp only [i_lt, i_le, i_eq, i_cl, LN32, LN64, LT32, LT64, t_add, t_sub, t_mul, t_neg, j_lt, j_le, j_eq, j_i2l, j_neg] at *) <;> omega))
        · skip
          unfold f_X6_howManyAbove_B36
          refine ok_nmx (fun x_6 hx_6 => ?_)
          refine ok_nmx (fun x_7 hx_7 => ?_)
          exact ih11 v1 x_6 v4 x_7 (by first | trivial | assumption | rfl | omega | ((try simp only [lg_cmp_lt, lg_cmp_le, lg_cmp_gt, lg_cmp_ge, lg_cmp_eq] at *) <;> (try simp only [i_lt, i_le, i_eq, i_cl, LN32, LN64, LT32, LT64, t_add, t_sub, t_mul, t_neg, j_lt, j_le, j_eq, j_i2l, j_neg] at *) <;> omega)) (by first | trivial | assumption | rfl | omega | ((try simp only [lg_cmp_lt, lg_cmp_le, lg_cmp_gt, lg_cmp_ge, lg_cmp_eq] at *) <;> (try simp only [i_lt, i_le, i_eq, i_cl, LN32, LN64, LT32, LT64, t_add, t_sub, t_mul, t_neg, j_lt, j_le, j_eq, j_i2l, j_neg] at *) <;> omega)) (by first | trivial | assumption | rfl | omega | ((try simp only [lg_cmp_lt, lg_cmp_le, lg_cmp_gt, lg_cmp_ge, lg_cmp_eq] at *) <;> (try simp only [i_lt, i_le, i_eq, i_cl, LN32, LN64, LT32, LT64, t_add, t_sub, t_mul, t_neg, j_lt, j_le, j_eq, j_i2l, j_neg] at *) <;> omega)) (by first | trivial | assumption | rfl | omega | ((try simp only [lg_cmp_lt, lg_cmp_le, lg_cmp_gt, lg_cmp_ge, lg_cmp_eq] at *) <;> (try simp only [i_lt, i_le, i_eq, i_cl, LN32, LN64, LT32, LT64, t_add, t_sub, t_mul, t_neg, j_lt, j_le, j_eq, j_i2l, j_neg] at *) <;> omega))
  unfold f_X6_howManyAbove
  have hN : (Int32.ofNat n_p1).toInt = n_p1 := Int32.toInt_ofNat_of_lt (by omega)
  refine ok_nmx (fun x_8 hx_8 => ?_)
  exact l11 FU x2 0 x_8 0 (FU_gt (by omega)) (by first | trivial | assumption | rfl | omega | ((try simp only [lg_cmp_lt, lg_cmp_le, lg_cmp_gt, lg_cmp_ge, lg_cmp_eq] at *) <;> (try simp only [i_lt, i_le, i_eq, i_cl, LN32, LN64, LT32, LT64, t_add, t_sub, t_mul, t_neg, j_lt, j_le, j_eq, j_i2l, j_neg] at *) <;> omega)) (by first | trivial | assumption | rfl | omega | ((try simp only [lg_cmp_lt, lg_cmp_le, lg_cmp_gt, lg_cmp_ge, lg_cmp_eq] at *) <;> (try simp only [i_lt, i_le, i_eq, i_cl, LN32, LN64, LT32, LT64, t_add, t_sub, t_mul, t_neg, j_lt, j_le, j_eq, j_i2l, j_neg] at *) <;> omega)) (by first | trivial | assumption | rfl | omega | ((try simp only [lg_cmp_lt, lg_cmp_le, lg_cmp_gt, lg_cmp_ge, lg_cmp_eq] at *) <;> (try simp only [i_lt, i_le, i_eq, i_cl, LN32, LN64, LT32, LT64, t_add, t_sub, t_mul, t_neg, j_lt, j_le, j_eq, j_i2l, j_neg] at *) <;> omega))
set_option maxRecDepth 100000 in
set_option maxHeartbeats 4000000 in
theorem s_X6_howManyGreater (n_p1 : Nat) (x2 : Int64) (p1_arr : Nat → Int64) (h0 : n_p1 < 1000) : okP (f_X6_howManyGreater n_p1 x2 p1_arr) (fun u => True) := by
  have l13 : ∀ (n : Nat) (v1 : Int64) (v3 : Int32) (v5 : Int32) (v6 : Int32), ((n_p1 : Int) - v6.toInt).toNat < n → (v5.toInt = n_p1) → (0 ≤ v6.toInt) → (v6.toInt ≤ n_p1) → okP (f_X6_howManyGreater_L13 n_p1 n v1 v3 v5 v6 p1_arr) (fun u => True) := by
    intro n
    induction n with
    | zero =>
      intro v1 v3 v5 v6 hm
      exact absurd hm (Nat.not_lt_zero _)
    | succ n13 ih13 =>
      intro v1 v3 v5 v6 hm13 g13_0 g13_1 g13_2
      show okP (f_X6_howManyGreater_L13b n_p1 (f_X6_howManyGreater_L13 n_p1 n13) v1 v3 v5 v6 p1_arr) (fun u => True)
      unfold f_X6_howManyGreater_L13b
      refine ok_ite (fun c_1 => ?_) (fun c_1 => ?_)
      · skip
        exact ok_some trivial
      · skip
        refine ok_chk (by first | trivial | assumption | rfl | omega | ((try simp only [lg_cmp_lt, lg_cmp_le, lg_cmp_gt, lg_cmp_ge, lg_cmp_eq] at *) <;> (try simp only [i_lt, i_le, i_eq, i_cl, LN32, LN64, LT32, LT64, t_add, t_sub, t_mul, t_neg, j_lt, j_le, j_eq, j_i2l, j_neg] at *) <;> omega)) ?_
        refine ok_nmx (fun x_2 hx_2 => ?_)
        refine ok_ite (fun c_3 => ?_) (fun c_3 => ?_)
        · skip
          unfold f_X6_howManyGreater_B40
          refine ok_nmx (fun x_4 hx_4 => ?_)
          refine ok_nmx (fun x_5 hx_5 => ?_)
          exact ih13 v1 x_4 v5 x_5 (by first | trivial | assumption | rfl | omega | ((try simp only [lg_cmp_lt, lg_cmp_le, lg_cmp_gt, lg_cmp_ge, lg_cmp_eq] at *) <;> (try simp only [i_lt, i_le, i_eq, i_cl, LN32, LN64, LT32, LT64, t_add, t_sub, t_mul, t_neg, j_lt, j_le, j_eq, j_i2l, j_neg] at *) <;> omega)) (by first | trivial | assumption | rfl | omega | ((try simp only [lg_cmp_lt, lg_cmp_le, lg_cmp_gt, lg_cmp_ge, lg_cmp_eq] at *) <;> (try simp only [i_lt, i_le, i_eq, i_cl, LN32, LN64, LT32, LT64, t_add, t_sub, t_mul, t_neg, j_lt, j_le, j_eq, j_i2l, j_neg] at *) <;> omega)) (by first | trivial | assumption | rfl | omega | ((try simp only [lg_cmp_lt, lg_cmp_le, lg_cmp_gt, lg_cmp_ge, lg_cmp_eq] at *) <;> (try simp only [i_lt, i_le, i_eq, i_cl, LN32, LN64, LT32, LT64, t_add, t_sub, t_mul, t_neg, j_lt, j_le, j_eq, j_i2l, j_neg] at *) <;> omega)) (by first | trivial | assumption | rfl | omega | ((try simp only [lg_cmp_lt, lg_cmp_le, lg_cmp_gt, lg_cmp_ge, lg_cmp_eq] at *) <;> (try simp only [i_lt, i_le, i_eq, i_cl, LN32, LN64, LT32, LT64, t_add, t_sub, t_mul, t_neg, j_lt, j_le, j_eq, j_i2l, j_neg] at *) <;> omega))
        · skip
          unfold f_X6_howManyGreater_B40
          refine ok_nmx (fun x_6 hx_6 => ?_)
          refine ok_nmx (fun x_7 hx_7 => ?_)
          exact ih13 v1 x_6 v5 x_7 (by first | trivial | assumption | rfl | omega | ((try simp only [lg_cmp_lt, lg_cmp_le, lg_cmp_gt, lg_cmp_ge, lg_cmp_eq] at *) <;> (try simp only [i_lt, i_le, i_eq, i_cl, LN32, LN64, LT32, LT64, t_add, t_sub, t_mul, t_neg, j_lt, j_le, j_eq, j_i2l, j_neg] at *) <;> omega)) (by first | trivial | assumption | rfl | omega | ((try simp only [lg_cmp_lt, lg_cmp_le, lg_cmp_gt, lg_cmp_ge, lg_cmp_eq] at *) <;> (try simp only [i_lt, i_le, i_eq, i_cl, LN32, LN64, LT32, LT64, t_add, t_sub, t_mul, t_neg, j_lt, j_le, j_eq, j_i2l, j_neg] at *) <;> omega)) (by first | trivial | assumption | rfl | omega | ((try simp only [lg_cmp_lt, lg_cmp_le, lg_cmp_gt, lg_cmp_ge, lg_cmp_eq] at *) <;> (try simp only [i_lt, i_le, i_eq, i_cl, LN32, LN64, LT32, LT64, t_add, t_sub, t_mul, t_neg, j_lt, j_le, j_eq, j_i2l, j_neg] at *) <;> omega)) (by first | trivial | assumption | rfl | omega | ((try simp only [lg_cmp_lt, lg_cmp_le, lg_cmp_gt, lg_cmp_ge, lg_cmp_eq] at *) <;> (try simp only [i_lt, i_le, i_eq, i_cl, LN32, LN64, LT32, LT64, t_add, t_sub, t_mul, t_neg, j_lt, j_le, j_eq, j_i2l, j_neg] at *) <;> omega))
  unfold f_X6_howManyGreater
  have hN : (Int32.ofNat n_p1).toInt = n_p1 := Int32.toInt_ofNat_of_lt (by omega)
  refine ok_nmx (fun x_8 hx_8 => ?_)
  exact l13 FU x2 0 x_8 0 (FU_gt (by omega)) (by first | trivial | assumption | rfl | omega | ((try simp only [lg_cmp_lt, lg_cmp_le, lg_cmp_gt, lg_cmp_ge, lg_cmp_eq] at *) <;> (try simp only [i_lt, i_le, i_eq, i_cl, LN32, LN64, LT32, LT64, t_add, t_sub, t_mul, t_neg, j_lt, j_le, j_eq, j_i2l, j_neg] at *) <;> omega)) (by first | trivial | assumption | rfl | omega | ((try simp only [lg_cmp_lt, lg_cmp_le, lg_cmp_gt, lg_cmp_ge, lg_cmp_eq] at *) <;> (try simp only [i_lt, i_le, i_eq, i_cl, LN32, LN64, LT32, LT64, t_add, t_sub, t_mul, t_neg, j_lt, j_le, j_eq, j_i2l, j_neg] at *) <;> omega)) (by first | trivial | assumption | rfl | omega | ((try simp only [lg_cmp_lt, lg_cmp_le, lg_cmp_gt, lg_cmp_ge, lg_cmp_eq] at *) <;> (try simp only [i_lt, i_le, i_eq, i_cl, LN32, LN64, LT32, LT64, t_add, t_sub, t_mul, t_neg, j_lt, j_le, j_eq, j_i2l, j_neg] at *) <;> omega))
set_option maxRecDepth 100000 in
set_option maxHeartbeats 4000000 in
theorem s_X6_greatestCommon (x1 : Int64) (x2 : Int64) : okP (f_X6_greatestCommon x1 x2) (fun u => True) := by
  have l3 : ∀ (n : Nat) (v0 : Int64) (v2 : Int64) (v4 : Int32), (200 - v4.toInt).toNat < n → (0 ≤ v4.toInt) → (v4.toInt ≤ 200) → okP (f_X6_greatestCommon_L3 n v0 v2 v4) (fun u => True) := by
    intro n
    induction n with
    | zero =>
      intro v0 v2 v4 hm
      exact absurd hm (Nat.not_lt_zero _)
    | succ n3 ih3 =>
      intro v0 v2 v4 hm3 g3_0 g3_1
      show okP (f_X6_greatestCommon_L3b (f_X6_greatestCommon_L3 n3) v0 v2 v4) (fun u => True)
      unfold f_X6_greatestCommon_L3b
      refine ok_ite (fun c_1 => ?_) (fun c_1 => ?_)
      · skip
        exact ok_some trivial
      · skip
        refine ok_ite (fun c_2 => ?_) (fun c_2 => ?_)
        · skip
          exact ok_some trivial
        · skip
          refine ok_chk (by first | trivial | assumption | rfl | omega | ((try simp only [lg_cmp_lt, lg_cmp_le, lg_cmp_gt, lg_cmp_ge, lg_cmp_eq] at *) <;> (try simp only [i_lt, i_le, i_eq, i_cl, LN32, LN64, LT32, LT64, t_add, t_sub, t_mul, t_neg, j_lt, j_le, j_eq, j_i2l, j_neg] at *) <;> omega)) ?_
          refine ok_nmx (fun x_3 hx_3 => ?_)
          refine ok_nmx (fun x_4 hx_4 => ?_)
          exact ih3 v2 x_3 x_4 (by first | trivial | assumption | rfl | omega | ((try simp only [lg_cmp_lt, lg_cmp_le, lg_cmp_gt, lg_cmp_ge, lg_cmp_eq] at *) <;> (try simp only [i_lt, i_le, i_eq, i_cl, LN32, LN64, LT32, LT64, t_add, t_sub, t_mul, t_neg, j_lt, j_le, j_eq, j_i2l, j_neg] at *) <;> omega)) (by first | trivial | assumption | rfl | omega | ((try simp only [lg_cmp_lt, lg_cmp_le, lg_cmp_gt, lg_cmp_ge, lg_cmp_eq] at *) <;> (try simp only [i_lt, i_le, i_eq, i_cl, LN32, LN64, LT32, LT64, t_add, t_sub, t_mul, t_neg, j_lt, j_le, j_eq, j_i2l, j_neg] at *) <;> omega)) (by first | trivial | assumption | rfl | omega | ((try simp only [lg_cmp_lt, lg_cmp_le, lg_cmp_gt, lg_cmp_ge, lg_cmp_eq] at *) <;> (try simp only [i_lt, i_le, i_eq, i_cl, LN32, LN64, LT32, LT64, t_add, t_sub, t_mul, t_neg, j_lt, j_le, j_eq, j_i2l, j_neg] at *) <;> omega))
  unfold f_X6_greatestCommon
  exact l3 FU x1 x2 0 (FU_gt (by omega)) (by first | trivial | assumption | rfl | omega | ((try simp only [lg_cmp_lt, lg_cmp_le, lg_cmp_gt, lg_cmp_ge, lg_cmp_eq] at *) <;> (try simp only [i_lt, i_le, i_eq, i_cl, LN32, LN64, LT32, LT64, t_add, t_sub, t_mul, t_neg, j_lt, j_le, j_eq, j_i2l, j_neg] at *) <;> omega)) (by first | trivial | assumption | rfl | omega | ((try simp only [lg_cmp_lt, lg_cmp_le, lg_cmp_gt, lg_cmp_ge, lg_cmp_eq] at *) <;> (try simp only [i_lt, i_le, i_eq, i_cl, LN32, LN64, LT32, LT64, t_add, t_sub, t_mul, t_neg, j_lt, j_le, j_eq, j_i2l, j_neg] at *) <;> omega))
set_option maxRecDepth 100000 in
set_option maxHeartbeats 4000000 in
theorem s_X6_partOf (x1 : Int64) (x2 : Int64) (x3 : Int32) : okP (f_X6_partOf x1 x2 x3) (fun u => True) := by
  unfold f_X6_partOf
  refine ok_ite (fun c_1 => ?_) (fun c_1 => ?_)
  · skip
    refine ok_bd1 (s_X6_greatestCommon x1 x2) (fun r_2 q_3 => ?_)
    refine ok_ite (fun c_4 => ?_) (fun c_4 => ?_)
    · skip
      refine ok_ite (fun c_5 => ?_) (fun c_5 => ?_)
      · skip
        refine ok_chk (by first | trivial | assumption | rfl | omega | ((try simp only [lg_cmp_lt, lg_cmp_le, lg_cmp_gt, lg_cmp_ge, lg_cmp_eq] at *) <;> (try simp only [i_lt, i_le, i_eq, i_cl, LN32, LN64, LT32, LT64, t_add, t_sub, t_mul, t_neg, j_lt, j_le, j_eq, j_i2l, j_neg] at *) <;> omega)) ?_
        exact ok_some trivial
      · skip
        refine ok_chk (by first | trivial | assumption | rfl | omega | ((try simp only [lg_cmp_lt, lg_cmp_le, lg_cmp_gt, lg_cmp_ge, lg_cmp_eq] at *) <;> (try simp only [i_lt, i_le, i_eq, i_cl, LN32, LN64, LT32, LT64, t_add, t_sub, t_mul, t_neg, j_lt, j_le, j_eq, j_i2l, j_neg] at *) <;> omega)) ?_
        exact ok_some trivial
    · skip
      exact ok_some trivial
  · skip
    exact ok_some trivial
set_option maxRecDepth 100000 in
set_option maxHeartbeats 4000000 in
theorem s_X4_wholeRoot (x1 : Int32) : okP (f_X4_wholeRoot x1) (fun u => True) := by
  have l2 : ∀ (n : Nat) (v0 : Int32) (v1 : Int32), (100 - v1.toInt).toNat < n → (0 ≤ v1.toInt) → (v1.toInt ≤ 100) → okP (f_X4_wholeRoot_L2 n v0 v1) (fun u => True) := by
    intro n
    induction n with
    | zero =>
      intro v0 v1 hm
      exact absurd hm (Nat.not_lt_zero _)
    | succ n2 ih2 =>
      intro v0 v1 hm2 g2_0 g2_1
      show okP (f_X4_wholeRoot_L2b (f_X4_wholeRoot_L2 n2) v0 v1) (fun u => True)
      unfold f_X4_wholeRoot_L2b
      refine ok_ite (fun c_1 => ?_) (fun c_1 => ?_)
      · skip
        exact ok_some trivial
      · skip
        refine ok_ite (fun c_2 => ?_) (fun c_2 => ?_)
        · skip
          exact ok_some trivial
        · skip
          refine ok_nmx (fun x_3 hx_3 => ?_)
          exact ih2 v0 x_3 (by first | trivial | assumption | rfl | omega | ((try simp only [lg_cmp_lt, lg_cmp_le, lg_cmp_gt, lg_cmp_ge, lg_cmp_eq] at *) <;> (try simp only [i_lt, i_le, i_eq, i_cl, LN32, LN64, LT32, LT64, t_add, t_sub, t_mul, t_neg, j_lt, j_le, j_eq, j_i2l, j_neg] at *) <;> omega)) (by first | trivial | assumption | rfl | omega | ((try simp only [lg_cmp_lt, lg_cmp_le, lg_cmp_gt, lg_cmp_ge, lg_cmp_eq] at *) <;> (try simp only [i_lt, i_le, i_eq, i_cl, LN32, LN64, LT32, LT64, t_add, t_sub, t_mul, t_neg, j_lt, j_le, j_eq, j_i2l, j_neg] at *) <;> omega)) (by first | trivial | assumption | rfl | omega | ((try simp only [lg_cmp_lt, lg_cmp_le, lg_cmp_gt, lg_cmp_ge, lg_cmp_eq] at *) <;> (try simp only [i_lt, i_le, i_eq, i_cl, LN32, LN64, LT32, LT64, t_add, t_sub, t_mul, t_neg, j_lt, j_le, j_eq, j_i2l, j_neg] at *) <;> omega))
  unfold f_X4_wholeRoot
  exact l2 FU x1 0 (FU_gt (by omega)) (by first | trivial | assumption | rfl | omega | ((try simp only [lg_cmp_lt, lg_cmp_le, lg_cmp_gt, lg_cmp_ge, lg_cmp_eq] at *) <;> (try simp only [i_lt, i_le, i_eq, i_cl, LN32, LN64, LT32, LT64, t_add, t_sub, t_mul, t_neg, j_lt, j_le, j_eq, j_i2l, j_neg] at *) <;> omega)) (by first | trivial | assumption | rfl | omega | ((try simp only [lg_cmp_lt, lg_cmp_le, lg_cmp_gt, lg_cmp_ge, lg_cmp_eq] at *) <;> (try simp only [i_lt, i_le, i_eq, i_cl, LN32, LN64, LT32, LT64, t_add, t_sub, t_mul, t_neg, j_lt, j_le, j_eq, j_i2l, j_neg] at *) <;> omega))
set_option maxRecDepth 100000 in
set_option maxHeartbeats 4000000 in
theorem s_X4_look (o_settings : Nat → Int32) (o_fars : Nat → Int32) : okP (f_X4_look o_settings o_fars) (fun u => True) := by
  have l9 : ∀ (n : Nat) (v1 : Int32) (v2 : Int32) (o_fars : Nat → Int32), (100 - v2.toInt).toNat < n → (0 ≤ v2.toInt) → (v2.toInt ≤ 100) → okP (f_X4_look_L9 n v1 v2 o_settings o_fars) (fun u => True) := by
    intro n
    induction n with
    | zero =>
      intro v1 v2 o_fars hm
      exact absurd hm (Nat.not_lt_zero _)
    | succ n9 ih9 =>
      intro v1 v2 o_fars hm9 g9_0 g9_1
      show okP (f_X4_look_L9b (f_X4_look_L9 n9) v1 v2 o_settings o_fars) (fun u => True)
      unfold f_X4_look_L9b
      refine ok_ite (fun c_1 => ?_) (fun c_1 => ?_)
      · skip
        exact ok_some trivial
      · skip
        try have hd_2 := i_div (a := v2) (b := 10) (by first | trivial | assumption | rfl | omega | ((try simp only [lg_cmp_lt, lg_cmp_le, lg_cmp_gt, lg_cmp_ge, lg_cmp_eq] at *) <;> (try simp only [i_lt, i_le, i_eq, i_cl, LN32, LN64, LT32, LT64, t_add, t_sub, t_mul, t_neg, j_lt, j_le, j_eq, j_i2l, j_neg] at *) <;> omega)) (by decide)
        try have hd_3 := i_div (a := v1) (b := 10) (by first | trivial | assumption | rfl | omega | ((try simp only [lg_cmp_lt, lg_cmp_le, lg_cmp_gt, lg_cmp_ge, lg_cmp_eq] at *) <;> (try simp only [i_lt, i_le, i_eq, i_cl, LN32, LN64, LT32, LT64, t_add, t_sub, t_mul, t_neg, j_lt, j_le, j_eq, j_i2l, j_neg] at *) <;> omega)) (by decide)
        refine ok_nmx (fun x_4 hx_4 => ?_)
        try have hd_5 := i_div (a := v2) (b := 10) (by first | trivial | assumption | rfl | omega | ((try simp only [lg_cmp_lt, lg_cmp_le, lg_cmp_gt, lg_cmp_ge, lg_cmp_eq] at *) <;> (try simp only [i_lt, i_le, i_eq, i_cl, LN32, LN64, LT32, LT64, t_add, t_sub, t_mul, t_neg, j_lt, j_le, j_eq, j_i2l, j_neg] at *) <;> omega)) (by decide)
        try have hd_6 := i_div (a := v1) (b := 10) (by first | trivial | assumption | rfl | omega | ((try simp only [lg_cmp_lt, lg_cmp_le, lg_cmp_gt, lg_cmp_ge, lg_cmp_eq] at *) <;> (try simp only [i_lt, i_le, i_eq, i_cl, LN32, LN64, LT32, LT64, t_add, t_sub, t_mul, t_neg, j_lt, j_le, j_eq, j_i2l, j_neg] at *) <;> omega)) (by decide)
        refine ok_nmx (fun x_7 hx_7 => ?_)
        refine ok_bd1 (s_X4_wholeRoot (4 * ((x_4 * x_4) + (x_7 * x_7)))) (fun r_8 q_9 => ?_)
        refine ok_chk (by first | trivial | assumption | rfl | omega | ((try simp only [lg_cmp_lt, lg_cmp_le, lg_cmp_gt, lg_cmp_ge, lg_cmp_eq] at *) <;> (try simp only [i_lt, i_le, i_eq, i_cl, LN32, LN64, LT32, LT64, t_add, t_sub, t_mul, t_neg, j_lt, j_le, j_eq, j_i2l, j_neg] at *) <;> omega)) ?_
        refine ok_nmx (fun x_10 hx_10 => ?_)
        exact ih9 v1 x_10 (upd o_fars v2.toNatClampNeg r_8) (by first | trivial | assumption | rfl | omega | ((try simp only [lg_cmp_lt, lg_cmp_le, lg_cmp_gt, lg_cmp_ge, lg_cmp_eq] at *) <;> (try simp only [i_lt, i_le, i_eq, i_cl, LN32, LN64, LT32, LT64, t_add, t_sub, t_mul, t_neg, j_lt, j_le, j_eq, j_i2l, j_neg] at *) <;> omega)) (by first | trivial | assumption | rfl | omega | ((try simp only [lg_cmp_lt, lg_cmp_le, lg_cmp_gt, lg_cmp_ge, lg_cmp_eq] at *) <;> (try simp only [i_lt, i_le, i_eq, i_cl, LN32, LN64, LT32, LT64, t_add, t_sub, t_mul, t_neg, j_lt, j_le, j_eq, j_i2l, j_neg] at *) <;> omega)) (by first | trivial | assumption | rfl | omega | ((try simp only [lg_cmp_lt, lg_cmp_le, lg_cmp_gt, lg_cmp_ge, lg_cmp_eq] at *) <;> (try simp only [i_lt, i_le, i_eq, i_cl, LN32, LN64, LT32, LT64, t_add, t_sub, t_mul, t_neg, j_lt, j_le, j_eq, j_i2l, j_neg] at *) <;> omega))
  unfold f_X4_look
  refine ok_nmx (fun x_11 hx_11 => ?_)
  exact l9 FU x_11 0 o_fars (FU_gt (by omega)) (by first | trivial | assumption | rfl | omega | ((try simp only [lg_cmp_lt, lg_cmp_le, lg_cmp_gt, lg_cmp_ge, lg_cmp_eq] at *) <;> (try simp only [i_lt, i_le, i_eq, i_cl, LN32, LN64, LT32, LT64, t_add, t_sub, t_mul, t_neg, j_lt, j_le, j_eq, j_i2l, j_neg] at *) <;> omega)) (by first | trivial | assumption | rfl | omega | ((try simp only [lg_cmp_lt, lg_cmp_le, lg_cmp_gt, lg_cmp_ge, lg_cmp_eq] at *) <;> (try simp only [i_lt, i_le, i_eq, i_cl, LN32, LN64, LT32, LT64, t_add, t_sub, t_mul, t_neg, j_lt, j_le, j_eq, j_i2l, j_neg] at *) <;> omega))
set_option maxRecDepth 100000 in
set_option maxHeartbeats 4000000 in
theorem s_X4_take (o_pieceCount : Int32) (o_dragCount : Int32) (o_settings : Nat → Int32) (o_howFar : Nat → Int32) (o_tones : Nat → Int32) (o_currents : Nat → Int32) (o_warmths : Nat → Int32) (o_depths : Nat → Int32) (o_fars : Nat → Int32) (o_pieceCells : Nat → Int32) (o_pieceMonths : Nat → Int32) (o_pieceHighs : Nat → Int32) (o_pieceAges : Nat → Int32) (o_pieceNeeds : Nat → Int32) (o_dragCells : Nat → Int32) (o_dragEighths : Nat → Int32) (p1_pieceCount : Int32) (p1_dragCount : Int32) (p1_settings : Nat → Int32) (p1_howFar : Nat → Int32) (p1_tones : Nat → Int32) (p1_currents : Nat → Int32) (p1_warmths : Nat → Int32) (p1_depths : Nat → Int32) (p1_fars : Nat → Int32) (p1_pieceCells : Nat → Int32) (p1_pieceMonths : Nat → Int32) (p1_pieceHighs : Nat → Int32) (p1_pieceAges : Nat → Int32) (p1_pieceNeeds : Nat → Int32) (p1_dragCells : Nat → Int32) (p1_dragEighths : Nat → Int32) : okP (f_X4_take o_pieceCount o_dragCount o_settings o_howFar o_tones o_currents o_warmths o_depths o_fars o_pieceCells o_pieceMonths o_pieceHighs o_pieceAges o_pieceNeeds o_dragCells o_dragEighths p1_pieceCount p1_dragCount p1_settings p1_howFar p1_tones p1_currents p1_warmths p1_depths p1_fars p1_pieceCells p1_pieceMonths p1_pieceHighs p1_pieceAges p1_pieceNeeds p1_dragCells p1_dragEighths) (fun u => (u.2.2.1 = va_cpy p1_settings o_settings 0 0 8) ∧ (u.1 = p1_pieceCount) ∧ (u.2.1 = p1_dragCount)) := by
  unfold f_X4_take
  exact ok_some ⟨by (try dsimp only) <;> first | trivial | assumption | rfl | omega | ((try simp only [lg_cmp_lt, lg_cmp_le, lg_cmp_gt, lg_cmp_ge, lg_cmp_eq] at *) <;> (try simp only [i_lt, i_le, i_eq, i_cl, LN32, LN64, LT32, LT64, t_add, t_sub, t_mul, t_neg, j_lt, j_le, j_eq, j_i2l, j_neg] at *) <;> omega), by (try dsimp only) <;> first | trivial | assumption | rfl | omega | ((try simp only [lg_cmp_lt, lg_cmp_le, lg_cmp_gt, lg_cmp_ge, lg_cmp_eq] at *) <;> (try simp only [i_lt, i_le, i_eq, i_cl, LN32, LN64, LT32, LT64, t_add, t_sub, t_mul, t_neg, j_lt, j_le, j_eq, j_i2l, j_neg] at *) <;> omega), by (try dsimp only) <;> first | trivial | assumption | rfl | omega | ((try simp only [lg_cmp_lt, lg_cmp_le, lg_cmp_gt, lg_cmp_ge, lg_cmp_eq] at *) <;> (try simp only [i_lt, i_le, i_eq, i_cl, LN32, LN64, LT32, LT64, t_add, t_sub, t_mul, t_neg, j_lt, j_le, j_eq, j_i2l, j_neg] at *) <;> omega)⟩
set_option maxRecDepth 100000 in
set_option maxHeartbeats 4000000 in
theorem s_X4_isDragged (x1 : Int32) (o_dragCount : Int32) (o_dragCells : Nat → Int32) : okP (f_X4_isDragged x1 o_dragCount o_dragCells) (fun u => (u.toInt = 0 ∨ u.toInt = 1)) := by
  have l2 : ∀ (n : Nat) (v1 : Int32) (v2 : Int32), (4 - v2.toInt).toNat < n → (0 ≤ v2.toInt) → (v2.toInt ≤ 4) → okP (f_X4_isDragged_L2 n v1 v2 o_dragCount o_dragCells) (fun u => (u.toInt = 0 ∨ u.toInt = 1)) := by
    intro n
    induction n with
    | zero =>
      intro v1 v2 hm
      exact absurd hm (Nat.not_lt_zero _)
    | succ n2 ih2 =>
      intro v1 v2 hm2 g2_0 g2_1
      show okP (f_X4_isDragged_L2b (f_X4_isDragged_L2 n2) v1 v2 o_dragCount o_dragCells) (fun u => (u.toInt = 0 ∨ u.toInt = 1))
      unfold f_X4_isDragged_L2b
      refine ok_ite (fun c_1 => ?_) (fun c_1 => ?_)
      · skip
        exact ok_some (by (try dsimp only) <;> first | trivial | assumption | rfl | omega | ((try simp only [lg_cmp_lt, lg_cmp_le, lg_cmp_gt, lg_cmp_ge, lg_cmp_eq] at *) <;> (try simp only [i_lt, i_le, i_eq, i_cl, LN32, LN64, LT32, LT64, t_add, t_sub, t_mul, t_neg, j_lt, j_le, j_eq, j_i2l, j_neg] at *) <;> omega))
      · skip
        refine ok_ite (fun c_2 => ?_) (fun c_2 => ?_)
        · skip
          exact ok_some (by (try dsimp only) <;> first | trivial | assumption | rfl | omega | ((try simp only [lg_cmp_lt, lg_cmp_le, lg_cmp_gt, lg_cmp_ge, lg_cmp_eq] at *) <;> (try simp only [i_lt, i_le, i_eq, i_cl, LN32, LN64, LT32, LT64, t_add, t_sub, t_mul, t_neg, j_lt, j_le, j_eq, j_i2l, j_neg] at *) <;> omega))
        · skip
          refine ok_chk (by first | trivial | assumption | rfl | omega | ((try simp only [lg_cmp_lt, lg_cmp_le, lg_cmp_gt, lg_cmp_ge, lg_cmp_eq] at *) <;> (try simp only [i_lt, i_le, i_eq, i_cl, LN32, LN64, LT32, LT64, t_add, t_sub, t_mul, t_neg, j_lt, j_le, j_eq, j_i2l, j_neg] at *) <;> omega)) ?_
          refine ok_ite (fun c_3 => ?_) (fun c_3 => ?_)
          · skip
            exact ok_some (by (try dsimp only) <;> first | trivial | assumption | rfl | omega | ((try simp only [lg_cmp_lt, lg_cmp_le, lg_cmp_gt, lg_cmp_ge, lg_cmp_eq] at *) <;> (try simp only [i_lt, i_le, i_eq, i_cl, LN32, LN64, LT32, LT64, t_add, t_sub, t_mul, t_neg, j_lt, j_le, j_eq, j_i2l, j_neg] at *) <;> omega))
          · skip
            refine ok_nmx (fun x_4 hx_4 => ?_)
            exact ih2 v1 x_4 (by first | trivial | assumption | rfl | omega | ((try simp only [lg_cmp_lt, lg_cmp_le, lg_cmp_gt, lg_cmp_ge, lg_cmp_eq] at *) <;> (try simp only [i_lt, i_le, i_eq, i_cl, LN32, LN64, LT32, LT64, t_add, t_sub, t_mul, t_neg, j_lt, j_le, j_eq, j_i2l, j_neg] at *) <;> omega)) (by first | trivial | assumption | rfl | omega | ((try simp only [lg_cmp_lt, lg_cmp_le, lg_cmp_gt, lg_cmp_ge, lg_cmp_eq] at *) <;> (try simp only [i_lt, i_le, i_eq, i_cl, LN32, LN64, LT32, LT64, t_add, t_sub, t_mul, t_neg, j_lt, j_le, j_eq, j_i2l, j_neg] at *) <;> omega)) (by first | trivial | assumption | rfl | omega | ((try simp only [lg_cmp_lt, lg_cmp_le, lg_cmp_gt, lg_cmp_ge, lg_cmp_eq] at *) <;> (try simp only [i_lt, i_le, i_eq, i_cl, LN32, LN64, LT32, LT64, t_add, t_sub, t_mul, t_neg, j_lt, j_le, j_eq, j_i2l, j_neg] at *) <;> omega))
  unfold f_X4_isDragged
  exact l2 FU x1 0 (FU_gt (by omega)) (by first | trivial | assumption | rfl | omega | ((try simp only [lg_cmp_lt, lg_cmp_le, lg_cmp_gt, lg_cmp_ge, lg_cmp_eq] at *) <;> (try simp only [i_lt, i_le, i_eq, i_cl, LN32, LN64, LT32, LT64, t_add, t_sub, t_mul, t_neg, j_lt, j_le, j_eq, j_i2l, j_neg] at *) <;> omega)) (by first | trivial | assumption | rfl | omega | ((try simp only [lg_cmp_lt, lg_cmp_le, lg_cmp_gt, lg_cmp_ge, lg_cmp_eq] at *) <;> (try simp only [i_lt, i_le, i_eq, i_cl, LN32, LN64, LT32, LT64, t_add, t_sub, t_mul, t_neg, j_lt, j_le, j_eq, j_i2l, j_neg] at *) <;> omega))
set_option maxRecDepth 100000 in
set_option maxHeartbeats 4000000 in
theorem s_X4_missed (x1 : Int32) (o_dragCount : Int32) (o_dragCells : Nat → Int32) (o_dragEighths : Nat → Int32) : okP (f_X4_missed x1 o_dragCount o_dragCells o_dragEighths) (fun u => True) := by
  have l5 : ∀ (n : Nat) (v1 : Int32) (v2 : Int64) (v4 : Int32), (4 - v4.toInt).toNat < n → (0 ≤ v4.toInt) → (v4.toInt ≤ 4) → okP (f_X4_missed_L5 n v1 v2 v4 o_dragCount o_dragCells o_dragEighths) (fun u => True) := by
    intro n
    induction n with
    | zero =>
      intro v1 v2 v4 hm
      exact absurd hm (Nat.not_lt_zero _)
    | succ n5 ih5 =>
      intro v1 v2 v4 hm5 g5_0 g5_1
      show okP (f_X4_missed_L5b (f_X4_missed_L5 n5) v1 v2 v4 o_dragCount o_dragCells o_dragEighths) (fun u => True)
      unfold f_X4_missed_L5b
      refine ok_ite (fun c_1 => ?_) (fun c_1 => ?_)
      · skip
        exact ok_some trivial
      · skip
        refine ok_ite (fun c_2 => ?_) (fun c_2 => ?_)
        · skip
          exact ok_some trivial
        · skip
          refine ok_chk (by first | trivial | assumption | rfl | omega | ((try simp only [lg_cmp_lt, lg_cmp_le, lg_cmp_gt, lg_cmp_ge, lg_cmp_eq] at *) <;> (try simp only [i_lt, i_le, i_eq, i_cl, LN32, LN64, LT32, LT64, t_add, t_sub, t_mul, t_neg, j_lt, j_le, j_eq, j_i2l, j_neg] at *) <;> omega)) ?_
          refine ok_ite (fun c_3 => ?_) (fun c_3 => ?_)
          · skip
            refine ok_chk (by first | trivial | assumption | rfl | omega | ((try simp only [lg_cmp_lt, lg_cmp_le, lg_cmp_gt, lg_cmp_ge, lg_cmp_eq] at *) <;> (try simp only [i_lt, i_le, i_eq, i_cl, LN32, LN64, LT32, LT64, t_add, t_sub, t_mul, t_neg, j_lt, j_le, j_eq, j_i2l, j_neg] at *) <;> omega)) ?_
            unfold f_X4_missed_B49
            refine ok_nmx (fun x_4 hx_4 => ?_)
            refine ok_nmx (fun x_5 hx_5 => ?_)
            exact ih5 v1 x_4 x_5 (by first | trivial | assumption | rfl | omega | ((try simp only [lg_cmp_lt, lg_cmp_le, lg_cmp_gt, lg_cmp_ge, lg_cmp_eq] at *) <;> (try simp only [i_lt, i_le, i_eq, i_cl, LN32, LN64, LT32, LT64, t_add, t_sub, t_mul, t_neg, j_lt, j_le, j_eq, j_i2l, j_neg] at *) <;> omega)) (by first | trivial | assumption | rfl | omega | ((try simp only [lg_cmp_lt, lg_cmp_le, lg_cmp_gt, lg_cmp_ge, lg_cmp_eq] at *) <;> (try simp only [i_lt, i_le, i_eq, i_cl, LN32, LN64, LT32, LT64, t_add, t_sub, t_mul, t_neg, j_lt, j_le, j_eq, j_i2l, j_neg] at *) <;> omega)) (by first | trivial | assumption | rfl | omega | ((try simp only [lg_cmp_lt, lg_cmp_le, lg_cmp_gt, lg_cmp_ge, lg_cmp_eq] at *) <;> (try simp only [i_lt, i_le, i_eq, i_cl, LN32, LN64, LT32, LT64, t_add, t_sub, t_mul, t_neg, j_lt, j_le, j_eq, j_i2l, j_neg] at *) <;> omega))
          · skip
            unfold f_X4_missed_B49
            refine ok_nmx (fun x_6 hx_6 => ?_)
            refine ok_nmx (fun x_7 hx_7 => ?_)
            exact ih5 v1 x_6 x_7 (by first | trivial | assumption | rfl | omega | ((try simp only [lg_cmp_lt, lg_cmp_le, lg_cmp_gt, lg_cmp_ge, lg_cmp_eq] at *) <;> (try simp only [i_lt, i_le, i_eq, i_cl, LN32, LN64, LT32, LT64, t_add, t_sub, t_mul, t_neg, j_lt, j_le, j_eq, j_i2l, j_neg] at *) <;> omega)) (by first | trivial | assumption | rfl | omega | ((try simp only [lg_cmp_lt, lg_cmp_le, lg_cmp_gt, lg_cmp_ge, lg_cmp_eq] at *) <;> (try simp only [i_lt, i_le, i_eq, i_cl, LN32, LN64, LT32, LT64, t_add, t_sub, t_mul, t_neg, j_lt, j_le, j_eq, j_i2l, j_neg] at *) <;> omega)) (by first | trivial | assumption | rfl | omega | ((try simp only [lg_cmp_lt, lg_cmp_le, lg_cmp_gt, lg_cmp_ge, lg_cmp_eq] at *) <;> (try simp only [i_lt, i_le, i_eq, i_cl, LN32, LN64, LT32, LT64, t_add, t_sub, t_mul, t_neg, j_lt, j_le, j_eq, j_i2l, j_neg] at *) <;> omega))
  unfold f_X4_missed
  exact l5 FU x1 1 0 (FU_gt (by omega)) (by first | trivial | assumption | rfl | omega | ((try simp only [lg_cmp_lt, lg_cmp_le, lg_cmp_gt, lg_cmp_ge, lg_cmp_eq] at *) <;> (try simp only [i_lt, i_le, i_eq, i_cl, LN32, LN64, LT32, LT64, t_add, t_sub, t_mul, t_neg, j_lt, j_le, j_eq, j_i2l, j_neg] at *) <;> omega)) (by first | trivial | assumption | rfl | omega | ((try simp only [lg_cmp_lt, lg_cmp_le, lg_cmp_gt, lg_cmp_ge, lg_cmp_eq] at *) <;> (try simp only [i_lt, i_le, i_eq, i_cl, LN32, LN64, LT32, LT64, t_add, t_sub, t_mul, t_neg, j_lt, j_le, j_eq, j_i2l, j_neg] at *) <;> omega))
set_option maxRecDepth 100000 in
set_option maxHeartbeats 4000000 in
theorem s_X2_hold (x1 : Int32) (x2 : Int32) (o_lane : Int32) (o_size : Int32) (o_items : Nat → Int32) : okP (f_X2_hold x1 x2 o_lane o_size o_items) (fun u => (u.1 = x1) ∧ (u.2.1 = x2)) := by
  have l12 : ∀ (n : Nat) (v3 : Int32) (o_lane : Int32) (o_size : Int32) (o_items : Nat → Int32), (16 - v3.toInt).toNat < n → (0 ≤ v3.toInt) → (v3.toInt ≤ 16) → (o_lane = x1) → (o_size = x2) → okP (f_X2_hold_L12 n v3 o_lane o_size o_items) (fun u => (u.1 = x1) ∧ (u.2.1 = x2)) := by
    intro n
    induction n with
    | zero =>
      intro v3 o_lane o_size o_items hm
      exact absurd hm (Nat.not_lt_zero _)
    | succ n12 ih12 =>
      intro v3 o_lane o_size o_items hm12 g12_0 g12_1 g12_2 g12_3
      show okP (f_X2_hold_L12b (f_X2_hold_L12 n12) v3 o_lane o_size o_items) (fun u => (u.1 = x1) ∧ (u.2.1 = x2))
      unfold f_X2_hold_L12b
      refine ok_ite (fun c_1 => ?_) (fun c_1 => ?_)
      · skip
        exact ok_some ⟨by (try dsimp only) <;> first | trivial | assumption | rfl | omega | ((try simp only [lg_cmp_lt, lg_cmp_le, lg_cmp_gt, lg_cmp_ge, lg_cmp_eq] at *) <;> (try simp only [i_lt, i_le, i_eq, i_cl, LN32, LN64, LT32, LT64, t_add, t_sub, t_mul, t_neg, j_lt, j_le, j_eq, j_i2l, j_neg] at *) <;> omega), by (try dsimp only) <;> first | trivial | assumption | rfl | omega | ((try simp only [lg_cmp_lt, lg_cmp_le, lg_cmp_gt, lg_cmp_ge, lg_cmp_eq] at *) <;> (try simp only [i_lt, i_le, i_eq, i_cl, LN32, LN64, LT32, LT64, t_add, t_sub, t_mul, t_neg, j_lt, j_le, j_eq, j_i2l, j_neg] at *) <;> omega)⟩
      · skip
        refine ok_chk (by first | trivial | assumption | rfl | omega | ((try simp only [lg_cmp_lt, lg_cmp_le, lg_cmp_gt, lg_cmp_ge, lg_cmp_eq] at *) <;> (try simp only [i_lt, i_le, i_eq, i_cl, LN32, LN64, LT32, LT64, t_add, t_sub, t_mul, t_neg, j_lt, j_le, j_eq, j_i2l, j_neg] at *) <;> omega)) ?_
        refine ok_nmx (fun x_2 hx_2 => ?_)
        exact ih12 x_2 o_lane o_size (upd o_items v3.toNatClampNeg 0) (by first | trivial | assumption | rfl | omega | ((try simp only [lg_cmp_lt, lg_cmp_le, lg_cmp_gt, lg_cmp_ge, lg_cmp_eq] at *) <;> (try simp only [i_lt, i_le, i_eq, i_cl, LN32, LN64, LT32, LT64, t_add, t_sub, t_mul, t_neg, j_lt, j_le, j_eq, j_i2l, j_neg] at *) <;> omega)) (by first | trivial | assumption | rfl | omega | ((try simp only [lg_cmp_lt, lg_cmp_le, lg_cmp_gt, lg_cmp_ge, lg_cmp_eq] at *) <;> (try simp only [i_lt, i_le, i_eq, i_cl, LN32, LN64, LT32, LT64, t_add, t_sub, t_mul, t_neg, j_lt, j_le, j_eq, j_i2l, j_neg] at *) <;> omega)) (by first | trivial | assumption | rfl | omega | ((try simp only [lg_cmp_lt, lg_cmp_le, lg_cmp_gt, lg_cmp_ge, lg_cmp_eq] at *) <;> (try simp only [i_lt, i_le, i_eq, i_cl, LN32, LN64, LT32, LT64, t_add, t_sub, t_mul, t_neg, j_lt, j_le, j_eq, j_i2l, j_neg] at *) <;> omega)) (by first | trivial | assumption | rfl | omega | ((try simp only [lg_cmp_lt, lg_cmp_le, lg_cmp_gt, lg_cmp_ge, lg_cmp_eq] at *) <;> (try simp only [i_lt, i_le, i_eq, i_cl, LN32, LN64, LT32, LT64, t_add, t_sub, t_mul, t_neg, j_lt, j_le, j_eq, j_i2l, j_neg] at *) <;> omega)) (by first | trivial | assumption | rfl | omega | ((try simp only [lg_cmp_lt, lg_cmp_le, lg_cmp_gt, lg_cmp_ge, lg_cmp_eq] at *) <;> (try simp only [i_lt, i_le, i_eq, i_cl, LN32, LN64, LT32, LT64, t_add, t_sub, t_mul, t_neg, j_lt, j_le, j_eq, j_i2l, j_neg] at *) <;> omega))
  unfold f_X2_hold
  exact l12 FU 0 x1 x2 o_items (FU_gt (by omega)) (by first | trivial | assumption | rfl | omega | ((try simp only [lg_cmp_lt, lg_cmp_le, lg_cmp_gt, lg_cmp_ge, lg_cmp_eq] at *) <;> (try simp only [i_lt, i_le, i_eq, i_cl, LN32, LN64, LT32, LT64, t_add, t_sub, t_mul, t_neg, j_lt, j_le, j_eq, j_i2l, j_neg] at *) <;> omega)) (by first | trivial | assumption | rfl | omega | ((try simp only [lg_cmp_lt, lg_cmp_le, lg_cmp_gt, lg_cmp_ge, lg_cmp_eq] at *) <;> (try simp only [i_lt, i_le, i_eq, i_cl, LN32, LN64, LT32, LT64, t_add, t_sub, t_mul, t_neg, j_lt, j_le, j_eq, j_i2l, j_neg] at *) <;> omega)) (by first | trivial | assumption | rfl | omega | ((try simp only [lg_cmp_lt, lg_cmp_le, lg_cmp_gt, lg_cmp_ge, lg_cmp_eq] at *) <;> (try simp only [i_lt, i_le, i_eq, i_cl, LN32, LN64, LT32, LT64, t_add, t_sub, t_mul, t_neg, j_lt, j_le, j_eq, j_i2l, j_neg] at *) <;> omega)) (by first | trivial | assumption | rfl | omega | ((try simp only [lg_cmp_lt, lg_cmp_le, lg_cmp_gt, lg_cmp_ge, lg_cmp_eq] at *) <;> (try simp only [i_lt, i_le, i_eq, i_cl, LN32, LN64, LT32, LT64, t_add, t_sub, t_mul, t_neg, j_lt, j_le, j_eq, j_i2l, j_neg] at *) <;> omega))
set_option maxRecDepth 100000 in
set_option maxHeartbeats 4000000 in
theorem s_X2_holdNothing (o_lane : Int32) (o_size : Int32) : okP (f_X2_holdNothing o_lane o_size) (fun u => (u.1.toInt = -1) ∧ (u.2.toInt = 0)) := by
  unfold f_X2_holdNothing
  exact ok_some ⟨by (try dsimp only) <;> first | trivial | assumption | rfl | omega | ((try simp only [lg_cmp_lt, lg_cmp_le, lg_cmp_gt, lg_cmp_ge, lg_cmp_eq] at *) <;> (try simp only [i_lt, i_le, i_eq, i_cl, LN32, LN64, LT32, LT64, t_add, t_sub, t_mul, t_neg, j_lt, j_le, j_eq, j_i2l, j_neg] at *) <;> omega), by (try dsimp only) <;> first | trivial | assumption | rfl | omega | ((try simp only [lg_cmp_lt, lg_cmp_le, lg_cmp_gt, lg_cmp_ge, lg_cmp_eq] at *) <;> (try simp only [i_lt, i_le, i_eq, i_cl, LN32, LN64, LT32, LT64, t_add, t_sub, t_mul, t_neg, j_lt, j_le, j_eq, j_i2l, j_neg] at *) <;> omega)⟩
set_option maxRecDepth 100000 in
set_option maxHeartbeats 4000000 in
theorem s_X2_isNothing (o_lane : Int32) : okP (f_X2_isNothing o_lane) (fun u => ((u.toInt = 1 ∧ o_lane.toInt = -1) ∨ (u.toInt = 0 ∧ o_lane.toInt ≠ -1))) := by
  unfold f_X2_isNothing
  refine ok_ite (fun c_1 => ?_) (fun c_1 => ?_)
  · skip
    exact ok_some (by (try dsimp only) <;> first | trivial | assumption | rfl | omega | ((try simp only [lg_cmp_lt, lg_cmp_le, lg_cmp_gt, lg_cmp_ge, lg_cmp_eq] at *) <;> (try simp only [i_lt, i_le, i_eq, i_cl, LN32, LN64, LT32, LT64, t_add, t_sub, t_mul, t_neg, j_lt, j_le, j_eq, j_i2l, j_neg] at *) <;> omega))
  · skip
    exact ok_some (by (try dsimp only) <;> first | trivial | assumption | rfl | omega | ((try simp only [lg_cmp_lt, lg_cmp_le, lg_cmp_gt, lg_cmp_ge, lg_cmp_eq] at *) <;> (try simp only [i_lt, i_le, i_eq, i_cl, LN32, LN64, LT32, LT64, t_add, t_sub, t_mul, t_neg, j_lt, j_le, j_eq, j_i2l, j_neg] at *) <;> omega))
set_option maxRecDepth 100000 in
set_option maxHeartbeats 4000000 in
theorem s_X2_has (x1 : Int32) (x2 : Int32) (o_size : Int32) (h0 : 0 ≤ (o_size).toInt) (h1 : (o_size).toInt ≤ 16) : okP (f_X2_has x1 x2 o_size) (fun u => ((u.toInt = 1 ∧ 0 ≤ x1.toInt ∧ 0 ≤ x2.toInt ∧ x1.toInt + x2.toInt ≤ o_size.toInt) ∨ (u.toInt = 0 ∧ (x1.toInt < 0 ∨ x2.toInt < 0 ∨ o_size.toInt < x1.toInt + x2.toInt)))) := by
  unfold f_X2_has
  refine ok_ite (fun c_1 => ?_) (fun c_1 => ?_)
  · skip
    exact ok_some (by (try dsimp only) <;> first | trivial | assumption | rfl | omega | ((try simp only [lg_cmp_lt, lg_cmp_le, lg_cmp_gt, lg_cmp_ge, lg_cmp_eq] at *) <;> (try simp only [i_lt, i_le, i_eq, i_cl, LN32, LN64, LT32, LT64, t_add, t_sub, t_mul, t_neg, j_lt, j_le, j_eq, j_i2l, j_neg] at *) <;> omega))
  · skip
    refine ok_ite (fun c_2 => ?_) (fun c_2 => ?_)
    · skip
      exact ok_some (by (try dsimp only) <;> first | trivial | assumption | rfl | omega | ((try simp only [lg_cmp_lt, lg_cmp_le, lg_cmp_gt, lg_cmp_ge, lg_cmp_eq] at *) <;> (try simp only [i_lt, i_le, i_eq, i_cl, LN32, LN64, LT32, LT64, t_add, t_sub, t_mul, t_neg, j_lt, j_le, j_eq, j_i2l, j_neg] at *) <;> omega))
    · skip
      refine ok_ite (fun c_3 => ?_) (fun c_3 => ?_)
      · skip
        exact ok_some (by (try dsimp only) <;> first | trivial | assumption | rfl | omega | ((try simp only [lg_cmp_lt, lg_cmp_le, lg_cmp_gt, lg_cmp_ge, lg_cmp_eq] at *) <;> (try simp only [i_lt, i_le, i_eq, i_cl, LN32, LN64, LT32, LT64, t_add, t_sub, t_mul, t_neg, j_lt, j_le, j_eq, j_i2l, j_neg] at *) <;> omega))
      · skip
        refine ok_ite (fun c_4 => ?_) (fun c_4 => ?_)
        · skip
          exact ok_some (by (try dsimp only) <;> first | trivial | assumption | rfl | omega | ((try simp only [lg_cmp_lt, lg_cmp_le, lg_cmp_gt, lg_cmp_ge, lg_cmp_eq] at *) <;> (try simp only [i_lt, i_le, i_eq, i_cl, LN32, LN64, LT32, LT64, t_add, t_sub, t_mul, t_neg, j_lt, j_le, j_eq, j_i2l, j_neg] at *) <;> omega))
        · skip
          exact ok_some (by (try dsimp only) <;> first | trivial | assumption | rfl | omega | ((try simp only [lg_cmp_lt, lg_cmp_le, lg_cmp_gt, lg_cmp_ge, lg_cmp_eq] at *) <;> (try simp only [i_lt, i_le, i_eq, i_cl, LN32, LN64, LT32, LT64, t_add, t_sub, t_mul, t_neg, j_lt, j_le, j_eq, j_i2l, j_neg] at *) <;> omega))
set_option maxRecDepth 100000 in
set_option maxHeartbeats 4000000 in
theorem s_X2_put (x1 : Int32) (x2 : Int32) (o_lane : Int32) (o_size : Int32) (o_items : Nat → Int32) (h0 : 0 ≤ (o_size).toInt) (h1 : (o_size).toInt ≤ 16) : okP (f_X2_put x1 x2 o_lane o_size o_items) (fun u => True) := by
  unfold f_X2_put
  refine ok_bd1 (s_X2_has x1 1 o_size (by first | trivial | assumption | rfl | omega | ((try simp only [lg_cmp_lt, lg_cmp_le, lg_cmp_gt, lg_cmp_ge, lg_cmp_eq] at *) <;> (try simp only [i_lt, i_le, i_eq, i_cl, LN32, LN64, LT32, LT64, t_add, t_sub, t_mul, t_neg, j_lt, j_le, j_eq, j_i2l, j_neg] at *) <;> omega)) (by first | trivial | assumption | rfl | omega | ((try simp only [lg_cmp_lt, lg_cmp_le, lg_cmp_gt, lg_cmp_ge, lg_cmp_eq] at *) <;> (try simp only [i_lt, i_le, i_eq, i_cl, LN32, LN64, LT32, LT64, t_add, t_sub, t_mul, t_neg, j_lt, j_le, j_eq, j_i2l, j_neg] at *) <;> omega))) (fun r_1 q_2 => ?_)
  try dsimp only at q_2
  refine ok_ite (fun c_3 => ?_) (fun c_3 => ?_)
  · skip
    exact ok_some trivial
  · skip
    refine ok_ite (fun c_4 => ?_) (fun c_4 => ?_)
    · skip
      unfold f_X2_put_B40
      refine ok_chk (by first | trivial | assumption | rfl | omega | ((try simp only [lg_cmp_lt, lg_cmp_le, lg_cmp_gt, lg_cmp_ge, lg_cmp_eq] at *) <;> (try simp only [i_lt, i_le, i_eq, i_cl, LN32, LN64, LT32, LT64, t_add, t_sub, t_mul, t_neg, j_lt, j_le, j_eq, j_i2l, j_neg] at *) <;> omega)) ?_
      exact ok_some trivial
    · skip
      refine ok_ite (fun c_5 => ?_) (fun c_5 => ?_)
      · skip
        unfold f_X2_put_B40
        refine ok_chk (by first | trivial | assumption | rfl | omega | ((try simp only [lg_cmp_lt, lg_cmp_le, lg_cmp_gt, lg_cmp_ge, lg_cmp_eq] at *) <;> (try simp only [i_lt, i_le, i_eq, i_cl, LN32, LN64, LT32, LT64, t_add, t_sub, t_mul, t_neg, j_lt, j_le, j_eq, j_i2l, j_neg] at *) <;> omega)) ?_
        exact ok_some trivial
      · skip
        unfold f_X2_put_B40
        refine ok_chk (by first | trivial | assumption | rfl | omega | ((try simp only [lg_cmp_lt, lg_cmp_le, lg_cmp_gt, lg_cmp_ge, lg_cmp_eq] at *) <;> (try simp only [i_lt, i_le, i_eq, i_cl, LN32, LN64, LT32, LT64, t_add, t_sub, t_mul, t_neg, j_lt, j_le, j_eq, j_i2l, j_neg] at *) <;> omega)) ?_
        exact ok_some trivial
set_option maxRecDepth 100000 in
set_option maxHeartbeats 4000000 in
theorem s_X2_at (x1 : Int32) (o_size : Int32) (o_items : Nat → Int32) (h0 : 0 ≤ (o_size).toInt) (h1 : (o_size).toInt ≤ 16) : okP (f_X2_at x1 o_size o_items) (fun u => True) := by
  unfold f_X2_at
  refine ok_bd1 (s_X2_has x1 1 o_size (by first | trivial | assumption | rfl | omega | ((try simp only [lg_cmp_lt, lg_cmp_le, lg_cmp_gt, lg_cmp_ge, lg_cmp_eq] at *) <;> (try simp only [i_lt, i_le, i_eq, i_cl, LN32, LN64, LT32, LT64, t_add, t_sub, t_mul, t_neg, j_lt, j_le, j_eq, j_i2l, j_neg] at *) <;> omega)) (by first | trivial | assumption | rfl | omega | ((try simp only [lg_cmp_lt, lg_cmp_le, lg_cmp_gt, lg_cmp_ge, lg_cmp_eq] at *) <;> (try simp only [i_lt, i_le, i_eq, i_cl, LN32, LN64, LT32, LT64, t_add, t_sub, t_mul, t_neg, j_lt, j_le, j_eq, j_i2l, j_neg] at *) <;> omega))) (fun r_1 q_2 => ?_)
  try dsimp only at q_2
  refine ok_ite (fun c_3 => ?_) (fun c_3 => ?_)
  · skip
    exact ok_some trivial
  · skip
    refine ok_chk (by first | trivial | assumption | rfl | omega | ((try simp only [lg_cmp_lt, lg_cmp_le, lg_cmp_gt, lg_cmp_ge, lg_cmp_eq] at *) <;> (try simp only [i_lt, i_le, i_eq, i_cl, LN32, LN64, LT32, LT64, t_add, t_sub, t_mul, t_neg, j_lt, j_le, j_eq, j_i2l, j_neg] at *) <;> omega)) ?_
    exact ok_some trivial
set_option maxRecDepth 100000 in
set_option maxHeartbeats 4000000 in
theorem s_X3_byteOf (x1 : Int64) (x2 : Int32) : okP (f_X3_byteOf x1 x2) (fun u => True) := by
  unfold f_X3_byteOf
  exact ok_some trivial
set_option maxRecDepth 100000 in
set_option maxHeartbeats 4000000 in
theorem s_X3_add (x1 : Int64) (x2 : Int32) (o_length : Int32) (o_bytes : Nat → Int32) (h0 : 0 ≤ (o_length).toInt) (h1 : (o_length).toInt ≤ 60) : okP (f_X3_add x1 x2 o_length o_bytes) (fun u => (0 ≤ u.2.1.toInt) ∧ (u.2.1.toInt ≤ 60)) := by
  have l71 : ∀ (n : Nat) (v1 : Int64) (v4 : Int32) (o_length : Int32) (o_bytes : Nat → Int32), (v4.toInt + 1).toNat < n → (-1 ≤ v4.toInt) → (v4.toInt ≤ 7) → (0 ≤ o_length.toInt) → (o_length.toInt + v4.toInt + 1 ≤ 60) → okP (f_X3_add_L71 n v1 v4 o_length o_bytes) (fun u => (0 ≤ u.2.1.toInt) ∧ (u.2.1.toInt ≤ 60)) := by
    intro n
    induction n with
    | zero =>
      intro v1 v4 o_length o_bytes hm
      exact absurd hm (Nat.not_lt_zero _)
    | succ n71 ih71 =>
      intro v1 v4 o_length o_bytes hm71 g71_0 g71_1 g71_2 g71_3
      show okP (f_X3_add_L71b (f_X3_add_L71 n71) v1 v4 o_length o_bytes) (fun u => (0 ≤ u.2.1.toInt) ∧ (u.2.1.toInt ≤ 60))
      unfold f_X3_add_L71b
      refine ok_ite (fun c_1 => ?_) (fun c_1 => ?_)
      · skip
        exact ok_some ⟨by (try dsimp only) <;> first | trivial | assumption | rfl | omega | ((try simp only [lg_cmp_lt, lg_cmp_le, lg_cmp_gt, lg_cmp_ge, lg_cmp_eq] at *) <;> (try simp only [i_lt, i_le, i_eq, i_cl, LN32, LN64, LT32, LT64, t_add, t_sub, t_mul, t_neg, j_lt, j_le, j_eq, j_i2l, j_neg] at *) <;> omega), by (try dsimp only) <;> first | trivial | assumption | rfl | omega | ((try simp only [lg_cmp_lt, lg_cmp_le, lg_cmp_gt, lg_cmp_ge, lg_cmp_eq] at *) <;> (try simp only [i_lt, i_le, i_eq, i_cl, LN32, LN64, LT32, LT64, t_add, t_sub, t_mul, t_neg, j_lt, j_le, j_eq, j_i2l, j_neg] at *) <;> omega)⟩
      · skip
        refine ok_bd1 (s_X3_byteOf v1 v4) (fun r_2 q_3 => ?_)
        refine ok_chk (by first | trivial | assumption | rfl | omega | ((try simp only [lg_cmp_lt, lg_cmp_le, lg_cmp_gt, lg_cmp_ge, lg_cmp_eq] at *) <;> (try simp only [i_lt, i_le, i_eq, i_cl, LN32, LN64, LT32, LT64, t_add, t_sub, t_mul, t_neg, j_lt, j_le, j_eq, j_i2l, j_neg] at *) <;> omega)) ?_
        refine ok_nmx (fun x_4 hx_4 => ?_)
        refine ok_nmx (fun x_5 hx_5 => ?_)
        exact ih71 v1 x_5 x_4 (upd o_bytes o_length.toNatClampNeg r_2) (by first | trivial | assumption | rfl | omega | ((try simp only [lg_cmp_lt, lg_cmp_le, lg_cmp_gt, lg_cmp_ge, lg_cmp_eq] at *) <;> (try simp only [i_lt, i_le, i_eq, i_cl, LN32, LN64, LT32, LT64, t_add, t_sub, t_mul, t_neg, j_lt, j_le, j_eq, j_i2l, j_neg] at *) <;> omega)) (by first | trivial | assumption | rfl | omega | ((try simp only [lg_cmp_lt, lg_cmp_le, lg_cmp_gt, lg_cmp_ge, lg_cmp_eq] at *) <;> (try simp only [i_lt, i_le, i_eq, i_cl, LN32, LN64, LT32, LT64, t_add, t_sub, t_mul, t_neg, j_lt, j_le, j_eq, j_i2l, j_neg] at *) <;> omega)) (by first | trivial | assumption | rfl | omega | ((try simp only [lg_cmp_lt, lg_cmp_le, lg_cmp_gt, lg_cmp_ge, lg_cmp_eq] at *) <;> (try simp only [i_lt, i_le, i_eq, i_cl, LN32, LN64, LT32, LT64, t_add, t_sub, t_mul, t_neg, j_lt, j_le, j_eq, j_i2l, j_neg] at *) <;> omega)) (by first | trivial | assumption | rfl | omega | ((try simp only [lg_cmp_lt, lg_cmp_le, lg_cmp_gt, lg_cmp_ge, lg_cmp_eq] at *) <;> (try simp only [i_lt, i_le, i_eq, i_cl, LN32, LN64, LT32, LT64, t_add, t_sub, t_mul, t_neg, j_lt, j_le, j_eq, j_i2l, j_neg] at *) <;> omega)) (by first | trivial | assumption | rfl | omega | ((try simp only [lg_cmp_lt, lg_cmp_le, lg_cmp_gt, lg_cmp_ge, lg_cmp_eq] at *) <;> (try simp only [i_lt, i_le, i_eq, i_cl, LN32, LN64, LT32, LT64, t_add, t_sub, t_mul, t_neg, j_lt, j_le, j_eq, j_i2l, j_neg] at *) <;> omega))
  have l16 : ∀ (n : Nat) (v1 : Int64) (v3 : Int32) (v4 : Int32) (o_length : Int32) (o_bytes : Nat → Int32), (8 - v4.toInt).toNat < n → (1 ≤ v3.toInt) → (v3.toInt ≤ 8) → (0 ≤ v4.toInt) → (v4.toInt ≤ v3.toInt) → (0 ≤ o_length.toInt) → (o_length.toInt ≤ 60) → okP (f_X3_add_L16 n v1 v3 v4 o_length o_bytes) (fun u => (0 ≤ u.2.1.toInt) ∧ (u.2.1.toInt ≤ 60)) := by
    intro n
    induction n with
    | zero =>
      intro v1 v3 v4 o_length o_bytes hm
      exact absurd hm (Nat.not_lt_zero _)
    | succ n16 ih16 =>
      intro v1 v3 v4 o_length o_bytes hm16 g16_0 g16_1 g16_2 g16_3 g16_4 g16_5
      show okP (f_X3_add_L16b (f_X3_add_L16 n16) v1 v3 v4 o_length o_bytes) (fun u => (0 ≤ u.2.1.toInt) ∧ (u.2.1.toInt ≤ 60))
      unfold f_X3_add_L16b
      refine ok_ite (fun c_6 => ?_) (fun c_6 => ?_)
      · skip
        refine ok_ite (fun c_7 => ?_) (fun c_7 => ?_)
        · skip
          refine ok_nmx (fun x_8 hx_8 => ?_)
          exact l71 FU v1 x_8 o_length o_bytes (FU_gt (by omega)) (by first | trivial | assumption | rfl | omega | ((try simp only [lg_cmp_lt, lg_cmp_le, lg_cmp_gt, lg_cmp_ge, lg_cmp_eq] at *) <;> (try simp only [i_lt, i_le, i_eq, i_cl, LN32, LN64, LT32, LT64, t_add, t_sub, t_mul, t_neg, j_lt, j_le, j_eq, j_i2l, j_neg] at *) <;> omega)) (by first | trivial | assumption | rfl | omega | ((try simp only [lg_cmp_lt, lg_cmp_le, lg_cmp_gt, lg_cmp_ge, lg_cmp_eq] at *) <;> (try simp only [i_lt, i_le, i_eq, i_cl, LN32, LN64, LT32, LT64, t_add, t_sub, t_mul, t_neg, j_lt, j_le, j_eq, j_i2l, j_neg] at *) <;> omega)) (by first | trivial | assumption | rfl | omega | ((try simp only [lg_cmp_lt, lg_cmp_le, lg_cmp_gt, lg_cmp_ge, lg_cmp_eq] at *) <;> (try simp only [i_lt, i_le, i_eq, i_cl, LN32, LN64, LT32, LT64, t_add, t_sub, t_mul, t_neg, j_lt, j_le, j_eq, j_i2l, j_neg] at *) <;> omega)) (by first | trivial | assumption | rfl | omega | ((try simp only [lg_cmp_lt, lg_cmp_le, lg_cmp_gt, lg_cmp_ge, lg_cmp_eq] at *) <;> (try simp only [i_lt, i_le, i_eq, i_cl, LN32, LN64, LT32, LT64, t_add, t_sub, t_mul, t_neg, j_lt, j_le, j_eq, j_i2l, j_neg] at *) <;> omega))
        · skip
          exact ok_some ⟨by (try dsimp only) <;> first | trivial | assumption | rfl | omega | ((try simp only [lg_cmp_lt, lg_cmp_le, lg_cmp_gt, lg_cmp_ge, lg_cmp_eq] at *) <;> (try simp only [i_lt, i_le, i_eq, i_cl, LN32, LN64, LT32, LT64, t_add, t_sub, t_mul, t_neg, j_lt, j_le, j_eq, j_i2l, j_neg] at *) <;> omega), by (try dsimp only) <;> first | trivial | assumption | rfl | omega | ((try simp only [lg_cmp_lt, lg_cmp_le, lg_cmp_gt, lg_cmp_ge, lg_cmp_eq] at *) <;> (try simp only [i_lt, i_le, i_eq, i_cl, LN32, LN64, LT32, LT64, t_add, t_sub, t_mul, t_neg, j_lt, j_le, j_eq, j_i2l, j_neg] at *) <;> omega)⟩
      · skip
        refine ok_bd1 (s_X3_byteOf v1 v4) (fun r_9 q_10 => ?_)
        refine ok_ite (fun c_11 => ?_) (fun c_11 => ?_)
        · skip
          exact ok_some ⟨by (try dsimp only) <;> first | trivial | assumption | rfl | omega | ((try simp only [lg_cmp_lt, lg_cmp_le, lg_cmp_gt, lg_cmp_ge, lg_cmp_eq] at *) <;> (try simp only [i_lt, i_le, i_eq, i_cl, LN32, LN64, LT32, LT64, t_add, t_sub, t_mul, t_neg, j_lt, j_le, j_eq, j_i2l, j_neg] at *) <;> omega), by (try dsimp only) <;> first | trivial | assumption | rfl | omega | ((try simp only [lg_cmp_lt, lg_cmp_le, lg_cmp_gt, lg_cmp_ge, lg_cmp_eq] at *) <;> (try simp only [i_lt, i_le, i_eq, i_cl, LN32, LN64, LT32, LT64, t_add, t_sub, t_mul, t_neg, j_lt, j_le, j_eq, j_i2l, j_neg] at *) <;> omega)⟩
        · skip
          refine ok_bd1 (s_X3_byteOf v1 v4) (fun r_12 q_13 => ?_)
          refine ok_ite (fun c_14 => ?_) (fun c_14 => ?_)
          · skip
            refine ok_nmx (fun x_15 hx_15 => ?_)
            exact ih16 v1 v3 x_15 o_length o_bytes (by first | trivial | assumption | rfl | omega | ((try simp only [lg_cmp_lt, lg_cmp_le, lg_cmp_gt, lg_cmp_ge, lg_cmp_eq] at *) <;> (try simp only [i_lt, i_le, i_eq, i_cl, LN32, LN64, LT32, LT64, t_add, t_sub, t_mul, t_neg, j_lt, j_le, j_eq, j_i2l, j_neg] at *) <;> omega)) (by first | trivial | assumption | rfl | omega | ((try simp only [lg_cmp_lt, lg_cmp_le, lg_cmp_gt, lg_cmp_ge, lg_cmp_eq] at *) <;> (try simp only [i_lt, i_le, i_eq, i_cl, LN32, LN64, LT32, LT64, t_add, t_sub, t_mul, t_neg, j_lt, j_le, j_eq, j_i2l, j_neg] at *) <;> omega)) (by first | trivial | assumption | rfl | omega | ((try simp only [lg_cmp_lt, lg_cmp_le, lg_cmp_gt, lg_cmp_ge, lg_cmp_eq] at *) <;> (try simp only [i_lt, i_le, i_eq, i_cl, LN32, LN64, LT32, LT64, t_add, t_sub, t_mul, t_neg, j_lt, j_le, j_eq, j_i2l, j_neg] at *) <;> omega)) (by first | trivial | assumption | rfl | omega | ((try simp only [lg_cmp_lt, lg_cmp_le, lg_cmp_gt, lg_cmp_ge, lg_cmp_eq] at *) <;> (try simp only [i_lt, i_le, i_eq, i_cl, LN32, LN64, LT32, LT64, t_add, t_sub, t_mul, t_neg, j_lt, j_le, j_eq, j_i2l, j_neg] at *) <;> omega)) (by first | trivial | assumption | rfl | omega | ((try simp only [lg_cmp_lt, lg_cmp_le, lg_cmp_gt, lg_cmp_ge, lg_cmp_eq] at *) <;> (try simp only [i_lt, i_le, i_eq, i_cl, LN32, LN64, LT32, LT64, t_add, t_sub, t_mul, t_neg, j_lt, j_le, j_eq, j_i2l, j_neg] at *) <;> omega)) (by first | trivial | assumption | rfl | omega | ((try simp only [lg_cmp_lt, lg_cmp_le, lg_cmp_gt, lg_cmp_ge, lg_cmp_eq] at *) <;> (try simp only [i_lt, i_le, i_eq, i_cl, LN32, LN64, LT32, LT64, t_add, t_sub, t_mul, t_neg, j_lt, j_le, j_eq, j_i2l, j_neg] at *) <;> omega)) (by first | trivial | assumption | rfl | omega | ((try simp only [lg_cmp_lt, lg_cmp_le, lg_cmp_gt, lg_cmp_ge, lg_cmp_eq] at *) <;> (try simp only [i_lt, i_le, i_eq, i_cl, LN32, LN64, LT32, LT64, t_add, t_sub, t_mul, t_neg, j_lt, j_le, j_eq, j_i2l, j_neg] at *) <;> omega))
          · skip
            exact ok_some ⟨by (try dsimp only) <;> first | trivial | assumption | rfl | omega | ((try simp only [lg_cmp_lt, lg_cmp_le, lg_cmp_gt, lg_cmp_ge, lg_cmp_eq] at *) <;> (try simp only [i_lt, i_le, i_eq, i_cl, LN32, LN64, LT32, LT64, t_add, t_sub, t_mul, t_neg, j_lt, j_le, j_eq, j_i2l, j_neg] at *) <;> omega), by (try dsimp only) <;> first | trivial | assumption | rfl | omega | ((try simp only [lg_cmp_lt, lg_cmp_le, lg_cmp_gt, lg_cmp_ge, lg_cmp_eq] at *) <;> (try simp only [i_lt, i_le, i_eq, i_cl, LN32, LN64, LT32, LT64, t_add, t_sub, t_mul, t_neg, j_lt, j_le, j_eq, j_i2l, j_neg] at *) <;> omega)⟩
  unfold f_X3_add
  refine ok_ite (fun c_16 => ?_) (fun c_16 => ?_)
  · skip
    exact ok_some ⟨by (try dsimp only) <;> first | trivial | assumption | rfl | omega | ((try simp only [lg_cmp_lt, lg_cmp_le, lg_cmp_gt, lg_cmp_ge, lg_cmp_eq] at *) <;> (try simp only [i_lt, i_le, i_eq, i_cl, LN32, LN64, LT32, LT64, t_add, t_sub, t_mul, t_neg, j_lt, j_le, j_eq, j_i2l, j_neg] at *) <;> omega), by (try dsimp only) <;> first | trivial | assumption | rfl | omega | ((try simp only [lg_cmp_lt, lg_cmp_le, lg_cmp_gt, lg_cmp_ge, lg_cmp_eq] at *) <;> (try simp only [i_lt, i_le, i_eq, i_cl, LN32, LN64, LT32, LT64, t_add, t_sub, t_mul, t_neg, j_lt, j_le, j_eq, j_i2l, j_neg] at *) <;> omega)⟩
  · skip
    refine ok_ite (fun c_17 => ?_) (fun c_17 => ?_)
    · skip
      exact l16 FU x1 x2 0 o_length o_bytes (FU_gt (by omega)) (by first | trivial | assumption | rfl | omega | ((try simp only [lg_cmp_lt, lg_cmp_le, lg_cmp_gt, lg_cmp_ge, lg_cmp_eq] at *) <;> (try simp only [i_lt, i_le, i_eq, i_cl, LN32, LN64, LT32, LT64, t_add, t_sub, t_mul, t_neg, j_lt, j_le, j_eq, j_i2l, j_neg] at *) <;> omega)) (by first | trivial | assumption | rfl | omega | ((try simp only [lg_cmp_lt, lg_cmp_le, lg_cmp_gt, lg_cmp_ge, lg_cmp_eq] at *) <;> (try simp only [i_lt, i_le, i_eq, i_cl, LN32, LN64, LT32, LT64, t_add, t_sub, t_mul, t_neg, j_lt, j_le, j_eq, j_i2l, j_neg] at *) <;> omega)) (by first | trivial | assumption | rfl | omega | ((try simp only [lg_cmp_lt, lg_cmp_le, lg_cmp_gt, lg_cmp_ge, lg_cmp_eq] at *) <;> (try simp only [i_lt, i_le, i_eq, i_cl, LN32, LN64, LT32, LT64, t_add, t_sub, t_mul, t_neg, j_lt, j_le, j_eq, j_i2l, j_neg] at *) <;> omega)) (by first | trivial | assumption | rfl | omega | ((try simp only [lg_cmp_lt, lg_cmp_le, lg_cmp_gt, lg_cmp_ge, lg_cmp_eq] at *) <;> (try simp only [i_lt, i_le, i_eq, i_cl, LN32, LN64, LT32, LT64, t_add, t_sub, t_mul, t_neg, j_lt, j_le, j_eq, j_i2l, j_neg] at *) <;> omega)) (by first | trivial | assumption | rfl | omega | ((try simp only [lg_cmp_lt, lg_cmp_le, lg_cmp_gt, lg_cmp_ge, lg_cmp_eq] at *) <;> (try simp only [i_lt, i_le, i_eq, i_cl, LN32, LN64, LT32, LT64, t_add, t_sub, t_mul, t_neg, j_lt, j_le, j_eq, j_i2l, j_neg] at *) <;> omega)) (by first | trivial | assumption | rfl | omega | ((try simp only [lg_cmp_lt, lg_cmp_le, lg_cmp_gt, lg_cmp_ge, lg_cmp_eq] at *) <;> (try simp only [i_lt, i_le, i_eq, i_cl, LN32, LN64, LT32, LT64, t_add, t_sub, t_mul, t_neg, j_lt, j_le, j_eq, j_i2l, j_neg] at *) <;> omega))
    · skip
      exact ok_some ⟨by (try dsimp only) <;> first | trivial | assumption | rfl | omega | ((try simp only [lg_cmp_lt, lg_cmp_le, lg_cmp_gt, lg_cmp_ge, lg_cmp_eq] at *) <;> (try simp only [i_lt, i_le, i_eq, i_cl, LN32, LN64, LT32, LT64, t_add, t_sub, t_mul, t_neg, j_lt, j_le, j_eq, j_i2l, j_neg] at *) <;> omega), by (try dsimp only) <;> first | trivial | assumption | rfl | omega | ((try simp only [lg_cmp_lt, lg_cmp_le, lg_cmp_gt, lg_cmp_ge, lg_cmp_eq] at *) <;> (try simp only [i_lt, i_le, i_eq, i_cl, LN32, LN64, LT32, LT64, t_add, t_sub, t_mul, t_neg, j_lt, j_le, j_eq, j_i2l, j_neg] at *) <;> omega)⟩
set_option maxRecDepth 100000 in
set_option maxHeartbeats 4000000 in
theorem s_X3_empty (o_length : Int32) : okP (f_X3_empty o_length) (fun u => (u.toInt = 0)) := by
  unfold f_X3_empty
  exact ok_some (by (try dsimp only) <;> first | trivial | assumption | rfl | omega | ((try simp only [lg_cmp_lt, lg_cmp_le, lg_cmp_gt, lg_cmp_ge, lg_cmp_eq] at *) <;> (try simp only [i_lt, i_le, i_eq, i_cl, LN32, LN64, LT32, LT64, t_add, t_sub, t_mul, t_neg, j_lt, j_le, j_eq, j_i2l, j_neg] at *) <;> omega))
set_option maxRecDepth 100000 in
set_option maxHeartbeats 4000000 in
theorem s_X3_skipBlanks (o_length : Int32) (o_place : Int32) (o_bytes : Nat → Int32) (h0 : 0 ≤ (o_length).toInt) (h1 : (o_length).toInt ≤ 60) (h2 : 0 ≤ o_place.toInt) (h3 : o_place.toInt ≤ o_length.toInt) : okP (f_X3_skipBlanks o_length o_place o_bytes) (fun u => (0 ≤ u.toInt) ∧ (u.toInt ≤ o_length.toInt)) := by
  have l0 : ∀ (n : Nat) (o_place : Int32), (o_length.toInt - o_place.toInt).toNat < n → (0 ≤ o_place.toInt) → (o_place.toInt ≤ o_length.toInt) → okP (f_X3_skipBlanks_L0 n o_length o_place o_bytes) (fun u => (0 ≤ u.toInt) ∧ (u.toInt ≤ o_length.toInt)) := by
    intro n
    induction n with
    | zero =>
      intro o_place hm
      exact absurd hm (Nat.not_lt_zero _)
    | succ n0 ih0 =>
      intro o_place hm0 g0_0 g0_1
      show okP (f_X3_skipBlanks_L0b (f_X3_skipBlanks_L0 n0) o_length o_place o_bytes) (fun u => (0 ≤ u.toInt) ∧ (u.toInt ≤ o_length.toInt))
      unfold f_X3_skipBlanks_L0b
      refine ok_ite (fun c_1 => ?_) (fun c_1 => ?_)
      · skip
        exact ok_some ⟨by (try dsimp only) <;> first | trivial | assumption | rfl | omega | ((try simp only [lg_cmp_lt, lg_cmp_le, lg_cmp_gt, lg_cmp_ge, lg_cmp_eq] at *) <;> (try simp only [i_lt, i_le, i_eq, i_cl, LN32, LN64, LT32, LT64, t_add, t_sub, t_mul, t_neg, j_lt, j_le, j_eq, j_i2l, j_neg] at *) <;> omega), by (try dsimp only) <;> first | trivial | assumption | rfl | omega | ((try simp only [lg_cmp_lt, lg_cmp_le, lg_cmp_gt, lg_cmp_ge, lg_cmp_eq] at *) <;> (try simp only [i_lt, i_le, i_eq, i_cl, LN32, LN64, LT32, LT64, t_add, t_sub, t_mul, t_neg, j_lt, j_le, j_eq, j_i2l, j_neg] at *) <;> omega)⟩
      · skip
        refine ok_chk (by first | trivial | assumption | rfl | omega | ((try simp only [lg_cmp_lt, lg_cmp_le, lg_cmp_gt, lg_cmp_ge, lg_cmp_eq] at *) <;> (try simp only [i_lt, i_le, i_eq, i_cl, LN32, LN64, LT32, LT64, t_add, t_sub, t_mul, t_neg, j_lt, j_le, j_eq, j_i2l, j_neg] at *) <;> omega)) ?_
        refine ok_ite (fun c_2 => ?_) (fun c_2 => ?_)
        · skip
          refine ok_nmx (fun x_3 hx_3 => ?_)
          exact ih0 x_3 (by first | trivial | assumption | rfl | omega | ((try simp only [lg_cmp_lt, lg_cmp_le, lg_cmp_gt, lg_cmp_ge, lg_cmp_eq] at *) <;> (try simp only [i_lt, i_le, i_eq, i_cl, LN32, LN64, LT32, LT64, t_add, t_sub, t_mul, t_neg, j_lt, j_le, j_eq, j_i2l, j_neg] at *) <;> omega)) (by first | trivial | assumption | rfl | omega | ((try simp only [lg_cmp_lt, lg_cmp_le, lg_cmp_gt, lg_cmp_ge, lg_cmp_eq] at *) <;> (try simp only [i_lt, i_le, i_eq, i_cl, LN32, LN64, LT32, LT64, t_add, t_sub, t_mul, t_neg, j_lt, j_le, j_eq, j_i2l, j_neg] at *) <;> omega)) (by first | trivial | assumption | rfl | omega | ((try simp only [lg_cmp_lt, lg_cmp_le, lg_cmp_gt, lg_cmp_ge, lg_cmp_eq] at *) <;> (try simp only [i_lt, i_le, i_eq, i_cl, LN32, LN64, LT32, LT64, t_add, t_sub, t_mul, t_neg, j_lt, j_le, j_eq, j_i2l, j_neg] at *) <;> omega))
        · skip
          exact ok_some ⟨by (try dsimp only) <;> first | trivial | assumption | rfl | omega | ((try simp only [lg_cmp_lt, lg_cmp_le, lg_cmp_gt, lg_cmp_ge, lg_cmp_eq] at *) <;> (try simp only [i_lt, i_le, i_eq, i_cl, LN32, LN64, LT32, LT64, t_add, t_sub, t_mul, t_neg, j_lt, j_le, j_eq, j_i2l, j_neg] at *) <;> omega), by (try dsimp only) <;> first | trivial | assumption | rfl | omega | ((try simp only [lg_cmp_lt, lg_cmp_le, lg_cmp_gt, lg_cmp_ge, lg_cmp_eq] at *) <;> (try simp only [i_lt, i_le, i_eq, i_cl, LN32, LN64, LT32, LT64, t_add, t_sub, t_mul, t_neg, j_lt, j_le, j_eq, j_i2l, j_neg] at *) <;> omega)⟩
  unfold f_X3_skipBlanks
  exact l0 FU o_place (FU_gt (by omega)) (by first | trivial | assumption | rfl | omega | ((try simp only [lg_cmp_lt, lg_cmp_le, lg_cmp_gt, lg_cmp_ge, lg_cmp_eq] at *) <;> (try simp only [i_lt, i_le, i_eq, i_cl, LN32, LN64, LT32, LT64, t_add, t_sub, t_mul, t_neg, j_lt, j_le, j_eq, j_i2l, j_neg] at *) <;> omega)) (by first | trivial | assumption | rfl | omega | ((try simp only [lg_cmp_lt, lg_cmp_le, lg_cmp_gt, lg_cmp_ge, lg_cmp_eq] at *) <;> (try simp only [i_lt, i_le, i_eq, i_cl, LN32, LN64, LT32, LT64, t_add, t_sub, t_mul, t_neg, j_lt, j_le, j_eq, j_i2l, j_neg] at *) <;> omega))
set_option maxRecDepth 100000 in
set_option maxHeartbeats 4000000 in
theorem s_X3_isAtEnd (o_length : Int32) (o_place : Int32) (o_bytes : Nat → Int32) (h0 : 0 ≤ (o_length).toInt) (h1 : (o_length).toInt ≤ 60) (h2 : 0 ≤ o_place.toInt) (h3 : o_place.toInt ≤ o_length.toInt) : okP (f_X3_isAtEnd o_length o_place o_bytes) (fun u => (0 ≤ u.2.toInt) ∧ (u.2.toInt ≤ o_length.toInt) ∧ ((u.1.toInt = 1 ∧ o_length.toInt ≤ u.2.toInt) ∨ (u.1.toInt = 0 ∧ u.2.toInt < o_length.toInt))) := by
  unfold f_X3_isAtEnd
  refine ok_bd1 (s_X3_skipBlanks o_length o_place o_bytes (by first | trivial | assumption | rfl | omega | ((try simp only [lg_cmp_lt, lg_cmp_le, lg_cmp_gt, lg_cmp_ge, lg_cmp_eq] at *) <;> (try simp only [i_lt, i_le, i_eq, i_cl, LN32, LN64, LT32, LT64, t_add, t_sub, t_mul, t_neg, j_lt, j_le, j_eq, j_i2l, j_neg] at *) <;> omega)) (by first | trivial | assumption | rfl | omega | ((try simp only [lg_cmp_lt, lg_cmp_le, lg_cmp_gt, lg_cmp_ge, lg_cmp_eq] at *) <;> (try simp only [i_lt, i_le, i_eq, i_cl, LN32, LN64, LT32, LT64, t_add, t_sub, t_mul, t_neg, j_lt, j_le, j_eq, j_i2l, j_neg] at *) <;> omega)) (by first | trivial | assumption | rfl | omega | ((try simp only [lg_cmp_lt, lg_cmp_le, lg_cmp_gt, lg_cmp_ge, lg_cmp_eq] at *) <;> (try simp only [i_lt, i_le, i_eq, i_cl, LN32, LN64, LT32, LT64, t_add, t_sub, t_mul, t_neg, j_lt, j_le, j_eq, j_i2l, j_neg] at *) <;> omega)) (by first | trivial | assumption | rfl | omega | ((try simp only [lg_cmp_lt, lg_cmp_le, lg_cmp_gt, lg_cmp_ge, lg_cmp_eq] at *) <;> (try simp only [i_lt, i_le, i_eq, i_cl, LN32, LN64, LT32, LT64, t_add, t_sub, t_mul, t_neg, j_lt, j_le, j_eq, j_i2l, j_neg] at *) <;> omega))) (fun w_1 q_2 => ?_)
  obtain ⟨q_2_0, q_2_1⟩ := q_2
  try dsimp only at q_2_0
  try dsimp only at q_2_1
  refine ok_ite (fun c_3 => ?_) (fun c_3 => ?_)
  · skip
    exact ok_some ⟨by (try dsimp only) <;> first | trivial | assumption | rfl | omega | ((try simp only [lg_cmp_lt, lg_cmp_le, lg_cmp_gt, lg_cmp_ge, lg_cmp_eq] at *) <;> (try simp only [i_lt, i_le, i_eq, i_cl, LN32, LN64, LT32, LT64, t_add, t_sub, t_mul, t_neg, j_lt, j_le, j_eq, j_i2l, j_neg] at *) <;> omega), by (try dsimp only) <;> first | trivial | assumption | rfl | omega | ((try simp only [lg_cmp_lt, lg_cmp_le, lg_cmp_gt, lg_cmp_ge, lg_cmp_eq] at *) <;> (try simp only [i_lt, i_le, i_eq, i_cl, LN32, LN64, LT32, LT64, t_add, t_sub, t_mul, t_neg, j_lt, j_le, j_eq, j_i2l, j_neg] at *) <;> omega), by (try dsimp only) <;> first | trivial | assumption | rfl | omega | ((try simp only [lg_cmp_lt, lg_cmp_le, lg_cmp_gt, lg_cmp_ge, lg_cmp_eq] at *) <;> (try simp only [i_lt, i_le, i_eq, i_cl, LN32, LN64, LT32, LT64, t_add, t_sub, t_mul, t_neg, j_lt, j_le, j_eq, j_i2l, j_neg] at *) <;> omega)⟩
  · skip
    exact ok_some ⟨by (try dsimp only) <;> first | trivial | assumption | rfl | omega | ((try simp only [lg_cmp_lt, lg_cmp_le, lg_cmp_gt, lg_cmp_ge, lg_cmp_eq] at *) <;> (try simp only [i_lt, i_le, i_eq, i_cl, LN32, LN64, LT32, LT64, t_add, t_sub, t_mul, t_neg, j_lt, j_le, j_eq, j_i2l, j_neg] at *) <;> omega), by (try dsimp only) <;> first | trivial | assumption | rfl | omega | ((try simp only [lg_cmp_lt, lg_cmp_le, lg_cmp_gt, lg_cmp_ge, lg_cmp_eq] at *) <;> (try simp only [i_lt, i_le, i_eq, i_cl, LN32, LN64, LT32, LT64, t_add, t_sub, t_mul, t_neg, j_lt, j_le, j_eq, j_i2l, j_neg] at *) <;> omega), by (try dsimp only) <;> first | trivial | assumption | rfl | omega | ((try simp only [lg_cmp_lt, lg_cmp_le, lg_cmp_gt, lg_cmp_ge, lg_cmp_eq] at *) <;> (try simp only [i_lt, i_le, i_eq, i_cl, LN32, LN64, LT32, LT64, t_add, t_sub, t_mul, t_neg, j_lt, j_le, j_eq, j_i2l, j_neg] at *) <;> omega)⟩
set_option maxRecDepth 100000 in
set_option maxHeartbeats 4000000 in
theorem s_X3_fault (o_length : Int32) (o_place : Int32) (o_bytes : Nat → Int32) (h0 : 0 ≤ (o_length).toInt) (h1 : (o_length).toInt ≤ 60) (h2 : 0 ≤ o_place.toInt) (h3 : o_place.toInt ≤ o_length.toInt) : okP (f_X3_fault o_length o_place o_bytes) (fun u => (0 ≤ u.2.toInt) ∧ (u.2.toInt ≤ o_length.toInt) ∧ (u.1.toInt < 0)) := by
  unfold f_X3_fault
  refine ok_bd1 (s_X3_skipBlanks o_length o_place o_bytes (by first | trivial | assumption | rfl | omega | ((try simp only [lg_cmp_lt, lg_cmp_le, lg_cmp_gt, lg_cmp_ge, lg_cmp_eq] at *) <;> (try simp only [i_lt, i_le, i_eq, i_cl, LN32, LN64, LT32, LT64, t_add, t_sub, t_mul, t_neg, j_lt, j_le, j_eq, j_i2l, j_neg] at *) <;> omega)) (by first | trivial | assumption | rfl | omega | ((try simp only [lg_cmp_lt, lg_cmp_le, lg_cmp_gt, lg_cmp_ge, lg_cmp_eq] at *) <;> (try simp only [i_lt, i_le, i_eq, i_cl, LN32, LN64, LT32, LT64, t_add, t_sub, t_mul, t_neg, j_lt, j_le, j_eq, j_i2l, j_neg] at *) <;> omega)) (by first | trivial | assumption | rfl | omega | ((try simp only [lg_cmp_lt, lg_cmp_le, lg_cmp_gt, lg_cmp_ge, lg_cmp_eq] at *) <;> (try simp only [i_lt, i_le, i_eq, i_cl, LN32, LN64, LT32, LT64, t_add, t_sub, t_mul, t_neg, j_lt, j_le, j_eq, j_i2l, j_neg] at *) <;> omega)) (by first | trivial | assumption | rfl | omega | ((try simp only [lg_cmp_lt, lg_cmp_le, lg_cmp_gt, lg_cmp_ge, lg_cmp_eq] at *) <;> (try simp only [i_lt, i_le, i_eq, i_cl, LN32, LN64, LT32, LT64, t_add, t_sub, t_mul, t_neg, j_lt, j_le, j_eq, j_i2l, j_neg] at *) <;> omega))) (fun w_1 q_2 => ?_)
  obtain ⟨q_2_0, q_2_1⟩ := q_2
  try dsimp only at q_2_0
  try dsimp only at q_2_1
  exact ok_some ⟨by (try dsimp only) <;> first | trivial | assumption | rfl | omega | ((try simp only [lg_cmp_lt, lg_cmp_le, lg_cmp_gt, lg_cmp_ge, lg_cmp_eq] at *) <;> (try simp only [i_lt, i_le, i_eq, i_cl, LN32, LN64, LT32, LT64, t_add, t_sub, t_mul, t_neg, j_lt, j_le, j_eq, j_i2l, j_neg] at *) <;> omega), by (try dsimp only) <;> first | trivial | assumption | rfl | omega | ((try simp only [lg_cmp_lt, lg_cmp_le, lg_cmp_gt, lg_cmp_ge, lg_cmp_eq] at *) <;> (try simp only [i_lt, i_le, i_eq, i_cl, LN32, LN64, LT32, LT64, t_add, t_sub, t_mul, t_neg, j_lt, j_le, j_eq, j_i2l, j_neg] at *) <;> omega), by (try dsimp only) <;> first | trivial | assumption | rfl | omega | ((try simp only [lg_cmp_lt, lg_cmp_le, lg_cmp_gt, lg_cmp_ge, lg_cmp_eq] at *) <;> (try simp only [i_lt, i_le, i_eq, i_cl, LN32, LN64, LT32, LT64, t_add, t_sub, t_mul, t_neg, j_lt, j_le, j_eq, j_i2l, j_neg] at *) <;> omega)⟩
set_option maxRecDepth 100000 in
set_option maxHeartbeats 4000000 in
theorem s_X3_passes (x1 : Int32) (o_length : Int32) (o_place : Int32) (o_bytes : Nat → Int32) (h0 : 0 ≤ (o_length).toInt) (h1 : (o_length).toInt ≤ 60) (h2 : 0 ≤ o_place.toInt) (h3 : o_place.toInt ≤ o_length.toInt) : okP (f_X3_passes x1 o_length o_place o_bytes) (fun u => (0 ≤ u.2.toInt) ∧ (u.2.toInt ≤ o_length.toInt) ∧ (u.1.toInt = 0 ∨ u.1.toInt = 1)) := by
  unfold f_X3_passes
  refine ok_bd2 (s_X3_isAtEnd o_length o_place o_bytes (by first | trivial | assumption | rfl | omega | ((try simp only [lg_cmp_lt, lg_cmp_le, lg_cmp_gt, lg_cmp_ge, lg_cmp_eq] at *) <;> (try simp only [i_lt, i_le, i_eq, i_cl, LN32, LN64, LT32, LT64, t_add, t_sub, t_mul, t_neg, j_lt, j_le, j_eq, j_i2l, j_neg] at *) <;> omega)) (by first | trivial | assumption | rfl | omega | ((try simp only [lg_cmp_lt, lg_cmp_le, lg_cmp_gt, lg_cmp_ge, lg_cmp_eq] at *) <;> (try simp only [i_lt, i_le, i_eq, i_cl, LN32, LN64, LT32, LT64, t_add, t_sub, t_mul, t_neg, j_lt, j_le, j_eq, j_i2l, j_neg] at *) <;> omega)) (by first | trivial | assumption | rfl | omega | ((try simp only [lg_cmp_lt, lg_cmp_le, lg_cmp_gt, lg_cmp_ge, lg_cmp_eq] at *) <;> (try simp only [i_lt, i_le, i_eq, i_cl, LN32, LN64, LT32, LT64, t_add, t_sub, t_mul, t_neg, j_lt, j_le, j_eq, j_i2l, j_neg] at *) <;> omega)) (by first | trivial | assumption | rfl | omega | ((try simp only [lg_cmp_lt, lg_cmp_le, lg_cmp_gt, lg_cmp_ge, lg_cmp_eq] at *) <;> (try simp only [i_lt, i_le, i_eq, i_cl, LN32, LN64, LT32, LT64, t_add, t_sub, t_mul, t_neg, j_lt, j_le, j_eq, j_i2l, j_neg] at *) <;> omega))) (fun r_1 w_2 q_3 => ?_)
  obtain ⟨q_3_0, q_3_1, q_3_2⟩ := q_3
  try dsimp only at q_3_0
  try dsimp only at q_3_1
  try dsimp only at q_3_2
  refine ok_ite (fun c_4 => ?_) (fun c_4 => ?_)
  · skip
    refine ok_chk (by first | trivial | assumption | rfl | omega | ((try simp only [lg_cmp_lt, lg_cmp_le, lg_cmp_gt, lg_cmp_ge, lg_cmp_eq] at *) <;> (try simp only [i_lt, i_le, i_eq, i_cl, LN32, LN64, LT32, LT64, t_add, t_sub, t_mul, t_neg, j_lt, j_le, j_eq, j_i2l, j_neg] at *) <;> omega)) ?_
    refine ok_ite (fun c_5 => ?_) (fun c_5 => ?_)
    · skip
      refine ok_nmx (fun x_6 hx_6 => ?_)
      exact ok_some ⟨by (try dsimp only) <;> first | trivial | assumption | rfl | omega | ((try simp only [lg_cmp_lt, lg_cmp_le, lg_cmp_gt, lg_cmp_ge, lg_cmp_eq] at *) <;> (try simp only [i_lt, i_le, i_eq, i_cl, LN32, LN64, LT32, LT64, t_add, t_sub, t_mul, t_neg, j_lt, j_le, j_eq, j_i2l, j_neg] at *) <;> omega), by (try dsimp only) <;> first | trivial | assumption | rfl | omega | ((try simp only [lg_cmp_lt, lg_cmp_le, lg_cmp_gt, lg_cmp_ge, lg_cmp_eq] at *) <;> (try simp only [i_lt, i_le, i_eq, i_cl, LN32, LN64, LT32, LT64, t_add, t_sub, t_mul, t_neg, j_lt, j_le, j_eq, j_i2l, j_neg] at *) <;> omega), by (try dsimp only) <;> first | trivial | assumption | rfl | omega | ((try simp only [lg_cmp_lt, lg_cmp_le, lg_cmp_gt, lg_cmp_ge, lg_cmp_eq] at *) <;> (try simp only [i_lt, i_le, i_eq, i_cl, LN32, LN64, LT32, LT64, t_add, t_sub, t_mul, t_neg, j_lt, j_le, j_eq, j_i2l, j_neg] at *) <;> omega)⟩
    · skip
      exact ok_some ⟨by (try dsimp only) <;> first | trivial | assumption | rfl | omega | ((try simp only [lg_cmp_lt, lg_cmp_le, lg_cmp_gt, lg_cmp_ge, lg_cmp_eq] at *) <;> (try simp only [i_lt, i_le, i_eq, i_cl, LN32, LN64, LT32, LT64, t_add, t_sub, t_mul, t_neg, j_lt, j_le, j_eq, j_i2l, j_neg] at *) <;> omega), by (try dsimp only) <;> first | trivial | assumption | rfl | omega | ((try simp only [lg_cmp_lt, lg_cmp_le, lg_cmp_gt, lg_cmp_ge, lg_cmp_eq] at *) <;> (try simp only [i_lt, i_le, i_eq, i_cl, LN32, LN64, LT32, LT64, t_add, t_sub, t_mul, t_neg, j_lt, j_le, j_eq, j_i2l, j_neg] at *) <;> omega), by (try dsimp only) <;> first | trivial | assumption | rfl | omega | ((try simp only [lg_cmp_lt, lg_cmp_le, lg_cmp_gt, lg_cmp_ge, lg_cmp_eq] at *) <;> (try simp only [i_lt, i_le, i_eq, i_cl, LN32, LN64, LT32, LT64, t_add, t_sub, t_mul, t_neg, j_lt, j_le, j_eq, j_i2l, j_neg] at *) <;> omega)⟩
  · skip
    exact ok_some ⟨by (try dsimp only) <;> first | trivial | assumption | rfl | omega | ((try simp only [lg_cmp_lt, lg_cmp_le, lg_cmp_gt, lg_cmp_ge, lg_cmp_eq] at *) <;> (try simp only [i_lt, i_le, i_eq, i_cl, LN32, LN64, LT32, LT64, t_add, t_sub, t_mul, t_neg, j_lt, j_le, j_eq, j_i2l, j_neg] at *) <;> omega), by (try dsimp only) <;> first | trivial | assumption | rfl | omega | ((try simp only [lg_cmp_lt, lg_cmp_le, lg_cmp_gt, lg_cmp_ge, lg_cmp_eq] at *) <;> (try simp only [i_lt, i_le, i_eq, i_cl, LN32, LN64, LT32, LT64, t_add, t_sub, t_mul, t_neg, j_lt, j_le, j_eq, j_i2l, j_neg] at *) <;> omega), by (try dsimp only) <;> first | trivial | assumption | rfl | omega | ((try simp only [lg_cmp_lt, lg_cmp_le, lg_cmp_gt, lg_cmp_ge, lg_cmp_eq] at *) <;> (try simp only [i_lt, i_le, i_eq, i_cl, LN32, LN64, LT32, LT64, t_add, t_sub, t_mul, t_neg, j_lt, j_le, j_eq, j_i2l, j_neg] at *) <;> omega)⟩
set_option maxRecDepth 100000 in
set_option maxHeartbeats 4000000 in
theorem s_X3_number (x1 : Int32) (x2 : Int32) (o_length : Int32) (o_place : Int32) (o_bytes : Nat → Int32) (h0 : 0 ≤ (o_length).toInt) (h1 : (o_length).toInt ≤ 60) (h2 : 0 ≤ o_place.toInt) (h3 : o_place.toInt ≤ o_length.toInt) : okP (f_X3_number x1 x2 o_length o_place o_bytes) (fun u => (0 ≤ u.2.toInt) ∧ (u.2.toInt ≤ o_length.toInt) ∧ (u.1.toInt = -1 ∨ (x1.toInt ≤ u.1.toInt ∧ u.1.toInt ≤ x2.toInt))) := by
  have l12 : ∀ (n : Nat) (v1 : Int32) (v2 : Int32) (v3 : Int32) (v4 : Int32) (o_place : Int32), (o_length.toInt - o_place.toInt).toNat < n → (v1 = x1) → (v2 = x2) → (0 ≤ v3.toInt) → (v3.toInt ≤ o_place.toInt) → (0 ≤ o_place.toInt) → (o_place.toInt ≤ o_length.toInt) → okP (f_X3_number_L12 n v1 v2 v3 v4 o_length o_place o_bytes) (fun u => (0 ≤ u.2.toInt) ∧ (u.2.toInt ≤ o_length.toInt) ∧ (u.1.toInt = -1 ∨ (x1.toInt ≤ u.1.toInt ∧ u.1.toInt ≤ x2.toInt))) := by
    intro n
    induction n with
    | zero =>
      intro v1 v2 v3 v4 o_place hm
      exact absurd hm (Nat.not_lt_zero _)
    | succ n12 ih12 =>
      intro v1 v2 v3 v4 o_place hm12 g12_0 g12_1 g12_2 g12_3 g12_4 g12_5
      show okP (f_X3_number_L12b (f_X3_number_L12 n12) v1 v2 v3 v4 o_length o_place o_bytes) (fun u => (0 ≤ u.2.toInt) ∧ (u.2.toInt ≤ o_length.toInt) ∧ (u.1.toInt = -1 ∨ (x1.toInt ≤ u.1.toInt ∧ u.1.toInt ≤ x2.toInt)))
      unfold f_X3_number_L12b
      refine ok_ite (fun c_1 => ?_) (fun c_1 => ?_)
      · skip
        unfold f_X3_number_B90
        refine ok_ite (fun c_2 => ?_) (fun c_2 => ?_)
        · skip
          unfold f_X3_number_B113
          exact ok_some ⟨by (try dsimp only) <;> first | trivial | assumption | rfl | omega | ((try simp only [lg_cmp_lt, lg_cmp_le, lg_cmp_gt, lg_cmp_ge, lg_cmp_eq] at *) <;> (try simp only [i_lt, i_le, i_eq, i_cl, LN32, LN64, LT32, LT64, t_add, t_sub, t_mul, t_neg, j_lt, j_le, j_eq, j_i2l, j_neg] at *) <;> omega), by (try dsimp only) <;> first | trivial | assumption | rfl | omega | ((try simp only [lg_cmp_lt, lg_cmp_le, lg_cmp_gt, lg_cmp_ge, lg_cmp_eq] at *) <;> (try simp only [i_lt, i_le, i_eq, i_cl, LN32, LN64, LT32, LT64, t_add, t_sub, t_mul, t_neg, j_lt, j_le, j_eq, j_i2l, j_neg] at *) <;> omega), by (try dsimp only) <;> first | trivial | assumption | rfl | omega | ((try simp only [lg_cmp_lt, lg_cmp_le, lg_cmp_gt, lg_cmp_ge, lg_cmp_eq] at *) <;> (try simp only [i_lt, i_le, i_eq, i_cl, LN32, LN64, LT32, LT64, t_add, t_sub, t_mul, t_neg, j_lt, j_le, j_eq, j_i2l, j_neg] at *) <;> omega)⟩
        · skip
          refine ok_ite (fun c_3 => ?_) (fun c_3 => ?_)
          · skip
            unfold f_X3_number_B113
            exact ok_some ⟨by (try dsimp only) <;> first | trivial | assumption | rfl | omega | ((try simp only [lg_cmp_lt, lg_cmp_le, lg_cmp_gt, lg_cmp_ge, lg_cmp_eq] at *) <;> (try simp only [i_lt, i_le, i_eq, i_cl, LN32, LN64, LT32, LT64, t_add, t_sub, t_mul, t_neg, j_lt, j_le, j_eq, j_i2l, j_neg] at *) <;> omega), by (try dsimp only) <;> first | trivial | assumption | rfl | omega | ((try simp only [lg_cmp_lt, lg_cmp_le, lg_cmp_gt, lg_cmp_ge, lg_cmp_eq] at *) <;> (try simp only [i_lt, i_le, i_eq, i_cl, LN32, LN64, LT32, LT64, t_add, t_sub, t_mul, t_neg, j_lt, j_le, j_eq, j_i2l, j_neg] at *) <;> omega), by (try dsimp only) <;> first | trivial | assumption | rfl | omega | ((try simp only [lg_cmp_lt, lg_cmp_le, lg_cmp_gt, lg_cmp_ge, lg_cmp_eq] at *) <;> (try simp only [i_lt, i_le, i_eq, i_cl, LN32, LN64, LT32, LT64, t_add, t_sub, t_mul, t_neg, j_lt, j_le, j_eq, j_i2l, j_neg] at *) <;> omega)⟩
          · skip
            refine ok_ite (fun c_4 => ?_) (fun c_4 => ?_)
            · skip
              unfold f_X3_number_B113
              exact ok_some ⟨by (try dsimp only) <;> first | trivial | assumption | rfl | omega | ((try simp only [lg_cmp_lt, lg_cmp_le, lg_cmp_gt, lg_cmp_ge, lg_cmp_eq] at *) <;> (try simp only [i_lt, i_le, i_eq, i_cl, LN32, LN64, LT32, LT64, t_add, t_sub, t_mul, t_neg, j_lt, j_le, j_eq, j_i2l, j_neg] at *) <;> omega), by (try dsimp only) <;> first | trivial | assumption | rfl | omega | ((try simp only [lg_cmp_lt, lg_cmp_le, lg_cmp_gt, lg_cmp_ge, lg_cmp_eq] at *) <;> (try simp only [i_lt, i_le, i_eq, i_cl, LN32, LN64, LT32, LT64, t_add, t_sub, t_mul, t_neg, j_lt, j_le, j_eq, j_i2l, j_neg] at *) <;> omega), by (try dsimp only) <;> first | trivial | assumption | rfl | omega | ((try simp only [lg_cmp_lt, lg_cmp_le, lg_cmp_gt, lg_cmp_ge, lg_cmp_eq] at *) <;> (try simp only [i_lt, i_le, i_eq, i_cl, LN32, LN64, LT32, LT64, t_add, t_sub, t_mul, t_neg, j_lt, j_le, j_eq, j_i2l, j_neg] at *) <;> omega)⟩
            · skip
              exact ok_some ⟨by (try dsimp only) <;> first | trivial | assumption | rfl | omega | ((try simp only [lg_cmp_lt, lg_cmp_le, lg_cmp_gt, lg_cmp_ge, lg_cmp_eq] at *) <;> (try simp only [i_lt, i_le, i_eq, i_cl, LN32, LN64, LT32, LT64, t_add, t_sub, t_mul, t_neg, j_lt, j_le, j_eq, j_i2l, j_neg] at *) <;> omega), by (try dsimp only) <;> first | trivial | assumption | rfl | omega | ((try simp only [lg_cmp_lt, lg_cmp_le, lg_cmp_gt, lg_cmp_ge, lg_cmp_eq] at *) <;> (try simp only [i_lt, i_le, i_eq, i_cl, LN32, LN64, LT32, LT64, t_add, t_sub, t_mul, t_neg, j_lt, j_le, j_eq, j_i2l, j_neg] at *) <;> omega), by (try dsimp only) <;> first | trivial | assumption | rfl | omega | ((try simp only [lg_cmp_lt, lg_cmp_le, lg_cmp_gt, lg_cmp_ge, lg_cmp_eq] at *) <;> (try simp only [i_lt, i_le, i_eq, i_cl, LN32, LN64, LT32, LT64, t_add, t_sub, t_mul, t_neg, j_lt, j_le, j_eq, j_i2l, j_neg] at *) <;> omega)⟩
      · skip
        refine ok_chk (by first | trivial | assumption | rfl | omega | ((try simp only [lg_cmp_lt, lg_cmp_le, lg_cmp_gt, lg_cmp_ge, lg_cmp_eq] at *) <;> (try simp only [i_lt, i_le, i_eq, i_cl, LN32, LN64, LT32, LT64, t_add, t_sub, t_mul, t_neg, j_lt, j_le, j_eq, j_i2l, j_neg] at *) <;> omega)) ?_
        refine ok_ite (fun c_5 => ?_) (fun c_5 => ?_)
        · skip
          unfold f_X3_number_B90
          refine ok_ite (fun c_6 => ?_) (fun c_6 => ?_)
          · skip
            unfold f_X3_number_B113
            exact ok_some ⟨by (try dsimp only) <;> first | trivial | assumption | rfl | omega | ((try simp only [lg_cmp_lt, lg_cmp_le, lg_cmp_gt, lg_cmp_ge, lg_cmp_eq] at *) <;> (try simp only [i_lt, i_le, i_eq, i_cl, LN32, LN64, LT32, LT64, t_add, t_sub, t_mul, t_neg, j_lt, j_le, j_eq, j_i2l, j_neg] at *) <;> omega), by (try dsimp only) <;> first | trivial | assumption | rfl | omega | ((try simp only [lg_cmp_lt, lg_cmp_le, lg_cmp_gt, lg_cmp_ge, lg_cmp_eq] at *) <;> (try simp only [i_lt, i_le, i_eq, i_cl, LN32, LN64, LT32, LT64, t_add, t_sub, t_mul, t_neg, j_lt, j_le, j_eq, j_i2l, j_neg] at *) <;> omega), by (try dsimp only) <;> first | trivial | assumption | rfl | omega | ((try simp only [lg_cmp_lt, lg_cmp_le, lg_cmp_gt, lg_cmp_ge, lg_cmp_eq] at *) <;> (try simp only [i_lt, i_le, i_eq, i_cl, LN32, LN64, LT32, LT64, t_add, t_sub, t_mul, t_neg, j_lt, j_le, j_eq, j_i2l, j_neg] at *) <;> omega)⟩
          · skip
            refine ok_ite (fun c_7 => ?_) (fun c_7 => ?_)
            · skip
              unfold f_X3_number_B113
              exact ok_some ⟨by (try dsimp only) <;> first | trivial | assumption | rfl | omega | ((try simp only [lg_cmp_lt, lg_cmp_le, lg_cmp_gt, lg_cmp_ge, lg_cmp_eq] at *) <;> (try simp only [i_lt, i_le, i_eq, i_cl, LN32, LN64, LT32, LT64, t_add, t_sub, t_mul, t_neg, j_lt, j_le, j_eq, j_i2l, j_neg] at *) <;> omega), by (try dsimp only) <;> first | trivial | assumption | rfl | omega | ((try simp only [lg_cmp_lt, lg_cmp_le, lg_cmp_gt, lg_cmp_ge, lg_cmp_eq] at *) <;> (try simp only [i_lt, i_le, i_eq, i_cl, LN32, LN64, LT32, LT64, t_add, t_sub, t_mul, t_neg, j_lt, j_le, j_eq, j_i2l, j_neg] at *) <;> omega), by (try dsimp only) <;> first | trivial | assumption | rfl | omega | ((try simp only [lg_cmp_lt, lg_cmp_le, lg_cmp_gt, lg_cmp_ge, lg_cmp_eq] at *) <;> (try simp only [i_lt, i_le, i_eq, i_cl, LN32, LN64, LT32, LT64, t_add, t_sub, t_mul, t_neg, j_lt, j_le, j_eq, j_i2l, j_neg] at *) <;> omega)⟩
            · skip
              refine ok_ite (fun c_8 => ?_) (fun c_8 => ?_)
              · skip
                unfold f_X3_number_B113
                exact ok_some ⟨by (try dsimp only) <;> first | trivial | assumption | rfl | omega | ((try simp only [lg_cmp_lt, lg_cmp_le, lg_cmp_gt, lg_cmp_ge, lg_cmp_eq] at *) <;> (try simp only [i_lt, i_le, i_eq, i_cl, LN32, LN64, LT32, LT64, t_add, t_sub, t_mul, t_neg, j_lt, j_le, j_eq, j_i2l, j_neg] at *) <;> omega), by (try dsimp only) <;> first | trivial | assumption | rfl | omega | ((try simp only [lg_cmp_lt, lg_cmp_le, lg_cmp_gt, lg_cmp_ge, lg_cmp_eq] at *) <;> (try simp only [i_lt, i_le, i_eq, i_cl, LN32, LN64, LT32, LT64, t_add, t_sub, t_mul, t_neg, j_lt, j_le, j_eq, j_i2l, j_neg] at *) <;> omega), by (try dsimp only) <;> first | trivial | assumption | rfl | omega | ((try simp only [lg_cmp_lt, lg_cmp_le, lg_cmp_gt, lg_cmp_ge, lg_cmp_eq] at *) <;> (try simp only [i_lt, i_le, i_eq, i_cl, LN32, LN64, LT32, LT64, t_add, t_sub, t_mul, t_neg, j_lt, j_le, j_eq, j_i2l, j_neg] at *) <;> omega)⟩
              · skip
                exact ok_some ⟨by (try dsimp only) <;> first | trivial | assumption | rfl | omega | ((try simp only [lg_cmp_lt, lg_cmp_le, lg_cmp_gt, lg_cmp_ge, lg_cmp_eq] at *) <;> (try simp only [i_lt, i_le, i_eq, i_cl, LN32, LN64, LT32, LT64, t_add, t_sub, t_mul, t_neg, j_lt, j_le, j_eq, j_i2l, j_neg] at *) <;> omega), by (try dsimp only) <;> first | trivial | assumption | rfl | omega | ((try simp only [lg_cmp_lt, lg_cmp_le, lg_cmp_gt, lg_cmp_ge, lg_cmp_eq] at *) <;> (try simp only [i_lt, i_le, i_eq, i_cl, LN32, LN64, LT32, LT64, t_add, t_sub, t_mul, t_neg, j_lt, j_le, j_eq, j_i2l, j_neg] at *) <;> omega), by (try dsimp only) <;> first | trivial | assumption | rfl | omega | ((try simp only [lg_cmp_lt, lg_cmp_le, lg_cmp_gt, lg_cmp_ge, lg_cmp_eq] at *) <;> (try simp only [i_lt, i_le, i_eq, i_cl, LN32, LN64, LT32, LT64, t_add, t_sub, t_mul, t_neg, j_lt, j_le, j_eq, j_i2l, j_neg] at *) <;> omega)⟩
        · skip
          refine ok_chk (by first | trivial | assumption | rfl | omega | ((try simp only [lg_cmp_lt, lg_cmp_le, lg_cmp_gt, lg_cmp_ge, lg_cmp_eq] at *) <;> (try simp only [i_lt, i_le, i_eq, i_cl, LN32, LN64, LT32, LT64, t_add, t_sub, t_mul, t_neg, j_lt, j_le, j_eq, j_i2l, j_neg] at *) <;> omega)) ?_
          refine ok_ite (fun c_9 => ?_) (fun c_9 => ?_)
          · skip
            unfold f_X3_number_B90
            refine ok_ite (fun c_10 => ?_) (fun c_10 => ?_)
            · skip
              unfold f_X3_number_B113
              exact ok_some ⟨by (try dsimp only) <;> first | trivial | assumption | rfl | omega | ((try simp only [lg_cmp_lt, lg_cmp_le, lg_cmp_gt, lg_cmp_ge, lg_cmp_eq] at *) <;> (try simp only [i_lt, i_le, i_eq, i_cl, LN32, LN64, LT32, LT64, t_add, t_sub, t_mul, t_neg, j_lt, j_le, j_eq, j_i2l, j_neg] at *) <;> omega), by (try dsimp only) <;> first | trivial | assumption | rfl | omega | ((try simp only [lg_cmp_lt, lg_cmp_le, lg_cmp_gt, lg_cmp_ge, lg_cmp_eq] at *) <;> (try simp only [i_lt, i_le, i_eq, i_cl, LN32, LN64, LT32, LT64, t_add, t_sub, t_mul, t_neg, j_lt, j_le, j_eq, j_i2l, j_neg] at *) <;> omega), by (try dsimp only) <;> first | trivial | assumption | rfl | omega | ((try simp only [lg_cmp_lt, lg_cmp_le, lg_cmp_gt, lg_cmp_ge, lg_cmp_eq] at *) <;> (try simp only [i_lt, i_le, i_eq, i_cl, LN32, LN64, LT32, LT64, t_add, t_sub, t_mul, t_neg, j_lt, j_le, j_eq, j_i2l, j_neg] at *) <;> omega)⟩
            · skip
              refine ok_ite (fun c_11 => ?_) (fun c_11 => ?_)
              · skip
                unfold f_X3_number_B113
                exact ok_some ⟨by (try dsimp only) <;> first | trivial | assumption | rfl | omega | ((try simp only [lg_cmp_lt, lg_cmp_le, lg_cmp_gt, lg_cmp_ge, lg_cmp_eq] at *) <;> (try simp only [i_lt, i_le, i_eq, i_cl, LN32, LN64, LT32, LT64, t_add, t_sub, t_mul, t_neg, j_lt, j_le, j_eq, j_i2l, j_neg] at *) <;> omega), by (try dsimp only) <;> first | trivial | assumption | rfl | omega | ((try simp only [lg_cmp_lt, lg_cmp_le, lg_cmp_gt, lg_cmp_ge, lg_cmp_eq] at *) <;> (try simp only [i_lt, i_le, i_eq, i_cl, LN32, LN64, LT32, LT64, t_add, t_sub, t_mul, t_neg, j_lt, j_le, j_eq, j_i2l, j_neg] at *) <;> omega), by (try dsimp only) <;> first | trivial | assumption | rfl | omega | ((try simp only [lg_cmp_lt, lg_cmp_le, lg_cmp_gt, lg_cmp_ge, lg_cmp_eq] at *) <;> (try simp only [i_lt, i_le, i_eq, i_cl, LN32, LN64, LT32, LT64, t_add, t_sub, t_mul, t_neg, j_lt, j_le, j_eq, j_i2l, j_neg] at *) <;> omega)⟩
              · skip
                refine ok_ite (fun c_12 => ?_) (fun c_12 => ?_)
                · skip
                  unfold f_X3_number_B113
                  exact ok_some ⟨by (try dsimp only) <;> first | trivial | assumption | rfl | omega | ((try simp only [lg_cmp_lt, lg_cmp_le, lg_cmp_gt, lg_cmp_ge, lg_cmp_eq] at *) <;> (try simp only [i_lt, i_le, i_eq, i_cl, LN32, LN64, LT32, LT64, t_add, t_sub, t_mul, t_neg, j_lt, j_le, j_eq, j_i2l, j_neg] at *) <;> omega), by (try dsimp only) <;> first | trivial | assumption | rfl | omega | ((try simp only [lg_cmp_lt, lg_cmp_le, lg_cmp_gt, lg_cmp_ge, lg_cmp_eq] at *) <;> (try simp only [i_lt, i_le, i_eq, i_cl, LN32, LN64, LT32, LT64, t_add, t_sub, t_mul, t_neg, j_lt, j_le, j_eq, j_i2l, j_neg] at *) <;> omega), by (try dsimp only) <;> first | trivial | assumption | rfl | omega | ((try simp only [lg_cmp_lt, lg_cmp_le, lg_cmp_gt, lg_cmp_ge, lg_cmp_eq] at *) <;> (try simp only [i_lt, i_le, i_eq, i_cl, LN32, LN64, LT32, LT64, t_add, t_sub, t_mul, t_neg, j_lt, j_le, j_eq, j_i2l, j_neg] at *) <;> omega)⟩
                · skip
                  exact ok_some ⟨by (try dsimp only) <;> first | trivial | assumption | rfl | omega | ((try simp only [lg_cmp_lt, lg_cmp_le, lg_cmp_gt, lg_cmp_ge, lg_cmp_eq] at *) <;> (try simp only [i_lt, i_le, i_eq, i_cl, LN32, LN64, LT32, LT64, t_add, t_sub, t_mul, t_neg, j_lt, j_le, j_eq, j_i2l, j_neg] at *) <;> omega), by (try dsimp only) <;> first | trivial | assumption | rfl | omega | ((try simp only [lg_cmp_lt, lg_cmp_le, lg_cmp_gt, lg_cmp_ge, lg_cmp_eq] at *) <;> (try simp only [i_lt, i_le, i_eq, i_cl, LN32, LN64, LT32, LT64, t_add, t_sub, t_mul, t_neg, j_lt, j_le, j_eq, j_i2l, j_neg] at *) <;> omega), by (try dsimp only) <;> first | trivial | assumption | rfl | omega | ((try simp only [lg_cmp_lt, lg_cmp_le, lg_cmp_gt, lg_cmp_ge, lg_cmp_eq] at *) <;> (try simp only [i_lt, i_le, i_eq, i_cl, LN32, LN64, LT32, LT64, t_add, t_sub, t_mul, t_neg, j_lt, j_le, j_eq, j_i2l, j_neg] at *) <;> omega)⟩
          · skip
            refine ok_chk (by first | trivial | assumption | rfl | omega | ((try simp only [lg_cmp_lt, lg_cmp_le, lg_cmp_gt, lg_cmp_ge, lg_cmp_eq] at *) <;> (try simp only [i_lt, i_le, i_eq, i_cl, LN32, LN64, LT32, LT64, t_add, t_sub, t_mul, t_neg, j_lt, j_le, j_eq, j_i2l, j_neg] at *) <;> omega)) ?_
            refine ok_nmx (fun x_13 hx_13 => ?_)
            refine ok_nmx (fun x_14 hx_14 => ?_)
            exact ih12 v1 v2 v3 x_13 x_14 (by first | trivial | assumption | rfl | omega | ((try simp only [lg_cmp_lt, lg_cmp_le, lg_cmp_gt, lg_cmp_ge, lg_cmp_eq] at *) <;> (try simp only [i_lt, i_le, i_eq, i_cl, LN32, LN64, LT32, LT64, t_add, t_sub, t_mul, t_neg, j_lt, j_le, j_eq, j_i2l, j_neg] at *) <;> omega)) (by first | trivial | assumption | rfl | omega | ((try simp only [lg_cmp_lt, lg_cmp_le, lg_cmp_gt, lg_cmp_ge, lg_cmp_eq] at *) <;> (try simp only [i_lt, i_le, i_eq, i_cl, LN32, LN64, LT32, LT64, t_add, t_sub, t_mul, t_neg, j_lt, j_le, j_eq, j_i2l, j_neg] at *) <;> omega)) (by first | trivial | assumption | rfl | omega | ((try simp only [lg_cmp_lt, lg_cmp_le, lg_cmp_gt, lg_cmp_ge, lg_cmp_eq] at *) <;> (try simp only [i_lt, i_le, i_eq, i_cl, LN32, LN64, LT32, LT64, t_add, t_sub, t_mul, t_neg, j_lt, j_le, j_eq, j_i2l, j_neg] at *) <;> omega)) (by first | trivial | assumption | rfl | omega | ((try simp only [lg_cmp_lt, lg_cmp_le, lg_cmp_gt, lg_cmp_ge, lg_cmp_eq] at *) <;> (try simp only [i_lt, i_le, i_eq, i_cl, LN32, LN64, LT32, LT64, t_add, t_sub, t_mul, t_neg, j_lt, j_le, j_eq, j_i2l, j_neg] at *) <;> omega)) (by first | trivial | assumption | rfl | omega | ((try simp only [lg_cmp_lt, lg_cmp_le, lg_cmp_gt, lg_cmp_ge, lg_cmp_eq] at *) <;> (try simp only [i_lt, i_le, i_eq, i_cl, LN32, LN64, LT32, LT64, t_add, t_sub, t_mul, t_neg, j_lt, j_le, j_eq, j_i2l, j_neg] at *) <;> omega)) (by first | trivial | assumption | rfl | omega | ((try simp only [lg_cmp_lt, lg_cmp_le, lg_cmp_gt, lg_cmp_ge, lg_cmp_eq] at *) <;> (try simp only [i_lt, i_le, i_eq, i_cl, LN32, LN64, LT32, LT64, t_add, t_sub, t_mul, t_neg, j_lt, j_le, j_eq, j_i2l, j_neg] at *) <;> omega)) (by first | trivial | assumption | rfl | omega | ((try simp only [lg_cmp_lt, lg_cmp_le, lg_cmp_gt, lg_cmp_ge, lg_cmp_eq] at *) <;> (try simp only [i_lt, i_le, i_eq, i_cl, LN32, LN64, LT32, LT64, t_add, t_sub, t_mul, t_neg, j_lt, j_le, j_eq, j_i2l, j_neg] at *) <;> omega))
  unfold f_X3_number
  refine ok_bd1 (s_X3_skipBlanks o_length o_place o_bytes (by first | trivial | assumption | rfl | omega | ((try simp only [lg_cmp_lt, lg_cmp_le, lg_cmp_gt, lg_cmp_ge, lg_cmp_eq] at *) <;> (try simp only [i_lt, i_le, i_eq, i_cl, LN32, LN64, LT32, LT64, t_add, t_sub, t_mul, t_neg, j_lt, j_le, j_eq, j_i2l, j_neg] at *) <;> omega)) (by first | trivial | assumption | rfl | omega | ((try simp only [lg_cmp_lt, lg_cmp_le, lg_cmp_gt, lg_cmp_ge, lg_cmp_eq] at *) <;> (try simp only [i_lt, i_le, i_eq, i_cl, LN32, LN64, LT32, LT64, t_add, t_sub, t_mul, t_neg, j_lt, j_le, j_eq, j_i2l, j_neg] at *) <;> omega)) (by first | trivial | assumption | rfl | omega | ((try simp only [lg_cmp_lt, lg_cmp_le, lg_cmp_gt, lg_cmp_ge, lg_cmp_eq] at *) <;> (try simp only [i_lt, i_le, i_eq, i_cl, LN32, LN64, LT32, LT64, t_add, t_sub, t_mul, t_neg, j_lt, j_le, j_eq, j_i2l, j_neg] at *) <;> omega)) (by first | trivial | assumption | rfl | omega | ((try simp only [lg_cmp_lt, lg_cmp_le, lg_cmp_gt, lg_cmp_ge, lg_cmp_eq] at *) <;> (try simp only [i_lt, i_le, i_eq, i_cl, LN32, LN64, LT32, LT64, t_add, t_sub, t_mul, t_neg, j_lt, j_le, j_eq, j_i2l, j_neg] at *) <;> omega))) (fun w_15 q_16 => ?_)
  obtain ⟨q_16_0, q_16_1⟩ := q_16
  try dsimp only at q_16_0
  try dsimp only at q_16_1
  exact l12 FU x1 x2 w_15 0 w_15 (FU_gt (by omega)) (by first | trivial | assumption | rfl | omega | ((try simp only [lg_cmp_lt, lg_cmp_le, lg_cmp_gt, lg_cmp_ge, lg_cmp_eq] at *) <;> (try simp only [i_lt, i_le, i_eq, i_cl, LN32, LN64, LT32, LT64, t_add, t_sub, t_mul, t_neg, j_lt, j_le, j_eq, j_i2l, j_neg] at *) <;> omega)) (by first | trivial | assumption | rfl | omega | ((try simp only [lg_cmp_lt, lg_cmp_le, lg_cmp_gt, lg_cmp_ge, lg_cmp_eq] at *) <;> (try simp only [i_lt, i_le, i_eq, i_cl, LN32, LN64, LT32, LT64, t_add, t_sub, t_mul, t_neg, j_lt, j_le, j_eq, j_i2l, j_neg] at *) <;> omega)) (by first | trivial | assumption | rfl | omega | ((try simp only [lg_cmp_lt, lg_cmp_le, lg_cmp_gt, lg_cmp_ge, lg_cmp_eq] at *) <;> (try simp only [i_lt, i_le, i_eq, i_cl, LN32, LN64, LT32, LT64, t_add, t_sub, t_mul, t_neg, j_lt, j_le, j_eq, j_i2l, j_neg] at *) <;> omega)) (by first | trivial | assumption | rfl | omega | ((try simp only [lg_cmp_lt, lg_cmp_le, lg_cmp_gt, lg_cmp_ge, lg_cmp_eq] at *) <;> (try simp only [i_lt, i_le, i_eq, i_cl, LN32, LN64, LT32, LT64, t_add, t_sub, t_mul, t_neg, j_lt, j_le, j_eq, j_i2l, j_neg] at *) <;> omega)) (by first | trivial | assumption | rfl | omega | ((try simp only [lg_cmp_lt, lg_cmp_le, lg_cmp_gt, lg_cmp_ge, lg_cmp_eq] at *) <;> (try simp only [i_lt, i_le, i_eq, i_cl, LN32, LN64, LT32, LT64, t_add, t_sub, t_mul, t_neg, j_lt, j_le, j_eq, j_i2l, j_neg] at *) <;> omega)) (by first | trivial | assumption | rfl | omega | ((try simp only [lg_cmp_lt, lg_cmp_le, lg_cmp_gt, lg_cmp_ge, lg_cmp_eq] at *) <;> (try simp only [i_lt, i_le, i_eq, i_cl, LN32, LN64, LT32, LT64, t_add, t_sub, t_mul, t_neg, j_lt, j_le, j_eq, j_i2l, j_neg] at *) <;> omega))
set_option maxRecDepth 100000 in
set_option maxHeartbeats 4000000 in
theorem s_X3_scanRing (x1 : Int32) (o_length : Int32) (o_place : Int32) (o_bytes : Nat → Int32) (o_newFar : Nat → Int32) (o_newTones : Nat → Int32) (h0 : 0 ≤ (o_length).toInt) (h1 : (o_length).toInt ≤ 60) (h2 : 0 ≤ o_place.toInt) (h3 : o_place.toInt ≤ o_length.toInt) (h4 : 1 ≤ (x1).toInt) (h5 : (x1).toInt ≤ 6) : okP (f_X3_scanRing x1 o_length o_place o_bytes o_newFar o_newTones) (fun u => (0 ≤ u.2.1.toInt) ∧ (u.2.1.toInt ≤ o_length.toInt) ∧ (u.1.toInt = 0 ∨ u.1.toInt = 1)) := by
  unfold f_X3_scanRing
  refine ok_chk (by first | trivial | assumption | rfl | omega | ((try simp only [lg_cmp_lt, lg_cmp_le, lg_cmp_gt, lg_cmp_ge, lg_cmp_eq] at *) <;> (try simp only [i_lt, i_le, i_eq, i_cl, LN32, LN64, LT32, LT64, t_add, t_sub, t_mul, t_neg, j_lt, j_le, j_eq, j_i2l, j_neg] at *) <;> omega)) ?_
  refine ok_bd2 (s_X3_passes 63 o_length o_place o_bytes (by first | trivial | assumption | rfl | omega | ((try simp only [lg_cmp_lt, lg_cmp_le, lg_cmp_gt, lg_cmp_ge, lg_cmp_eq] at *) <;> (try simp only [i_lt, i_le, i_eq, i_cl, LN32, LN64, LT32, LT64, t_add, t_sub, t_mul, t_neg, j_lt, j_le, j_eq, j_i2l, j_neg] at *) <;> omega)) (by first | trivial | assumption | rfl | omega | ((try simp only [lg_cmp_lt, lg_cmp_le, lg_cmp_gt, lg_cmp_ge, lg_cmp_eq] at *) <;> (try simp only [i_lt, i_le, i_eq, i_cl, LN32, LN64, LT32, LT64, t_add, t_sub, t_mul, t_neg, j_lt, j_le, j_eq, j_i2l, j_neg] at *) <;> omega)) (by first | trivial | assumption | rfl | omega | ((try simp only [lg_cmp_lt, lg_cmp_le, lg_cmp_gt, lg_cmp_ge, lg_cmp_eq] at *) <;> (try simp only [i_lt, i_le, i_eq, i_cl, LN32, LN64, LT32, LT64, t_add, t_sub, t_mul, t_neg, j_lt, j_le, j_eq, j_i2l, j_neg] at *) <;> omega)) (by first | trivial | assumption | rfl | omega | ((try simp only [lg_cmp_lt, lg_cmp_le, lg_cmp_gt, lg_cmp_ge, lg_cmp_eq] at *) <;> (try simp only [i_lt, i_le, i_eq, i_cl, LN32, LN64, LT32, LT64, t_add, t_sub, t_mul, t_neg, j_lt, j_le, j_eq, j_i2l, j_neg] at *) <;> omega))) (fun r_1 w_2 q_3 => ?_)
  obtain ⟨q_3_0, q_3_1, q_3_2⟩ := q_3
  try dsimp only at q_3_0
  try dsimp only at q_3_1
  try dsimp only at q_3_2
  refine ok_ite (fun c_4 => ?_) (fun c_4 => ?_)
  · skip
    refine ok_bd2 (s_X3_number 0 40 o_length w_2 o_bytes (by first | trivial | assumption | rfl | omega | ((try simp only [lg_cmp_lt, lg_cmp_le, lg_cmp_gt, lg_cmp_ge, lg_cmp_eq] at *) <;> (try simp only [i_lt, i_le, i_eq, i_cl, LN32, LN64, LT32, LT64, t_add, t_sub, t_mul, t_neg, j_lt, j_le, j_eq, j_i2l, j_neg] at *) <;> omega)) (by first | trivial | assumption | rfl | omega | ((try simp only [lg_cmp_lt, lg_cmp_le, lg_cmp_gt, lg_cmp_ge, lg_cmp_eq] at *) <;> (try simp only [i_lt, i_le, i_eq, i_cl, LN32, LN64, LT32, LT64, t_add, t_sub, t_mul, t_neg, j_lt, j_le, j_eq, j_i2l, j_neg] at *) <;> omega)) (by first | trivial | assumption | rfl | omega | ((try simp only [lg_cmp_lt, lg_cmp_le, lg_cmp_gt, lg_cmp_ge, lg_cmp_eq] at *) <;> (try simp only [i_lt, i_le, i_eq, i_cl, LN32, LN64, LT32, LT64, t_add, t_sub, t_mul, t_neg, j_lt, j_le, j_eq, j_i2l, j_neg] at *) <;> omega)) (by first | trivial | assumption | rfl | omega | ((try simp only [lg_cmp_lt, lg_cmp_le, lg_cmp_gt, lg_cmp_ge, lg_cmp_eq] at *) <;> (try simp only [i_lt, i_le, i_eq, i_cl, LN32, LN64, LT32, LT64, t_add, t_sub, t_mul, t_neg, j_lt, j_le, j_eq, j_i2l, j_neg] at *) <;> omega))) (fun r_5 w_6 q_7 => ?_)
    obtain ⟨q_7_0, q_7_1, q_7_2⟩ := q_7
    try dsimp only at q_7_0
    try dsimp only at q_7_1
    try dsimp only at q_7_2
    refine ok_ite (fun c_8 => ?_) (fun c_8 => ?_)
    · skip
      exact ok_some ⟨by (try dsimp only) <;> first | trivial | assumption | rfl | omega | ((try simp only [lg_cmp_lt, lg_cmp_le, lg_cmp_gt, lg_cmp_ge, lg_cmp_eq] at *) <;> (try simp only [i_lt, i_le, i_eq, i_cl, LN32, LN64, LT32, LT64, t_add, t_sub, t_mul, t_neg, j_lt, j_le, j_eq, j_i2l, j_neg] at *) <;> omega), by (try dsimp only) <;> first | trivial | assumption | rfl | omega | ((try simp only [lg_cmp_lt, lg_cmp_le, lg_cmp_gt, lg_cmp_ge, lg_cmp_eq] at *) <;> (try simp only [i_lt, i_le, i_eq, i_cl, LN32, LN64, LT32, LT64, t_add, t_sub, t_mul, t_neg, j_lt, j_le, j_eq, j_i2l, j_neg] at *) <;> omega), by (try dsimp only) <;> first | trivial | assumption | rfl | omega | ((try simp only [lg_cmp_lt, lg_cmp_le, lg_cmp_gt, lg_cmp_ge, lg_cmp_eq] at *) <;> (try simp only [i_lt, i_le, i_eq, i_cl, LN32, LN64, LT32, LT64, t_add, t_sub, t_mul, t_neg, j_lt, j_le, j_eq, j_i2l, j_neg] at *) <;> omega)⟩
    · skip
      refine ok_chk (by first | trivial | assumption | rfl | omega | ((try simp only [lg_cmp_lt, lg_cmp_le, lg_cmp_gt, lg_cmp_ge, lg_cmp_eq] at *) <;> (try simp only [i_lt, i_le, i_eq, i_cl, LN32, LN64, LT32, LT64, t_add, t_sub, t_mul, t_neg, j_lt, j_le, j_eq, j_i2l, j_neg] at *) <;> omega)) ?_
      unfold f_X3_scanRing_B38
      refine ok_bd2 (s_X3_passes 43 o_length w_6 o_bytes (by first | trivial | assumption | rfl | omega | ((try simp only [lg_cmp_lt, lg_cmp_le, lg_cmp_gt, lg_cmp_ge, lg_cmp_eq] at *) <;> (try simp only [i_lt, i_le, i_eq, i_cl, LN32, LN64, LT32, LT64, t_add, t_sub, t_mul, t_neg, j_lt, j_le, j_eq, j_i2l, j_neg] at *) <;> omega)) (by first | trivial | assumption | rfl | omega | ((try simp only [lg_cmp_lt, lg_cmp_le, lg_cmp_gt, lg_cmp_ge, lg_cmp_eq] at *) <;> (try simp only [i_lt, i_le, i_eq, i_cl, LN32, LN64, LT32, LT64, t_add, t_sub, t_mul, t_neg, j_lt, j_le, j_eq, j_i2l, j_neg] at *) <;> omega)) (by first | trivial | assumption | rfl | omega | ((try simp only [lg_cmp_lt, lg_cmp_le, lg_cmp_gt, lg_cmp_ge, lg_cmp_eq] at *) <;> (try simp only [i_lt, i_le, i_eq, i_cl, LN32, LN64, LT32, LT64, t_add, t_sub, t_mul, t_neg, j_lt, j_le, j_eq, j_i2l, j_neg] at *) <;> omega)) (by first | trivial | assumption | rfl | omega | ((try simp only [lg_cmp_lt, lg_cmp_le, lg_cmp_gt, lg_cmp_ge, lg_cmp_eq] at *) <;> (try simp only [i_lt, i_le, i_eq, i_cl, LN32, LN64, LT32, LT64, t_add, t_sub, t_mul, t_neg, j_lt, j_le, j_eq, j_i2l, j_neg] at *) <;> omega))) (fun r_9 w_10 q_11 => ?_)
      obtain ⟨q_11_0, q_11_1, q_11_2⟩ := q_11
      try dsimp only at q_11_0
      try dsimp only at q_11_1
      try dsimp only at q_11_2
      refine ok_ite (fun c_12 => ?_) (fun c_12 => ?_)
      · skip
        refine ok_bd2 (s_X3_passes 45 o_length w_10 o_bytes (by first | trivial | assumption | rfl | omega | ((try simp only [lg_cmp_lt, lg_cmp_le, lg_cmp_gt, lg_cmp_ge, lg_cmp_eq] at *) <;> (try simp only [i_lt, i_le, i_eq, i_cl, LN32, LN64, LT32, LT64, t_add, t_sub, t_mul, t_neg, j_lt, j_le, j_eq, j_i2l, j_neg] at *) <;> omega)) (by first | trivial | assumption | rfl | omega | ((try simp only [lg_cmp_lt, lg_cmp_le, lg_cmp_gt, lg_cmp_ge, lg_cmp_eq] at *) <;> (try simp only [i_lt, i_le, i_eq, i_cl, LN32, LN64, LT32, LT64, t_add, t_sub, t_mul, t_neg, j_lt, j_le, j_eq, j_i2l, j_neg] at *) <;> omega)) (by first | trivial | assumption | rfl | omega | ((try simp only [lg_cmp_lt, lg_cmp_le, lg_cmp_gt, lg_cmp_ge, lg_cmp_eq] at *) <;> (try simp only [i_lt, i_le, i_eq, i_cl, LN32, LN64, LT32, LT64, t_add, t_sub, t_mul, t_neg, j_lt, j_le, j_eq, j_i2l, j_neg] at *) <;> omega)) (by first | trivial | assumption | rfl | omega | ((try simp only [lg_cmp_lt, lg_cmp_le, lg_cmp_gt, lg_cmp_ge, lg_cmp_eq] at *) <;> (try simp only [i_lt, i_le, i_eq, i_cl, LN32, LN64, LT32, LT64, t_add, t_sub, t_mul, t_neg, j_lt, j_le, j_eq, j_i2l, j_neg] at *) <;> omega))) (fun r_13 w_14 q_15 => ?_)
        obtain ⟨q_15_0, q_15_1, q_15_2⟩ := q_15
        try dsimp only at q_15_0
        try dsimp only at q_15_1
        try dsimp only at q_15_2
        refine ok_ite (fun c_16 => ?_) (fun c_16 => ?_)
        · skip
          unfold f_X3_scanRing_B70
          refine ok_chk (by first | trivial | assumption | rfl | omega | ((try simp only [lg_cmp_lt, lg_cmp_le, lg_cmp_gt, lg_cmp_ge, lg_cmp_eq] at *) <;> (try simp only [i_lt, i_le, i_eq, i_cl, LN32, LN64, LT32, LT64, t_add, t_sub, t_mul, t_neg, j_lt, j_le, j_eq, j_i2l, j_neg] at *) <;> omega)) ?_
          exact ok_some ⟨by (try dsimp only) <;> first | trivial | assumption | rfl | omega | ((try simp only [lg_cmp_lt, lg_cmp_le, lg_cmp_gt, lg_cmp_ge, lg_cmp_eq] at *) <;> (try simp only [i_lt, i_le, i_eq, i_cl, LN32, LN64, LT32, LT64, t_add, t_sub, t_mul, t_neg, j_lt, j_le, j_eq, j_i2l, j_neg] at *) <;> omega), by (try dsimp only) <;> first | trivial | assumption | rfl | omega | ((try simp only [lg_cmp_lt, lg_cmp_le, lg_cmp_gt, lg_cmp_ge, lg_cmp_eq] at *) <;> (try simp only [i_lt, i_le, i_eq, i_cl, LN32, LN64, LT32, LT64, t_add, t_sub, t_mul, t_neg, j_lt, j_le, j_eq, j_i2l, j_neg] at *) <;> omega), by (try dsimp only) <;> first | trivial | assumption | rfl | omega | ((try simp only [lg_cmp_lt, lg_cmp_le, lg_cmp_gt, lg_cmp_ge, lg_cmp_eq] at *) <;> (try simp only [i_lt, i_le, i_eq, i_cl, LN32, LN64, LT32, LT64, t_add, t_sub, t_mul, t_neg, j_lt, j_le, j_eq, j_i2l, j_neg] at *) <;> omega)⟩
        · skip
          unfold f_X3_scanRing_B70
          refine ok_chk (by first | trivial | assumption | rfl | omega | ((try simp only [lg_cmp_lt, lg_cmp_le, lg_cmp_gt, lg_cmp_ge, lg_cmp_eq] at *) <;> (try simp only [i_lt, i_le, i_eq, i_cl, LN32, LN64, LT32, LT64, t_add, t_sub, t_mul, t_neg, j_lt, j_le, j_eq, j_i2l, j_neg] at *) <;> omega)) ?_
          exact ok_some ⟨by (try dsimp only) <;> first | trivial | assumption | rfl | omega | ((try simp only [lg_cmp_lt, lg_cmp_le, lg_cmp_gt, lg_cmp_ge, lg_cmp_eq] at *) <;> (try simp only [i_lt, i_le, i_eq, i_cl, LN32, LN64, LT32, LT64, t_add, t_sub, t_mul, t_neg, j_lt, j_le, j_eq, j_i2l, j_neg] at *) <;> omega), by (try dsimp only) <;> first | trivial | assumption | rfl | omega | ((try simp only [lg_cmp_lt, lg_cmp_le, lg_cmp_gt, lg_cmp_ge, lg_cmp_eq] at *) <;> (try simp only [i_lt, i_le, i_eq, i_cl, LN32, LN64, LT32, LT64, t_add, t_sub, t_mul, t_neg, j_lt, j_le, j_eq, j_i2l, j_neg] at *) <;> omega), by (try dsimp only) <;> first | trivial | assumption | rfl | omega | ((try simp only [lg_cmp_lt, lg_cmp_le, lg_cmp_gt, lg_cmp_ge, lg_cmp_eq] at *) <;> (try simp only [i_lt, i_le, i_eq, i_cl, LN32, LN64, LT32, LT64, t_add, t_sub, t_mul, t_neg, j_lt, j_le, j_eq, j_i2l, j_neg] at *) <;> omega)⟩
      · skip
        unfold f_X3_scanRing_B70
        refine ok_chk (by first | trivial | assumption | rfl | omega | ((try simp only [lg_cmp_lt, lg_cmp_le, lg_cmp_gt, lg_cmp_ge, lg_cmp_eq] at *) <;> (try simp only [i_lt, i_le, i_eq, i_cl, LN32, LN64, LT32, LT64, t_add, t_sub, t_mul, t_neg, j_lt, j_le, j_eq, j_i2l, j_neg] at *) <;> omega)) ?_
        exact ok_some ⟨by (try dsimp only) <;> first | trivial | assumption | rfl | omega | ((try simp only [lg_cmp_lt, lg_cmp_le, lg_cmp_gt, lg_cmp_ge, lg_cmp_eq] at *) <;> (try simp only [i_lt, i_le, i_eq, i_cl, LN32, LN64, LT32, LT64, t_add, t_sub, t_mul, t_neg, j_lt, j_le, j_eq, j_i2l, j_neg] at *) <;> omega), by (try dsimp only) <;> first | trivial | assumption | rfl | omega | ((try simp only [lg_cmp_lt, lg_cmp_le, lg_cmp_gt, lg_cmp_ge, lg_cmp_eq] at *) <;> (try simp only [i_lt, i_le, i_eq, i_cl, LN32, LN64, LT32, LT64, t_add, t_sub, t_mul, t_neg, j_lt, j_le, j_eq, j_i2l, j_neg] at *) <;> omega), by (try dsimp only) <;> first | trivial | assumption | rfl | omega | ((try simp only [lg_cmp_lt, lg_cmp_le, lg_cmp_gt, lg_cmp_ge, lg_cmp_eq] at *) <;> (try simp only [i_lt, i_le, i_eq, i_cl, LN32, LN64, LT32, LT64, t_add, t_sub, t_mul, t_neg, j_lt, j_le, j_eq, j_i2l, j_neg] at *) <;> omega)⟩
  · skip
    unfold f_X3_scanRing_B38
    refine ok_bd2 (s_X3_passes 43 o_length w_2 o_bytes (by first | trivial | assumption | rfl | omega | ((try simp only [lg_cmp_lt, lg_cmp_le, lg_cmp_gt, lg_cmp_ge, lg_cmp_eq] at *) <;> (try simp only [i_lt, i_le, i_eq, i_cl, LN32, LN64, LT32, LT64, t_add, t_sub, t_mul, t_neg, j_lt, j_le, j_eq, j_i2l, j_neg] at *) <;> omega)) (by first | trivial | assumption | rfl | omega | ((try simp only [lg_cmp_lt, lg_cmp_le, lg_cmp_gt, lg_cmp_ge, lg_cmp_eq] at *) <;> (try simp only [i_lt, i_le, i_eq, i_cl, LN32, LN64, LT32, LT64, t_add, t_sub, t_mul, t_neg, j_lt, j_le, j_eq, j_i2l, j_neg] at *) <;> omega)) (by first | trivial | assumption | rfl | omega | ((try simp only [lg_cmp_lt, lg_cmp_le, lg_cmp_gt, lg_cmp_ge, lg_cmp_eq] at *) <;> (try simp only [i_lt, i_le, i_eq, i_cl, LN32, LN64, LT32, LT64, t_add, t_sub, t_mul, t_neg, j_lt, j_le, j_eq, j_i2l, j_neg] at *) <;> omega)) (by first | trivial | assumption | rfl | omega | ((try simp only [lg_cmp_lt, lg_cmp_le, lg_cmp_gt, lg_cmp_ge, lg_cmp_eq] at *) <;> (try simp only [i_lt, i_le, i_eq, i_cl, LN32, LN64, LT32, LT64, t_add, t_sub, t_mul, t_neg, j_lt, j_le, j_eq, j_i2l, j_neg] at *) <;> omega))) (fun r_17 w_18 q_19 => ?_)
    obtain ⟨q_19_0, q_19_1, q_19_2⟩ := q_19
    try dsimp only at q_19_0
    try dsimp only at q_19_1
    try dsimp only at q_19_2
    refine ok_ite (fun c_20 => ?_) (fun c_20 => ?_)
    · skip
      refine ok_bd2 (s_X3_passes 45 o_length w_18 o_bytes (by first | trivial | assumption | rfl | omega | ((try simp only [lg_cmp_lt, lg_cmp_le, lg_cmp_gt, lg_cmp_ge, lg_cmp_eq] at *) <;> (try simp only [i_lt, i_le, i_eq, i_cl, LN32, LN64, LT32, LT64, t_add, t_sub, t_mul, t_neg, j_lt, j_le, j_eq, j_i2l, j_neg] at *) <;> omega)) (by first | trivial | assumption | rfl | omega | ((try simp only [lg_cmp_lt, lg_cmp_le, lg_cmp_gt, lg_cmp_ge, lg_cmp_eq] at *) <;> (try simp only [i_lt, i_le, i_eq, i_cl, LN32, LN64, LT32, LT64, t_add, t_sub, t_mul, t_neg, j_lt, j_le, j_eq, j_i2l, j_neg] at *) <;> omega)) (by first | trivial | assumption | rfl | omega | ((try simp only [lg_cmp_lt, lg_cmp_le, lg_cmp_gt, lg_cmp_ge, lg_cmp_eq] at *) <;> (try simp only [i_lt, i_le, i_eq, i_cl, LN32, LN64, LT32, LT64, t_add, t_sub, t_mul, t_neg, j_lt, j_le, j_eq, j_i2l, j_neg] at *) <;> omega)) (by first | trivial | assumption | rfl | omega | ((try simp only [lg_cmp_lt, lg_cmp_le, lg_cmp_gt, lg_cmp_ge, lg_cmp_eq] at *) <;> (try simp only [i_lt, i_le, i_eq, i_cl, LN32, LN64, LT32, LT64, t_add, t_sub, t_mul, t_neg, j_lt, j_le, j_eq, j_i2l, j_neg] at *) <;> omega))) (fun r_21 w_22 q_23 => ?_)
      obtain ⟨q_23_0, q_23_1, q_23_2⟩ := q_23
      try dsimp only at q_23_0
      try dsimp only at q_23_1
      try dsimp only at q_23_2
      refine ok_ite (fun c_24 => ?_) (fun c_24 => ?_)
      · skip
        unfold f_X3_scanRing_B70
        refine ok_chk (by first | trivial | assumption | rfl | omega | ((try simp only [lg_cmp_lt, lg_cmp_le, lg_cmp_gt, lg_cmp_ge, lg_cmp_eq] at *) <;> (try simp only [i_lt, i_le, i_eq, i_cl, LN32, LN64, LT32, LT64, t_add, t_sub, t_mul, t_neg, j_lt, j_le, j_eq, j_i2l, j_neg] at *) <;> omega)) ?_
        exact ok_some ⟨by (try dsimp only) <;> first | trivial | assumption | rfl | omega | ((try simp only [lg_cmp_lt, lg_cmp_le, lg_cmp_gt, lg_cmp_ge, lg_cmp_eq] at *) <;> (try simp only [i_lt, i_le, i_eq, i_cl, LN32, LN64, LT32, LT64, t_add, t_sub, t_mul, t_neg, j_lt, j_le, j_eq, j_i2l, j_neg] at *) <;> omega), by (try dsimp only) <;> first | trivial | assumption | rfl | omega | ((try simp only [lg_cmp_lt, lg_cmp_le, lg_cmp_gt, lg_cmp_ge, lg_cmp_eq] at *) <;> (try simp only [i_lt, i_le, i_eq, i_cl, LN32, LN64, LT32, LT64, t_add, t_sub, t_mul, t_neg, j_lt, j_le, j_eq, j_i2l, j_neg] at *) <;> omega), by (try dsimp only) <;> first | trivial | assumption | rfl | omega | ((try simp only [lg_cmp_lt, lg_cmp_le, lg_cmp_gt, lg_cmp_ge, lg_cmp_eq] at *) <;> (try simp only [i_lt, i_le, i_eq, i_cl, LN32, LN64, LT32, LT64, t_add, t_sub, t_mul, t_neg, j_lt, j_le, j_eq, j_i2l, j_neg] at *) <;> omega)⟩
      · skip
        unfold f_X3_scanRing_B70
        refine ok_chk (by first | trivial | assumption | rfl | omega | ((try simp only [lg_cmp_lt, lg_cmp_le, lg_cmp_gt, lg_cmp_ge, lg_cmp_eq] at *) <;> (try simp only [i_lt, i_le, i_eq, i_cl, LN32, LN64, LT32, LT64, t_add, t_sub, t_mul, t_neg, j_lt, j_le, j_eq, j_i2l, j_neg] at *) <;> omega)) ?_
        exact ok_some ⟨by (try dsimp only) <;> first | trivial | assumption | rfl | omega | ((try simp only [lg_cmp_lt, lg_cmp_le, lg_cmp_gt, lg_cmp_ge, lg_cmp_eq] at *) <;> (try simp only [i_lt, i_le, i_eq, i_cl, LN32, LN64, LT32, LT64, t_add, t_sub, t_mul, t_neg, j_lt, j_le, j_eq, j_i2l, j_neg] at *) <;> omega), by (try dsimp only) <;> first | trivial | assumption | rfl | omega | ((try simp only [lg_cmp_lt, lg_cmp_le, lg_cmp_gt, lg_cmp_ge, lg_cmp_eq] at *) <;> (try simp only [i_lt, i_le, i_eq, i_cl, LN32, LN64, LT32, LT64, t_add, t_sub, t_mul, t_neg, j_lt, j_le, j_eq, j_i2l, j_neg] at *) <;> omega), by (try dsimp only) <;> first | trivial | assumption | rfl | omega | ((try simp only [lg_cmp_lt, lg_cmp_le, lg_cmp_gt, lg_cmp_ge, lg_cmp_eq] at *) <;> (try simp only [i_lt, i_le, i_eq, i_cl, LN32, LN64, LT32, LT64, t_add, t_sub, t_mul, t_neg, j_lt, j_le, j_eq, j_i2l, j_neg] at *) <;> omega)⟩
    · skip
      unfold f_X3_scanRing_B70
      refine ok_chk (by first | trivial | assumption | rfl | omega | ((try simp only [lg_cmp_lt, lg_cmp_le, lg_cmp_gt, lg_cmp_ge, lg_cmp_eq] at *) <;> (try simp only [i_lt, i_le, i_eq, i_cl, LN32, LN64, LT32, LT64, t_add, t_sub, t_mul, t_neg, j_lt, j_le, j_eq, j_i2l, j_neg] at *) <;> omega)) ?_
      exact ok_some ⟨by (try dsimp only) <;> first | trivial | assumption | rfl | omega | ((try simp only [lg_cmp_lt, lg_cmp_le, lg_cmp_gt, lg_cmp_ge, lg_cmp_eq] at *) <;> (try simp only [i_lt, i_le, i_eq, i_cl, LN32, LN64, LT32, LT64, t_add, t_sub, t_mul, t_neg, j_lt, j_le, j_eq, j_i2l, j_neg] at *) <;> omega), by (try dsimp only) <;> first | trivial | assumption | rfl | omega | ((try simp only [lg_cmp_lt, lg_cmp_le, lg_cmp_gt, lg_cmp_ge, lg_cmp_eq] at *) <;> (try simp only [i_lt, i_le, i_eq, i_cl, LN32, LN64, LT32, LT64, t_add, t_sub, t_mul, t_neg, j_lt, j_le, j_eq, j_i2l, j_neg] at *) <;> omega), by (try dsimp only) <;> first | trivial | assumption | rfl | omega | ((try simp only [lg_cmp_lt, lg_cmp_le, lg_cmp_gt, lg_cmp_ge, lg_cmp_eq] at *) <;> (try simp only [i_lt, i_le, i_eq, i_cl, LN32, LN64, LT32, LT64, t_add, t_sub, t_mul, t_neg, j_lt, j_le, j_eq, j_i2l, j_neg] at *) <;> omega)⟩
