set_option maxRecDepth 100000 in
set_option maxHeartbeats 4000000 in
theorem s_X7_rings (o_taped : Int32) (o_at : Int32) (o_wrong : Int32) (o_ringFar : Nat → Int32) (o_ringTone : Nat → Int32) (o_tape : Nat → Int32) (o_readFar : Nat → Int32) (o_readTone : Nat → Int32) (t0 : Int32) (h0 : 0 ≤ (o_taped).toInt) (h1 : (o_taped).toInt ≤ 60) (h2 : o_taped.toInt = t0.toInt) : okP (f_X7_rings o_taped o_at o_wrong o_ringFar o_ringTone o_tape o_readFar o_readTone) (fun u => (u.2.1.toInt = 0)) := by
  have l298 : ∀ (n : Nat) (v1 : Int32) (v4 : Int32) (o_taped : Int32) (o_at : Int32) (o_wrong : Int32) (o_ringFar : Nat → Int32) (o_ringTone : Nat → Int32) (o_readFar : Nat → Int32) (o_readTone : Nat → Int32), (7 - v4.toInt).toNat < n → (1 ≤ v4.toInt) → (v4.toInt ≤ 7) → (o_taped.toInt = 0) → okP (f_X7_rings_L298 n v1 v4 o_taped o_at o_wrong o_ringFar o_ringTone o_tape o_readFar o_readTone) (fun u => (u.2.1.toInt = 0)) := by
    intro n
    induction n with
    | zero =>
      intro v1 v4 o_taped o_at o_wrong o_ringFar o_ringTone o_readFar o_readTone hm
      exact absurd hm (Nat.not_lt_zero _)
    | succ n298 ih298 =>
      intro v1 v4 o_taped o_at o_wrong o_ringFar o_ringTone o_readFar o_readTone hm298 g298_0 g298_1 g298_2
      show okP (f_X7_rings_L298b (f_X7_rings_L298 n298) v1 v4 o_taped o_at o_wrong o_ringFar o_ringTone o_tape o_readFar o_readTone) (fun u => (u.2.1.toInt = 0))
      unfold f_X7_rings_L298b
      refine ok_ite (fun c_1 => ?_) (fun c_1 => ?_)
      · skip
        have c_1 : (7 : Int) ≤ v4.toInt := i_le.mp c_1
        exact ok_some (show (o_taped.toInt = 0) from by omega)
      · skip
        have c_1 : ¬ (7 : Int) ≤ v4.toInt := fun z => c_1 (i_le.mpr z)
        have ix_2 : ¬ (v4 < 0 ∨ 7 ≤ v4.toNatClampNeg) := ix (show 0 ≤ v4.toInt by omega) (show v4.toInt < (7 : Nat) by omega)
        refine ok_chk ix_2 ?_
        refine ok_nmi (fun x_3 hx_3 kx_3 => ?_)
        refine ok_chk ix_2 ?_
        refine ok_chk ix_2 ?_
        refine ok_nmi (fun x_4 hx_4 kx_4 => ?_)
        refine ok_chk ix_2 ?_
        first | (have f_5 : (v4 + 1).toInt = v4.toInt + (1 : Int) := i_add2 rfl rfl (by omega) (by omega)) | skip
        refine ok_nmi (fun x_6 hx_6 kx_6 => ?_)
        exact ih298 v1 x_6 o_taped o_at o_wrong (upd o_ringFar v4.toNatClampNeg x_3) (upd o_ringTone v4.toNatClampNeg x_4) o_readFar o_readTone (show (7 - x_6.toInt).toNat < n298 by omega) (show 1 ≤ x_6.toInt by omega) (show x_6.toInt ≤ 7 by omega) (show o_taped.toInt = 0 by omega)
  have l54 : ∀ (n : Nat) (v1 : Int32) (v2 : Int32) (v3 : Int32) (o_taped : Int32) (o_at : Int32) (o_wrong : Int32) (o_ringFar : Nat → Int32) (o_ringTone : Nat → Int32) (o_readFar : Nat → Int32) (o_readTone : Nat → Int32), (7 - v1.toInt).toNat < n → (0 ≤ (v1).toInt) → ((v1).toInt ≤ 6) → (0 ≤ (v2).toInt) → ((v2).toInt ≤ 6) → (v3.toInt = 0 ∨ (v3.toInt = 1 ∧ v1.toInt ≤ 5)) → (o_taped.toInt = t0.toInt) → (0 ≤ o_at.toInt) → (o_at.toInt ≤ o_taped.toInt) → okP (f_X7_rings_L54 n v1 v2 v3 o_taped o_at o_wrong o_ringFar o_ringTone o_tape o_readFar o_readTone) (fun u => (u.2.1.toInt = 0)) := by
    intro n
    induction n with
    | zero =>
      intro v1 v2 v3 o_taped o_at o_wrong o_ringFar o_ringTone o_readFar o_readTone hm
      exact absurd hm (Nat.not_lt_zero _)
    | succ n54 ih54 =>
      have b245 : ∀ (v1 : Int32) (v2 : Int32) (v3 : Int32) (y0 : Int32) (y1 : Int32) (o_taped : Int32) (o_at : Int32) (o_wrong : Int32) (o_ringFar : Nat → Int32) (o_ringTone : Nat → Int32) (o_readFar : Nat → Int32) (o_readTone : Nat → Int32), (1 ≤ (v1).toInt) → ((v1).toInt ≤ 6) → (0 ≤ (v2).toInt) → ((v2).toInt ≤ 6) → (o_taped.toInt = t0.toInt) → (0 ≤ o_at.toInt) → (o_at.toInt ≤ o_taped.toInt) → ((7 - v1.toInt).toNat < n54) → (v3.toInt = 0 ∨ (v3.toInt = 1 ∧ v1.toInt ≤ 5)) → (y1.toInt = o_at.toInt) → (y0.toInt = 0 ∨ (y0.toInt = 1 ∧ o_at.toInt < o_taped.toInt)) → okP (f_X7_rings_B245 (f_X7_rings_L54 n54) v1 v2 v3 y0 y1 o_taped o_at o_wrong o_ringFar o_ringTone o_tape o_readFar o_readTone) (fun u => (u.2.1.toInt = 0)) := by
        intro v1 v2 v3 y0 y1 o_taped o_at o_wrong o_ringFar o_ringTone o_readFar o_readTone e245_0 e245_1 e245_2 e245_3 e245_4 e245_5 e245_6 e245_7 e245_8 e245_9 e245_10
        unfold f_X7_rings_B245
        first | (have f_7 : (y1 + y0).toInt = y1.toInt + y0.toInt := i_add2 rfl rfl (by omega) (by omega)) | skip
        refine ok_nmi (fun x_8 hx_8 kx_8 => ?_)
        exact ih54 v1 v2 v3 o_taped x_8 o_wrong o_ringFar o_ringTone o_readFar o_readTone (show (7 - v1.toInt).toNat < n54 by omega) (show 0 ≤ (v1).toInt by omega) (show (v1).toInt ≤ 6 by omega) (show 0 ≤ (v2).toInt by omega) (show (v2).toInt ≤ 6 by omega) (show v3.toInt = 0 ∨ (v3.toInt = 1 ∧ v1.toInt ≤ 5) by omega) (show o_taped.toInt = t0.toInt by omega) (show 0 ≤ x_8.toInt by omega) (show x_8.toInt ≤ o_taped.toInt by omega)
      have b196 : ∀ (v1 : Int32) (v2 : Int32) (y0 : Int32) (y1 : Int32) (o_taped : Int32) (o_at : Int32) (o_wrong : Int32) (o_ringFar : Nat → Int32) (o_ringTone : Nat → Int32) (o_readFar : Nat → Int32) (o_readTone : Nat → Int32), (0 ≤ (v1).toInt) → ((v1).toInt ≤ 5) → (0 ≤ (v2).toInt) → ((v2).toInt ≤ 6) → (o_taped.toInt = t0.toInt) → (0 ≤ o_at.toInt) → (o_at.toInt ≤ o_taped.toInt) → ((7 - v1.toInt).toNat < n54 + 1) → (y1.toInt = o_at.toInt) → (y0.toInt = 0 ∨ (y0.toInt = 1 ∧ o_at.toInt < o_taped.toInt)) → okP (f_X7_rings_B196 (f_X7_rings_L54 n54) v1 v2 y0 y1 o_taped o_at o_wrong o_ringFar o_ringTone o_tape o_readFar o_readTone) (fun u => (u.2.1.toInt = 0)) := by
        intro v1 v2 y0 y1 o_taped o_at o_wrong o_ringFar o_ringTone o_readFar o_readTone e196_0 e196_1 e196_2 e196_3 e196_4 e196_5 e196_6 e196_7 e196_8 e196_9
        unfold f_X7_rings_B196
        first | (have f_9 : (y1 + y0).toInt = y1.toInt + y0.toInt := i_add2 rfl rfl (by omega) (by omega)) | skip
        refine ok_nmi (fun x_10 hx_10 kx_10 => ?_)
        first | (have f_11 : (v1 + 1).toInt = v1.toInt + (1 : Int) := i_add2 rfl rfl (by omega) (by omega)) | skip
        refine ok_nmi (fun x_12 hx_12 kx_12 => ?_)
        refine ok_ite (fun c_13 => ?_) (fun c_13 => ?_)
        · skip
          have c_13 : o_wrong.toInt = (0 : Int) := i_eq.mp c_13
          refine ok_ite (fun c_14 => ?_) (fun c_14 => ?_)
          · skip
            have c_14 : (6 : Int) ≤ x_12.toInt := i_le.mp c_14
            unfold f_X7_rings_B229
            unfold f_X7_rings_B230
            refine ok_ite (fun c_15 => ?_) (fun c_15 => ?_)
            · skip
              exact b245 x_12 v2 0 0 x_10 o_taped x_10 o_wrong o_ringFar o_ringTone o_readFar o_readTone (show 1 ≤ (x_12).toInt by omega) (show (x_12).toInt ≤ 6 by omega) (show 0 ≤ (v2).toInt by omega) (show (v2).toInt ≤ 6 by omega) (show o_taped.toInt = t0.toInt by omega) (show 0 ≤ x_10.toInt by omega) (show x_10.toInt ≤ o_taped.toInt by omega) (show (7 - x_12.toInt).toNat < n54 by omega) (show (0 : Int) = 0 ∨ ((0 : Int) = 1 ∧ x_12.toInt ≤ 5) by omega) (show x_10.toInt = x_10.toInt by omega) (show (0 : Int) = 0 ∨ ((0 : Int) = 1 ∧ x_10.toInt < o_taped.toInt) by omega)
            · skip
              exact absurd c_15 (by decide)
          · skip
            have c_14 : ¬ (6 : Int) ≤ x_12.toInt := fun z => c_14 (i_le.mpr z)
            refine ok_bd2 (s_X7_here o_taped x_10 o_tape (show 0 ≤ (o_taped).toInt by omega) (show (o_taped).toInt ≤ 60 by omega) (show 0 ≤ x_10.toInt by omega) (show x_10.toInt ≤ o_taped.toInt by omega)) (fun r_16 w_17 q_18 => ?_)
            obtain ⟨q_18_0, q_18_1, q_18_2, q_18_3, q_18_4, q_18_5⟩ : (0 ≤ w_17.toInt) ∧ (w_17.toInt ≤ o_taped.toInt) ∧ (x_10.toInt ≤ w_17.toInt) ∧ (r_16.toInt = 0 ∧ w_17.toInt = o_taped.toInt ∨ (w_17.toInt < o_taped.toInt ∧ r_16.toInt = (o_tape w_17.toNatClampNeg).toInt ∧ ¬ r_16.toInt = 32)) ∧ (x_10.toInt < o_taped.toInt → ¬ (o_tape x_10.toNatClampNeg).toInt = 32 → w_17.toInt = x_10.toInt ∧ r_16.toInt = (o_tape x_10.toNatClampNeg).toInt) ∧ (∀ j : Nat, x_10.toInt ≤ (j : Int) → (j : Int) < w_17.toInt → (o_tape j).toInt = 32) := q_18
            refine ok_ite (fun c_19 => ?_) (fun c_19 => ?_)
            · skip
              have c_19 : r_16.toInt = (59 : Int) := i_eq.mp c_19
              unfold f_X7_rings_B230
              refine ok_ite (fun c_20 => ?_) (fun c_20 => ?_)
              · skip
                exact absurd c_20 (by decide)
              · skip
                exact b245 x_12 v2 1 1 w_17 o_taped w_17 o_wrong o_ringFar o_ringTone o_readFar o_readTone (show 1 ≤ (x_12).toInt by omega) (show (x_12).toInt ≤ 6 by omega) (show 0 ≤ (v2).toInt by omega) (show (v2).toInt ≤ 6 by omega) (show o_taped.toInt = t0.toInt by omega) (show 0 ≤ w_17.toInt by omega) (show w_17.toInt ≤ o_taped.toInt by omega) (show (7 - x_12.toInt).toNat < n54 by omega) (show (1 : Int) = 0 ∨ ((1 : Int) = 1 ∧ x_12.toInt ≤ 5) by omega) (show w_17.toInt = w_17.toInt by omega) (show (1 : Int) = 0 ∨ ((1 : Int) = 1 ∧ w_17.toInt < o_taped.toInt) by omega)
            · skip
              have c_19 : ¬ r_16.toInt = (59 : Int) := fun z => c_19 (i_eq.mpr z)
              unfold f_X7_rings_B229
              unfold f_X7_rings_B230
              refine ok_ite (fun c_21 => ?_) (fun c_21 => ?_)
              · skip
                exact b245 x_12 v2 0 0 w_17 o_taped w_17 o_wrong o_ringFar o_ringTone o_readFar o_readTone (show 1 ≤ (x_12).toInt by omega) (show (x_12).toInt ≤ 6 by omega) (show 0 ≤ (v2).toInt by omega) (show (v2).toInt ≤ 6 by omega) (show o_taped.toInt = t0.toInt by omega) (show 0 ≤ w_17.toInt by omega) (show w_17.toInt ≤ o_taped.toInt by omega) (show (7 - x_12.toInt).toNat < n54 by omega) (show (0 : Int) = 0 ∨ ((0 : Int) = 1 ∧ x_12.toInt ≤ 5) by omega) (show w_17.toInt = w_17.toInt by omega) (show (0 : Int) = 0 ∨ ((0 : Int) = 1 ∧ w_17.toInt < o_taped.toInt) by omega)
              · skip
                exact absurd c_21 (by decide)
        · skip
          have c_13 : ¬ o_wrong.toInt = (0 : Int) := fun z => c_13 (i_eq.mpr z)
          unfold f_X7_rings_B229
          unfold f_X7_rings_B230
          refine ok_ite (fun c_22 => ?_) (fun c_22 => ?_)
          · skip
            exact b245 x_12 v2 0 0 x_10 o_taped x_10 o_wrong o_ringFar o_ringTone o_readFar o_readTone (show 1 ≤ (x_12).toInt by omega) (show (x_12).toInt ≤ 6 by omega) (show 0 ≤ (v2).toInt by omega) (show (v2).toInt ≤ 6 by omega) (show o_taped.toInt = t0.toInt by omega) (show 0 ≤ x_10.toInt by omega) (show x_10.toInt ≤ o_taped.toInt by omega) (show (7 - x_12.toInt).toNat < n54 by omega) (show (0 : Int) = 0 ∨ ((0 : Int) = 1 ∧ x_12.toInt ≤ 5) by omega) (show x_10.toInt = x_10.toInt by omega) (show (0 : Int) = 0 ∨ ((0 : Int) = 1 ∧ x_10.toInt < o_taped.toInt) by omega)
          · skip
            exact absurd c_22 (by decide)
      have b144 : ∀ (v1 : Int32) (v2 : Int32) (v4 : Int32) (y0 : Int32) (o_taped : Int32) (o_at : Int32) (o_wrong : Int32) (o_ringFar : Nat → Int32) (o_ringTone : Nat → Int32) (o_readFar : Nat → Int32) (o_readTone : Nat → Int32), (0 ≤ (v1).toInt) → ((v1).toInt ≤ 5) → (0 ≤ (v2).toInt) → ((v2).toInt ≤ 6) → (0 ≤ (v4).toInt) → ((v4).toInt ≤ 6) → (o_taped.toInt = t0.toInt) → (0 ≤ o_at.toInt) → (o_at.toInt ≤ o_taped.toInt) → ((7 - v1.toInt).toNat < n54 + 1) → (y0.toInt = 0 ∨ o_at.toInt < o_taped.toInt) → okP (f_X7_rings_B144 (f_X7_rings_L54 n54) v1 v2 v4 y0 o_taped o_at o_wrong o_ringFar o_ringTone o_tape o_readFar o_readTone) (fun u => (u.2.1.toInt = 0)) := by
        intro v1 v2 v4 y0 o_taped o_at o_wrong o_ringFar o_ringTone o_readFar o_readTone e144_0 e144_1 e144_2 e144_3 e144_4 e144_5 e144_6 e144_7 e144_8 e144_9 e144_10
        unfold f_X7_rings_B144
        refine ok_ite (fun c_23 => ?_) (fun c_23 => ?_)
        · skip
          have c_23 : y0.toInt = (43 : Int) := i_eq.mp c_23
          unfold f_X7_rings_B175
          have ix_24 : ¬ (v4 < 0 ∨ 7 ≤ v4.toNatClampNeg) := ix (show 0 ≤ v4.toInt by omega) (show v4.toInt < (7 : Nat) by omega)
          refine ok_chk ix_24 ?_
          refine ok_chk ix_24 ?_
          have up_25 : ((upd o_readTone v4.toNatClampNeg 2) v4.toNatClampNeg).toInt = (2 : Int) := congrArg Int32.toInt upd_is
          refine ok_ite (fun c_26 => ?_) (fun c_26 => ?_)
          · skip
            have c_26 : ((upd o_readTone v4.toNatClampNeg 2) v4.toNatClampNeg).toInt ≤ (0 : Int) := i_le.mp c_26
            exact b196 v1 v2 0 o_at o_taped o_at o_wrong o_ringFar o_ringTone o_readFar (upd o_readTone v4.toNatClampNeg 2) (show 0 ≤ (v1).toInt by omega) (show (v1).toInt ≤ 5 by omega) (show 0 ≤ (v2).toInt by omega) (show (v2).toInt ≤ 6 by omega) (show o_taped.toInt = t0.toInt by omega) (show 0 ≤ o_at.toInt by omega) (show o_at.toInt ≤ o_taped.toInt by omega) (show (7 - v1.toInt).toNat < n54 + 1 by omega) (show o_at.toInt = o_at.toInt by omega) (show (0 : Int) = 0 ∨ ((0 : Int) = 1 ∧ o_at.toInt < o_taped.toInt) by omega)
          · skip
            have c_26 : ¬ ((upd o_readTone v4.toNatClampNeg 2) v4.toNatClampNeg).toInt ≤ (0 : Int) := fun z => c_26 (i_le.mpr z)
            exact b196 v1 v2 1 o_at o_taped o_at o_wrong o_ringFar o_ringTone o_readFar (upd o_readTone v4.toNatClampNeg 2) (show 0 ≤ (v1).toInt by omega) (show (v1).toInt ≤ 5 by omega) (show 0 ≤ (v2).toInt by omega) (show (v2).toInt ≤ 6 by omega) (show o_taped.toInt = t0.toInt by omega) (show 0 ≤ o_at.toInt by omega) (show o_at.toInt ≤ o_taped.toInt by omega) (show (7 - v1.toInt).toNat < n54 + 1 by omega) (show o_at.toInt = o_at.toInt by omega) (show (1 : Int) = 0 ∨ ((1 : Int) = 1 ∧ o_at.toInt < o_taped.toInt) by omega)
        · skip
          have c_23 : ¬ y0.toInt = (43 : Int) := fun z => c_23 (i_eq.mpr z)
          refine ok_ite (fun c_27 => ?_) (fun c_27 => ?_)
          · skip
            have c_27 : y0.toInt = (45 : Int) := i_eq.mp c_27
            unfold f_X7_rings_B175
            have ix_28 : ¬ (v4 < 0 ∨ 7 ≤ v4.toNatClampNeg) := ix (show 0 ≤ v4.toInt by omega) (show v4.toInt < (7 : Nat) by omega)
            refine ok_chk ix_28 ?_
            refine ok_chk ix_28 ?_
            have up_29 : ((upd o_readTone v4.toNatClampNeg 1) v4.toNatClampNeg).toInt = (1 : Int) := congrArg Int32.toInt upd_is
            refine ok_ite (fun c_30 => ?_) (fun c_30 => ?_)
            · skip
              have c_30 : ((upd o_readTone v4.toNatClampNeg 1) v4.toNatClampNeg).toInt ≤ (0 : Int) := i_le.mp c_30
              exact b196 v1 v2 0 o_at o_taped o_at o_wrong o_ringFar o_ringTone o_readFar (upd o_readTone v4.toNatClampNeg 1) (show 0 ≤ (v1).toInt by omega) (show (v1).toInt ≤ 5 by omega) (show 0 ≤ (v2).toInt by omega) (show (v2).toInt ≤ 6 by omega) (show o_taped.toInt = t0.toInt by omega) (show 0 ≤ o_at.toInt by omega) (show o_at.toInt ≤ o_taped.toInt by omega) (show (7 - v1.toInt).toNat < n54 + 1 by omega) (show o_at.toInt = o_at.toInt by omega) (show (0 : Int) = 0 ∨ ((0 : Int) = 1 ∧ o_at.toInt < o_taped.toInt) by omega)
            · skip
              have c_30 : ¬ ((upd o_readTone v4.toNatClampNeg 1) v4.toNatClampNeg).toInt ≤ (0 : Int) := fun z => c_30 (i_le.mpr z)
              exact b196 v1 v2 1 o_at o_taped o_at o_wrong o_ringFar o_ringTone o_readFar (upd o_readTone v4.toNatClampNeg 1) (show 0 ≤ (v1).toInt by omega) (show (v1).toInt ≤ 5 by omega) (show 0 ≤ (v2).toInt by omega) (show (v2).toInt ≤ 6 by omega) (show o_taped.toInt = t0.toInt by omega) (show 0 ≤ o_at.toInt by omega) (show o_at.toInt ≤ o_taped.toInt by omega) (show (7 - v1.toInt).toNat < n54 + 1 by omega) (show o_at.toInt = o_at.toInt by omega) (show (1 : Int) = 0 ∨ ((1 : Int) = 1 ∧ o_at.toInt < o_taped.toInt) by omega)
          · skip
            have c_27 : ¬ y0.toInt = (45 : Int) := fun z => c_27 (i_eq.mpr z)
            unfold f_X7_rings_B175
            have ix_31 : ¬ (v4 < 0 ∨ 7 ≤ v4.toNatClampNeg) := ix (show 0 ≤ v4.toInt by omega) (show v4.toInt < (7 : Nat) by omega)
            refine ok_chk ix_31 ?_
            refine ok_chk ix_31 ?_
            have up_32 : ((upd o_readTone v4.toNatClampNeg 0) v4.toNatClampNeg).toInt = (0 : Int) := congrArg Int32.toInt upd_is
            refine ok_ite (fun c_33 => ?_) (fun c_33 => ?_)
            · skip
              have c_33 : ((upd o_readTone v4.toNatClampNeg 0) v4.toNatClampNeg).toInt ≤ (0 : Int) := i_le.mp c_33
              exact b196 v1 v2 0 o_at o_taped o_at o_wrong o_ringFar o_ringTone o_readFar (upd o_readTone v4.toNatClampNeg 0) (show 0 ≤ (v1).toInt by omega) (show (v1).toInt ≤ 5 by omega) (show 0 ≤ (v2).toInt by omega) (show (v2).toInt ≤ 6 by omega) (show o_taped.toInt = t0.toInt by omega) (show 0 ≤ o_at.toInt by omega) (show o_at.toInt ≤ o_taped.toInt by omega) (show (7 - v1.toInt).toNat < n54 + 1 by omega) (show o_at.toInt = o_at.toInt by omega) (show (0 : Int) = 0 ∨ ((0 : Int) = 1 ∧ o_at.toInt < o_taped.toInt) by omega)
            · skip
              have c_33 : ¬ ((upd o_readTone v4.toNatClampNeg 0) v4.toNatClampNeg).toInt ≤ (0 : Int) := fun z => c_33 (i_le.mpr z)
              exact b196 v1 v2 1 o_at o_taped o_at o_wrong o_ringFar o_ringTone o_readFar (upd o_readTone v4.toNatClampNeg 0) (show 0 ≤ (v1).toInt by omega) (show (v1).toInt ≤ 5 by omega) (show 0 ≤ (v2).toInt by omega) (show (v2).toInt ≤ 6 by omega) (show o_taped.toInt = t0.toInt by omega) (show 0 ≤ o_at.toInt by omega) (show o_at.toInt ≤ o_taped.toInt by omega) (show (7 - v1.toInt).toNat < n54 + 1 by omega) (show o_at.toInt = o_at.toInt by omega) (show (1 : Int) = 0 ∨ ((1 : Int) = 1 ∧ o_at.toInt < o_taped.toInt) by omega)
      have b94 : ∀ (v1 : Int32) (v2 : Int32) (v4 : Int32) (y0 : Int32) (o_taped : Int32) (o_at : Int32) (o_wrong : Int32) (o_ringFar : Nat → Int32) (o_ringTone : Nat → Int32) (o_readFar : Nat → Int32) (o_readTone : Nat → Int32), (0 ≤ (v1).toInt) → ((v1).toInt ≤ 5) → (0 ≤ (v2).toInt) → ((v2).toInt ≤ 6) → (0 ≤ (v4).toInt) → ((v4).toInt ≤ 6) → (o_taped.toInt = t0.toInt) → (0 ≤ o_at.toInt) → (o_at.toInt ≤ o_taped.toInt) → ((7 - v1.toInt).toNat < n54 + 1) → (y0.toInt = 1 ∨ (y0.toInt = 0 ∧ o_at.toInt < o_taped.toInt)) → okP (f_X7_rings_B94 (f_X7_rings_L54 n54) v1 v2 v4 y0 o_taped o_at o_wrong o_ringFar o_ringTone o_tape o_readFar o_readTone) (fun u => (u.2.1.toInt = 0)) := by
        intro v1 v2 v4 y0 o_taped o_at o_wrong o_ringFar o_ringTone o_readFar o_readTone e94_0 e94_1 e94_2 e94_3 e94_4 e94_5 e94_6 e94_7 e94_8 e94_9 e94_10
        unfold f_X7_rings_B94
        refine ok_chk (b01 (show y0.toInt = 0 ∨ y0.toInt = 1 by omega)) ?_
        refine ok_ite (fun c_34 => ?_) (fun c_34 => ?_)
        · skip
          have c_34 : y0.toInt = (0 : Int) := i_eq.mp c_34
          unfold f_X7_rings_B114
          first | (have f_35 : (o_at + 1).toInt = o_at.toInt + (1 : Int) := i_add2 rfl rfl (by omega) (by omega)) | skip
          refine ok_nmi (fun x_36 hx_36 kx_36 => ?_)
          refine ok_bd3 (s_X7_number o_taped x_36 y0 o_tape (show 0 ≤ (o_taped).toInt by omega) (show (o_taped).toInt ≤ 60 by omega) (show 0 ≤ x_36.toInt by omega) (show x_36.toInt ≤ o_taped.toInt by omega)) (fun r_37 w_38 w_39 q_40 => ?_)
          obtain ⟨q_40_0, q_40_1⟩ : (0 ≤ w_38.toInt) ∧ (w_38.toInt ≤ o_taped.toInt) := q_40
          have ix_41 : ¬ (v4 < 0 ∨ 7 ≤ v4.toNatClampNeg) := ix (show 0 ≤ v4.toInt by omega) (show v4.toInt < (7 : Nat) by omega)
          refine ok_chk ix_41 ?_
          refine ok_ite (fun c_42 => ?_) (fun c_42 => ?_)
          · skip
            have c_42 : w_39.toInt = (0 : Int) := i_eq.mp c_42
            refine ok_bd2 (s_X7_here o_taped w_38 o_tape (show 0 ≤ (o_taped).toInt by omega) (show (o_taped).toInt ≤ 60 by omega) (show 0 ≤ w_38.toInt by omega) (show w_38.toInt ≤ o_taped.toInt by omega)) (fun r_43 w_44 q_45 => ?_)
            obtain ⟨q_45_0, q_45_1, q_45_2, q_45_3, q_45_4, q_45_5⟩ : (0 ≤ w_44.toInt) ∧ (w_44.toInt ≤ o_taped.toInt) ∧ (w_38.toInt ≤ w_44.toInt) ∧ (r_43.toInt = 0 ∧ w_44.toInt = o_taped.toInt ∨ (w_44.toInt < o_taped.toInt ∧ r_43.toInt = (o_tape w_44.toNatClampNeg).toInt ∧ ¬ r_43.toInt = 32)) ∧ (w_38.toInt < o_taped.toInt → ¬ (o_tape w_38.toNatClampNeg).toInt = 32 → w_44.toInt = w_38.toInt ∧ r_43.toInt = (o_tape w_38.toNatClampNeg).toInt) ∧ (∀ j : Nat, w_38.toInt ≤ (j : Int) → (j : Int) < w_44.toInt → (o_tape j).toInt = 32) := q_45
            exact b144 v1 v2 v4 r_43 o_taped w_44 w_39 o_ringFar o_ringTone (upd o_readFar v4.toNatClampNeg r_37) o_readTone (show 0 ≤ (v1).toInt by omega) (show (v1).toInt ≤ 5 by omega) (show 0 ≤ (v2).toInt by omega) (show (v2).toInt ≤ 6 by omega) (show 0 ≤ (v4).toInt by omega) (show (v4).toInt ≤ 6 by omega) (show o_taped.toInt = t0.toInt by omega) (show 0 ≤ w_44.toInt by omega) (show w_44.toInt ≤ o_taped.toInt by omega) (show (7 - v1.toInt).toNat < n54 + 1 by omega) (show r_43.toInt = 0 ∨ w_44.toInt < o_taped.toInt by omega)
          · skip
            have c_42 : ¬ w_39.toInt = (0 : Int) := fun z => c_42 (i_eq.mpr z)
            exact b144 v1 v2 v4 0 o_taped w_38 w_39 o_ringFar o_ringTone (upd o_readFar v4.toNatClampNeg r_37) o_readTone (show 0 ≤ (v1).toInt by omega) (show (v1).toInt ≤ 5 by omega) (show 0 ≤ (v2).toInt by omega) (show (v2).toInt ≤ 6 by omega) (show 0 ≤ (v4).toInt by omega) (show (v4).toInt ≤ 6 by omega) (show o_taped.toInt = t0.toInt by omega) (show 0 ≤ w_38.toInt by omega) (show w_38.toInt ≤ o_taped.toInt by omega) (show (7 - v1.toInt).toNat < n54 + 1 by omega) (show (0 : Int) = 0 ∨ w_38.toInt < o_taped.toInt by omega)
        · skip
          have c_34 : ¬ y0.toInt = (0 : Int) := fun z => c_34 (i_eq.mpr z)
          unfold f_X7_rings_B114
          first | (have f_46 : (o_at + 0).toInt = o_at.toInt + (0 : Int) := i_add2 rfl rfl (by omega) (by omega)) | skip
          refine ok_nmi (fun x_47 hx_47 kx_47 => ?_)
          refine ok_bd3 (s_X7_number o_taped x_47 y0 o_tape (show 0 ≤ (o_taped).toInt by omega) (show (o_taped).toInt ≤ 60 by omega) (show 0 ≤ x_47.toInt by omega) (show x_47.toInt ≤ o_taped.toInt by omega)) (fun r_48 w_49 w_50 q_51 => ?_)
          obtain ⟨q_51_0, q_51_1⟩ : (0 ≤ w_49.toInt) ∧ (w_49.toInt ≤ o_taped.toInt) := q_51
          have ix_52 : ¬ (v4 < 0 ∨ 7 ≤ v4.toNatClampNeg) := ix (show 0 ≤ v4.toInt by omega) (show v4.toInt < (7 : Nat) by omega)
          refine ok_chk ix_52 ?_
          refine ok_ite (fun c_53 => ?_) (fun c_53 => ?_)
          · skip
            have c_53 : w_50.toInt = (0 : Int) := i_eq.mp c_53
            refine ok_bd2 (s_X7_here o_taped w_49 o_tape (show 0 ≤ (o_taped).toInt by omega) (show (o_taped).toInt ≤ 60 by omega) (show 0 ≤ w_49.toInt by omega) (show w_49.toInt ≤ o_taped.toInt by omega)) (fun r_54 w_55 q_56 => ?_)
            obtain ⟨q_56_0, q_56_1, q_56_2, q_56_3, q_56_4, q_56_5⟩ : (0 ≤ w_55.toInt) ∧ (w_55.toInt ≤ o_taped.toInt) ∧ (w_49.toInt ≤ w_55.toInt) ∧ (r_54.toInt = 0 ∧ w_55.toInt = o_taped.toInt ∨ (w_55.toInt < o_taped.toInt ∧ r_54.toInt = (o_tape w_55.toNatClampNeg).toInt ∧ ¬ r_54.toInt = 32)) ∧ (w_49.toInt < o_taped.toInt → ¬ (o_tape w_49.toNatClampNeg).toInt = 32 → w_55.toInt = w_49.toInt ∧ r_54.toInt = (o_tape w_49.toNatClampNeg).toInt) ∧ (∀ j : Nat, w_49.toInt ≤ (j : Int) → (j : Int) < w_55.toInt → (o_tape j).toInt = 32) := q_56
            exact b144 v1 v2 v4 r_54 o_taped w_55 w_50 o_ringFar o_ringTone (upd o_readFar v4.toNatClampNeg r_48) o_readTone (show 0 ≤ (v1).toInt by omega) (show (v1).toInt ≤ 5 by omega) (show 0 ≤ (v2).toInt by omega) (show (v2).toInt ≤ 6 by omega) (show 0 ≤ (v4).toInt by omega) (show (v4).toInt ≤ 6 by omega) (show o_taped.toInt = t0.toInt by omega) (show 0 ≤ w_55.toInt by omega) (show w_55.toInt ≤ o_taped.toInt by omega) (show (7 - v1.toInt).toNat < n54 + 1 by omega) (show r_54.toInt = 0 ∨ w_55.toInt < o_taped.toInt by omega)
          · skip
            have c_53 : ¬ w_50.toInt = (0 : Int) := fun z => c_53 (i_eq.mpr z)
            exact b144 v1 v2 v4 0 o_taped w_49 w_50 o_ringFar o_ringTone (upd o_readFar v4.toNatClampNeg r_48) o_readTone (show 0 ≤ (v1).toInt by omega) (show (v1).toInt ≤ 5 by omega) (show 0 ≤ (v2).toInt by omega) (show (v2).toInt ≤ 6 by omega) (show 0 ≤ (v4).toInt by omega) (show (v4).toInt ≤ 6 by omega) (show o_taped.toInt = t0.toInt by omega) (show 0 ≤ w_49.toInt by omega) (show w_49.toInt ≤ o_taped.toInt by omega) (show (7 - v1.toInt).toNat < n54 + 1 by omega) (show (0 : Int) = 0 ∨ w_49.toInt < o_taped.toInt by omega)
      intro v1 v2 v3 o_taped o_at o_wrong o_ringFar o_ringTone o_readFar o_readTone hm54 g54_0 g54_1 g54_2 g54_3 g54_4 g54_5 g54_6 g54_7
      show okP (f_X7_rings_L54b (f_X7_rings_L54 n54) v1 v2 v3 o_taped o_at o_wrong o_ringFar o_ringTone o_tape o_readFar o_readTone) (fun u => (u.2.1.toInt = 0))
      unfold f_X7_rings_L54b
      refine ok_ite (fun c_57 => ?_) (fun c_57 => ?_)
      · skip
        have c_57 : v3.toInt = (0 : Int) := i_eq.mp c_57
        refine ok_ite (fun c_58 => ?_) (fun c_58 => ?_)
        · skip
          have c_58 : o_wrong.toInt = (0 : Int) := i_eq.mp c_58
          refine ok_bd2 (s_X7_here o_taped o_at o_tape (show 0 ≤ (o_taped).toInt by omega) (show (o_taped).toInt ≤ 60 by omega) (show 0 ≤ o_at.toInt by omega) (show o_at.toInt ≤ o_taped.toInt by omega)) (fun r_59 w_60 q_61 => ?_)
          obtain ⟨q_61_0, q_61_1, q_61_2, q_61_3, q_61_4, q_61_5⟩ : (0 ≤ w_60.toInt) ∧ (w_60.toInt ≤ o_taped.toInt) ∧ (o_at.toInt ≤ w_60.toInt) ∧ (r_59.toInt = 0 ∧ w_60.toInt = o_taped.toInt ∨ (w_60.toInt < o_taped.toInt ∧ r_59.toInt = (o_tape w_60.toNatClampNeg).toInt ∧ ¬ r_59.toInt = 32)) ∧ (o_at.toInt < o_taped.toInt → ¬ (o_tape o_at.toNatClampNeg).toInt = 32 → w_60.toInt = o_at.toInt ∧ r_59.toInt = (o_tape o_at.toNatClampNeg).toInt) ∧ (∀ j : Nat, o_at.toInt ≤ (j : Int) → (j : Int) < w_60.toInt → (o_tape j).toInt = 32) := q_61
          refine ok_ite (fun c_62 => ?_) (fun c_62 => ?_)
          · skip
            have c_62 : r_59.toInt = (0 : Int) := i_eq.mp c_62
            unfold f_X7_rings_B272
            refine ok_chk (b01 (show (0 : Int) = 0 ∨ (0 : Int) = 1 by omega)) ?_
            refine ok_ite (fun c_63 => ?_) (fun c_63 => ?_)
            · skip
              exact l298 FU v1 1 0 w_60 0 o_ringFar o_ringTone o_readFar o_readTone (FU_gt (show (7 - (1 : Int)).toNat < 1000000000000 by omega)) (show 1 ≤ (1 : Int) by omega) (show (1 : Int) ≤ 7 by omega) (show (0 : Int) = 0 by omega)
            · skip
              exact absurd c_63 (by decide)
          · skip
            have c_62 : ¬ r_59.toInt = (0 : Int) := fun z => c_62 (i_eq.mpr z)
            unfold f_X7_rings_B267
            unfold f_X7_rings_B272
            refine ok_chk (b01 (show (1 : Int) = 0 ∨ (1 : Int) = 1 by omega)) ?_
            refine ok_ite (fun c_64 => ?_) (fun c_64 => ?_)
            · skip
              exact absurd c_64 (by decide)
            · skip
              first | (have f_65 : ((-20) - w_60).toInt = (-20 : Int) - w_60.toInt := i_sub2 rfl rfl (by omega) (by omega)) | skip
              exact ok_some (show ((0 : Int) = 0) from by omega)
        · skip
          have c_58 : ¬ o_wrong.toInt = (0 : Int) := fun z => c_58 (i_eq.mpr z)
          unfold f_X7_rings_B267
          unfold f_X7_rings_B272
          refine ok_chk (b01 (show (1 : Int) = 0 ∨ (1 : Int) = 1 by omega)) ?_
          refine ok_ite (fun c_66 => ?_) (fun c_66 => ?_)
          · skip
            exact absurd c_66 (by decide)
          · skip
            first | (have f_67 : ((-20) - o_at).toInt = (-20 : Int) - o_at.toInt := i_sub2 rfl rfl (by omega) (by omega)) | skip
            exact ok_some (show ((0 : Int) = 0) from by omega)
      · skip
        have c_57 : ¬ v3.toInt = (0 : Int) := fun z => c_57 (i_eq.mpr z)
        first | (have f_68 : (v2 + 1).toInt = v2.toInt + (1 : Int) := i_add2 rfl rfl (by omega) (by omega)) | skip
        refine ok_bd3 (s_X7_digit (v2 + 1) 6 o_taped o_at o_wrong o_tape (show 0 ≤ ((v2 + 1)).toInt by omega) (show ((v2 + 1)).toInt ≤ 9 by omega) (show 0 ≤ (6 : Int) by omega) (show (6 : Int) ≤ 9 by omega) (show 0 ≤ (o_taped).toInt by omega) (show (o_taped).toInt ≤ 60 by omega) (show 0 ≤ o_at.toInt by omega) (show o_at.toInt ≤ o_taped.toInt by omega)) (fun r_69 w_70 w_71 q_72 => ?_)
        obtain ⟨q_72_0, q_72_1, q_72_2⟩ : (0 ≤ w_70.toInt) ∧ (w_70.toInt ≤ o_taped.toInt) ∧ (r_69.toInt = 0 ∨ ((v2 + 1).toInt ≤ r_69.toInt ∧ r_69.toInt ≤ (6 : Int))) := q_72
        refine ok_ite (fun c_73 => ?_) (fun c_73 => ?_)
        · skip
          have c_73 : w_71.toInt = (0 : Int) := i_eq.mp c_73
          refine ok_bd2 (s_X7_here o_taped w_70 o_tape (show 0 ≤ (o_taped).toInt by omega) (show (o_taped).toInt ≤ 60 by omega) (show 0 ≤ w_70.toInt by omega) (show w_70.toInt ≤ o_taped.toInt by omega)) (fun r_74 w_75 q_76 => ?_)
          obtain ⟨q_76_0, q_76_1, q_76_2, q_76_3, q_76_4, q_76_5⟩ : (0 ≤ w_75.toInt) ∧ (w_75.toInt ≤ o_taped.toInt) ∧ (w_70.toInt ≤ w_75.toInt) ∧ (r_74.toInt = 0 ∧ w_75.toInt = o_taped.toInt ∨ (w_75.toInt < o_taped.toInt ∧ r_74.toInt = (o_tape w_75.toNatClampNeg).toInt ∧ ¬ r_74.toInt = 32)) ∧ (w_70.toInt < o_taped.toInt → ¬ (o_tape w_70.toNatClampNeg).toInt = 32 → w_75.toInt = w_70.toInt ∧ r_74.toInt = (o_tape w_70.toNatClampNeg).toInt) ∧ (∀ j : Nat, w_70.toInt ≤ (j : Int) → (j : Int) < w_75.toInt → (o_tape j).toInt = 32) := q_76
          refine ok_ite (fun c_77 => ?_) (fun c_77 => ?_)
          · skip
            have c_77 : r_74.toInt = (58 : Int) := i_eq.mp c_77
            exact b94 v1 r_69 r_69 0 o_taped w_75 w_71 o_ringFar o_ringTone o_readFar o_readTone (show 0 ≤ (v1).toInt by omega) (show (v1).toInt ≤ 5 by omega) (show 0 ≤ (r_69).toInt by omega) (show (r_69).toInt ≤ 6 by omega) (show 0 ≤ (r_69).toInt by omega) (show (r_69).toInt ≤ 6 by omega) (show o_taped.toInt = t0.toInt by omega) (show 0 ≤ w_75.toInt by omega) (show w_75.toInt ≤ o_taped.toInt by omega) (show (7 - v1.toInt).toNat < n54 + 1 by omega) (show (0 : Int) = 1 ∨ ((0 : Int) = 0 ∧ w_75.toInt < o_taped.toInt) by omega)
          · skip
            have c_77 : ¬ r_74.toInt = (58 : Int) := fun z => c_77 (i_eq.mpr z)
            unfold f_X7_rings_B89
            exact b94 v1 r_69 r_69 1 o_taped w_75 w_71 o_ringFar o_ringTone o_readFar o_readTone (show 0 ≤ (v1).toInt by omega) (show (v1).toInt ≤ 5 by omega) (show 0 ≤ (r_69).toInt by omega) (show (r_69).toInt ≤ 6 by omega) (show 0 ≤ (r_69).toInt by omega) (show (r_69).toInt ≤ 6 by omega) (show o_taped.toInt = t0.toInt by omega) (show 0 ≤ w_75.toInt by omega) (show w_75.toInt ≤ o_taped.toInt by omega) (show (7 - v1.toInt).toNat < n54 + 1 by omega) (show (1 : Int) = 1 ∨ ((1 : Int) = 0 ∧ w_75.toInt < o_taped.toInt) by omega)
        · skip
          have c_73 : ¬ w_71.toInt = (0 : Int) := fun z => c_73 (i_eq.mpr z)
          unfold f_X7_rings_B89
          exact b94 v1 r_69 r_69 1 o_taped w_70 w_71 o_ringFar o_ringTone o_readFar o_readTone (show 0 ≤ (v1).toInt by omega) (show (v1).toInt ≤ 5 by omega) (show 0 ≤ (r_69).toInt by omega) (show (r_69).toInt ≤ 6 by omega) (show 0 ≤ (r_69).toInt by omega) (show (r_69).toInt ≤ 6 by omega) (show o_taped.toInt = t0.toInt by omega) (show 0 ≤ w_70.toInt by omega) (show w_70.toInt ≤ o_taped.toInt by omega) (show (7 - v1.toInt).toNat < n54 + 1 by omega) (show (1 : Int) = 1 ∨ ((1 : Int) = 0 ∧ w_70.toInt < o_taped.toInt) by omega)
  have l2 : ∀ (n : Nat) (v1 : Int32) (o_taped : Int32) (o_at : Int32) (o_wrong : Int32) (o_ringFar : Nat → Int32) (o_ringTone : Nat → Int32) (o_readFar : Nat → Int32) (o_readTone : Nat → Int32), (7 - v1.toInt).toNat < n → (0 ≤ (v1).toInt) → ((v1).toInt ≤ 7) → (o_taped.toInt = t0.toInt) → okP (f_X7_rings_L2 n v1 o_taped o_at o_wrong o_ringFar o_ringTone o_tape o_readFar o_readTone) (fun u => (u.2.1.toInt = 0)) := by
    intro n
    induction n with
    | zero =>
      intro v1 o_taped o_at o_wrong o_ringFar o_ringTone o_readFar o_readTone hm
      exact absurd hm (Nat.not_lt_zero _)
    | succ n2 ih2 =>
      intro v1 o_taped o_at o_wrong o_ringFar o_ringTone o_readFar o_readTone hm2 g2_0 g2_1 g2_2
      show okP (f_X7_rings_L2b (f_X7_rings_L2 n2) v1 o_taped o_at o_wrong o_ringFar o_ringTone o_tape o_readFar o_readTone) (fun u => (u.2.1.toInt = 0))
      unfold f_X7_rings_L2b
      refine ok_ite (fun c_78 => ?_) (fun c_78 => ?_)
      · skip
        have c_78 : (7 : Int) ≤ v1.toInt := i_le.mp c_78
        exact l54 FU 0 0 1 o_taped 0 0 o_ringFar o_ringTone o_readFar o_readTone (FU_gt (show (7 - (0 : Int)).toNat < 1000000000000 by omega)) (show 0 ≤ (0 : Int) by omega) (show (0 : Int) ≤ 6 by omega) (show 0 ≤ (0 : Int) by omega) (show (0 : Int) ≤ 6 by omega) (show (1 : Int) = 0 ∨ ((1 : Int) = 1 ∧ (0 : Int) ≤ 5) by omega) (show o_taped.toInt = t0.toInt by omega) (show 0 ≤ (0 : Int) by omega) (show (0 : Int) ≤ o_taped.toInt by omega)
      · skip
        have c_78 : ¬ (7 : Int) ≤ v1.toInt := fun z => c_78 (i_le.mpr z)
        have ix_79 : ¬ (v1 < 0 ∨ 7 ≤ v1.toNatClampNeg) := ix (show 0 ≤ v1.toInt by omega) (show v1.toInt < (7 : Nat) by omega)
        refine ok_chk ix_79 ?_
        refine ok_nmi (fun x_80 hx_80 kx_80 => ?_)
        refine ok_chk ix_79 ?_
        refine ok_chk ix_79 ?_
        refine ok_nmi (fun x_81 hx_81 kx_81 => ?_)
        refine ok_chk ix_79 ?_
        first | (have f_82 : (v1 + 1).toInt = v1.toInt + (1 : Int) := i_add2 rfl rfl (by omega) (by omega)) | skip
        refine ok_nmi (fun x_83 hx_83 kx_83 => ?_)
        exact ih2 x_83 o_taped o_at o_wrong o_ringFar o_ringTone (upd o_readFar v1.toNatClampNeg x_80) (upd o_readTone v1.toNatClampNeg x_81) (show (7 - x_83.toInt).toNat < n2 by omega) (show 0 ≤ (x_83).toInt by omega) (show (x_83).toInt ≤ 7 by omega) (show o_taped.toInt = t0.toInt by omega)
  unfold f_X7_rings
  exact l2 FU 0 o_taped o_at o_wrong o_ringFar o_ringTone o_readFar o_readTone (FU_gt (show (7 - (0 : Int)).toNat < 1000000000000 by omega)) (show 0 ≤ (0 : Int) by omega) (show (0 : Int) ≤ 7 by omega) (show o_taped.toInt = t0.toInt by omega)
set_option maxRecDepth 100000 in
set_option maxHeartbeats 4000000 in
theorem s_X7_sea (x1 : Int32) (x2 : Int32) (o_taped : Int32) (o_at : Int32) (o_wrong : Int32) (o_currents : Nat → Int32) (o_tape : Nat → Int32) (o_readSea : Nat → Int32) (t0 : Int32) (h0 : 0 ≤ (o_taped).toInt) (h1 : (o_taped).toInt ≤ 60) (h2 : o_taped.toInt = t0.toInt) : okP (f_X7_sea x1 x2 o_taped o_at o_wrong o_currents o_tape o_readSea) (fun u => (0 ≤ u.2.1.toInt) ∧ (u.2.1.toInt ≤ 60) ∧ ((¬ (0 ≤ x1.toInt ∧ x1.toInt ≤ 1 ∧ 0 ≤ x2.toInt ∧ x2.toInt ≤ 9) ∧ u.2.1.toInt = t0.toInt) ∨ ((0 ≤ x1.toInt ∧ x1.toInt ≤ 1 ∧ 0 ≤ x2.toInt ∧ x2.toInt ≤ 9) ∧ u.2.1.toInt = 0))) := by
  have l132 : ∀ (n : Nat) (v1 : Int32) (v2 : Int32) (v3 : Int32) (v4 : Int32) (o_taped : Int32) (o_at : Int32) (o_wrong : Int32) (o_currents : Nat → Int32) (o_readSea : Nat → Int32), (10 - v4.toInt).toNat < n → (0 ≤ (v1).toInt) → ((v1).toInt ≤ 1) → (0 ≤ (v2).toInt) → ((v2).toInt ≤ 9) → (0 ≤ (v4).toInt) → ((v4).toInt ≤ 10) → (o_taped.toInt = 0) → (0 ≤ x1.toInt ∧ x1.toInt ≤ 1 ∧ 0 ≤ x2.toInt ∧ x2.toInt ≤ 9) → okP (f_X7_sea_L132 n v1 v2 v3 v4 o_taped o_at o_wrong o_currents o_tape o_readSea) (fun u => (0 ≤ u.2.1.toInt) ∧ (u.2.1.toInt ≤ 60) ∧ ((¬ (0 ≤ x1.toInt ∧ x1.toInt ≤ 1 ∧ 0 ≤ x2.toInt ∧ x2.toInt ≤ 9) ∧ u.2.1.toInt = t0.toInt) ∨ ((0 ≤ x1.toInt ∧ x1.toInt ≤ 1 ∧ 0 ≤ x2.toInt ∧ x2.toInt ≤ 9) ∧ u.2.1.toInt = 0))) := by
    intro n
    induction n with
    | zero =>
      intro v1 v2 v3 v4 o_taped o_at o_wrong o_currents o_readSea hm
      exact absurd hm (Nat.not_lt_zero _)
    | succ n132 ih132 =>
      intro v1 v2 v3 v4 o_taped o_at o_wrong o_currents o_readSea hm132 g132_0 g132_1 g132_2 g132_3 g132_4 g132_5 g132_6 g132_7
      show okP (f_X7_sea_L132b (f_X7_sea_L132 n132) v1 v2 v3 v4 o_taped o_at o_wrong o_currents o_tape o_readSea) (fun u => (0 ≤ u.2.1.toInt) ∧ (u.2.1.toInt ≤ 60) ∧ ((¬ (0 ≤ x1.toInt ∧ x1.toInt ≤ 1 ∧ 0 ≤ x2.toInt ∧ x2.toInt ≤ 9) ∧ u.2.1.toInt = t0.toInt) ∨ ((0 ≤ x1.toInt ∧ x1.toInt ≤ 1 ∧ 0 ≤ x2.toInt ∧ x2.toInt ≤ 9) ∧ u.2.1.toInt = 0)))
      unfold f_X7_sea_L132b
      refine ok_ite (fun c_1 => ?_) (fun c_1 => ?_)
      · skip
        have c_1 : (10 : Int) ≤ v4.toInt := i_le.mp c_1
        exact ok_some (show (0 ≤ o_taped.toInt) ∧ (o_taped.toInt ≤ 60) ∧ ((¬ (0 ≤ x1.toInt ∧ x1.toInt ≤ 1 ∧ 0 ≤ x2.toInt ∧ x2.toInt ≤ 9) ∧ o_taped.toInt = t0.toInt) ∨ ((0 ≤ x1.toInt ∧ x1.toInt ≤ 1 ∧ 0 ≤ x2.toInt ∧ x2.toInt ≤ 9) ∧ o_taped.toInt = 0)) from ⟨by omega, by omega, by omega⟩)
      · skip
        have c_1 : ¬ (10 : Int) ≤ v4.toInt := fun z => c_1 (i_le.mpr z)
        first | (have f_2 : (100 * v1).toInt = (100 : Int) * v1.toInt := i_mul2 rfl rfl (by omega) (by omega)) | skip
        first | (have f_3 : (10 * v2).toInt = (10 : Int) * v2.toInt := i_mul2 rfl rfl (by omega) (by omega)) | skip
        first | (have f_4 : ((100 * v1) + (10 * v2)).toInt = (100 * v1).toInt + (10 * v2).toInt := i_add2 rfl rfl (by omega) (by omega)) | skip
        first | (have f_5 : (((100 * v1) + (10 * v2)) + v4).toInt = ((100 * v1) + (10 * v2)).toInt + v4.toInt := i_add2 rfl rfl (by omega) (by omega)) | skip
        have ix_6 : ¬ (v4 < 0 ∨ 10 ≤ v4.toNatClampNeg) := ix (show 0 ≤ v4.toInt by omega) (show v4.toInt < (10 : Nat) by omega)
        refine ok_chk ix_6 ?_
        refine ok_nmi (fun x_7 hx_7 kx_7 => ?_)
        have ix_8 : ¬ ((((100 * v1) + (10 * v2)) + v4) < 0 ∨ 200 ≤ (((100 * v1) + (10 * v2)) + v4).toNatClampNeg) := ix (show 0 ≤ (((100 * v1) + (10 * v2)) + v4).toInt by omega) (show (((100 * v1) + (10 * v2)) + v4).toInt < (200 : Nat) by omega)
        refine ok_chk ix_8 ?_
        first | (have f_9 : (v4 + 1).toInt = v4.toInt + (1 : Int) := i_add2 rfl rfl (by omega) (by omega)) | skip
        refine ok_nmi (fun x_10 hx_10 kx_10 => ?_)
        exact ih132 v1 v2 v3 x_10 o_taped o_at o_wrong (upd o_currents (((100 * v1) + (10 * v2)) + v4).toNatClampNeg x_7) o_readSea (show (10 - x_10.toInt).toNat < n132 by omega) (show 0 ≤ (v1).toInt by omega) (show (v1).toInt ≤ 1 by omega) (show 0 ≤ (v2).toInt by omega) (show (v2).toInt ≤ 9 by omega) (show 0 ≤ (x_10).toInt by omega) (show (x_10).toInt ≤ 10 by omega) (show o_taped.toInt = 0 by omega) (show 0 ≤ x1.toInt ∧ x1.toInt ≤ 1 ∧ 0 ≤ x2.toInt ∧ x2.toInt ≤ 9 by omega)
  have l39 : ∀ (n : Nat) (v1 : Int32) (v2 : Int32) (v3 : Int32) (v4 : Int32) (o_taped : Int32) (o_at : Int32) (o_wrong : Int32) (o_currents : Nat → Int32) (o_readSea : Nat → Int32), (10 - v4.toInt).toNat < n → (0 ≤ (v1).toInt) → ((v1).toInt ≤ 1) → (0 ≤ (v2).toInt) → ((v2).toInt ≤ 9) → (0 ≤ (v4).toInt) → ((v4).toInt ≤ 10) → (o_taped.toInt = t0.toInt) → (0 ≤ o_at.toInt) → (o_at.toInt ≤ o_taped.toInt) → (0 ≤ x1.toInt ∧ x1.toInt ≤ 1 ∧ 0 ≤ x2.toInt ∧ x2.toInt ≤ 9) → okP (f_X7_sea_L39 n v1 v2 v3 v4 o_taped o_at o_wrong o_currents o_tape o_readSea) (fun u => (0 ≤ u.2.1.toInt) ∧ (u.2.1.toInt ≤ 60) ∧ ((¬ (0 ≤ x1.toInt ∧ x1.toInt ≤ 1 ∧ 0 ≤ x2.toInt ∧ x2.toInt ≤ 9) ∧ u.2.1.toInt = t0.toInt) ∨ ((0 ≤ x1.toInt ∧ x1.toInt ≤ 1 ∧ 0 ≤ x2.toInt ∧ x2.toInt ≤ 9) ∧ u.2.1.toInt = 0))) := by
    intro n
    induction n with
    | zero =>
      intro v1 v2 v3 v4 o_taped o_at o_wrong o_currents o_readSea hm
      exact absurd hm (Nat.not_lt_zero _)
    | succ n39 ih39 =>
      intro v1 v2 v3 v4 o_taped o_at o_wrong o_currents o_readSea hm39 g39_0 g39_1 g39_2 g39_3 g39_4 g39_5 g39_6 g39_7 g39_8 g39_9
      show okP (f_X7_sea_L39b (f_X7_sea_L39 n39) v1 v2 v3 v4 o_taped o_at o_wrong o_currents o_tape o_readSea) (fun u => (0 ≤ u.2.1.toInt) ∧ (u.2.1.toInt ≤ 60) ∧ ((¬ (0 ≤ x1.toInt ∧ x1.toInt ≤ 1 ∧ 0 ≤ x2.toInt ∧ x2.toInt ≤ 9) ∧ u.2.1.toInt = t0.toInt) ∨ ((0 ≤ x1.toInt ∧ x1.toInt ≤ 1 ∧ 0 ≤ x2.toInt ∧ x2.toInt ≤ 9) ∧ u.2.1.toInt = 0)))
      unfold f_X7_sea_L39b
      refine ok_ite (fun c_11 => ?_) (fun c_11 => ?_)
      · skip
        have c_11 : (10 : Int) ≤ v4.toInt := i_le.mp c_11
        refine ok_ite (fun c_12 => ?_) (fun c_12 => ?_)
        · skip
          have c_12 : o_wrong.toInt = (0 : Int) := i_eq.mp c_12
          refine ok_bd2 (s_X7_here o_taped o_at o_tape (show 0 ≤ (o_taped).toInt by omega) (show (o_taped).toInt ≤ 60 by omega) (show 0 ≤ o_at.toInt by omega) (show o_at.toInt ≤ o_taped.toInt by omega)) (fun r_13 w_14 q_15 => ?_)
          obtain ⟨q_15_0, q_15_1, q_15_2, q_15_3, q_15_4, q_15_5⟩ : (0 ≤ w_14.toInt) ∧ (w_14.toInt ≤ o_taped.toInt) ∧ (o_at.toInt ≤ w_14.toInt) ∧ (r_13.toInt = 0 ∧ w_14.toInt = o_taped.toInt ∨ (w_14.toInt < o_taped.toInt ∧ r_13.toInt = (o_tape w_14.toNatClampNeg).toInt ∧ ¬ r_13.toInt = 32)) ∧ (o_at.toInt < o_taped.toInt → ¬ (o_tape o_at.toNatClampNeg).toInt = 32 → w_14.toInt = o_at.toInt ∧ r_13.toInt = (o_tape o_at.toNatClampNeg).toInt) ∧ (∀ j : Nat, o_at.toInt ≤ (j : Int) → (j : Int) < w_14.toInt → (o_tape j).toInt = 32) := q_15
          refine ok_ite (fun c_16 => ?_) (fun c_16 => ?_)
          · skip
            have c_16 : r_13.toInt = (0 : Int) := i_eq.mp c_16
            unfold f_X7_sea_B106
            refine ok_chk (b01 (show (0 : Int) = 0 ∨ (0 : Int) = 1 by omega)) ?_
            refine ok_ite (fun c_17 => ?_) (fun c_17 => ?_)
            · skip
              exact l132 FU v1 v2 v3 0 0 w_14 0 o_currents o_readSea (FU_gt (show (10 - (0 : Int)).toNat < 1000000000000 by omega)) (show 0 ≤ (v1).toInt by omega) (show (v1).toInt ≤ 1 by omega) (show 0 ≤ (v2).toInt by omega) (show (v2).toInt ≤ 9 by omega) (show 0 ≤ (0 : Int) by omega) (show (0 : Int) ≤ 10 by omega) (show (0 : Int) = 0 by omega) (show 0 ≤ x1.toInt ∧ x1.toInt ≤ 1 ∧ 0 ≤ x2.toInt ∧ x2.toInt ≤ 9 by omega)
            · skip
              exact absurd c_17 (by decide)
          · skip
            have c_16 : ¬ r_13.toInt = (0 : Int) := fun z => c_16 (i_eq.mpr z)
            unfold f_X7_sea_B101
            unfold f_X7_sea_B106
            refine ok_chk (b01 (show (1 : Int) = 0 ∨ (1 : Int) = 1 by omega)) ?_
            refine ok_ite (fun c_18 => ?_) (fun c_18 => ?_)
            · skip
              exact absurd c_18 (by decide)
            · skip
              first | (have f_19 : ((-20) - w_14).toInt = (-20 : Int) - w_14.toInt := i_sub2 rfl rfl (by omega) (by omega)) | skip
              exact ok_some (show (0 ≤ (0 : Int)) ∧ ((0 : Int) ≤ 60) ∧ ((¬ (0 ≤ x1.toInt ∧ x1.toInt ≤ 1 ∧ 0 ≤ x2.toInt ∧ x2.toInt ≤ 9) ∧ (0 : Int) = t0.toInt) ∨ ((0 ≤ x1.toInt ∧ x1.toInt ≤ 1 ∧ 0 ≤ x2.toInt ∧ x2.toInt ≤ 9) ∧ (0 : Int) = 0)) from ⟨by omega, by omega, by omega⟩)
        · skip
          have c_12 : ¬ o_wrong.toInt = (0 : Int) := fun z => c_12 (i_eq.mpr z)
          unfold f_X7_sea_B101
          unfold f_X7_sea_B106
          refine ok_chk (b01 (show (1 : Int) = 0 ∨ (1 : Int) = 1 by omega)) ?_
          refine ok_ite (fun c_20 => ?_) (fun c_20 => ?_)
          · skip
            exact absurd c_20 (by decide)
          · skip
            first | (have f_21 : ((-20) - o_at).toInt = (-20 : Int) - o_at.toInt := i_sub2 rfl rfl (by omega) (by omega)) | skip
            exact ok_some (show (0 ≤ (0 : Int)) ∧ ((0 : Int) ≤ 60) ∧ ((¬ (0 ≤ x1.toInt ∧ x1.toInt ≤ 1 ∧ 0 ≤ x2.toInt ∧ x2.toInt ≤ 9) ∧ (0 : Int) = t0.toInt) ∨ ((0 ≤ x1.toInt ∧ x1.toInt ≤ 1 ∧ 0 ≤ x2.toInt ∧ x2.toInt ≤ 9) ∧ (0 : Int) = 0)) from ⟨by omega, by omega, by omega⟩)
      · skip
        have c_11 : ¬ (10 : Int) ≤ v4.toInt := fun z => c_11 (i_le.mpr z)
        refine ok_bd3 (s_X7_digit 0 8 o_taped o_at o_wrong o_tape (show 0 ≤ (0 : Int) by omega) (show (0 : Int) ≤ 9 by omega) (show 0 ≤ (8 : Int) by omega) (show (8 : Int) ≤ 9 by omega) (show 0 ≤ (o_taped).toInt by omega) (show (o_taped).toInt ≤ 60 by omega) (show 0 ≤ o_at.toInt by omega) (show o_at.toInt ≤ o_taped.toInt by omega)) (fun r_22 w_23 w_24 q_25 => ?_)
        obtain ⟨q_25_0, q_25_1, q_25_2⟩ : (0 ≤ w_23.toInt) ∧ (w_23.toInt ≤ o_taped.toInt) ∧ (r_22.toInt = 0 ∨ ((0 : Int) ≤ r_22.toInt ∧ r_22.toInt ≤ (8 : Int))) := q_25
        have ix_26 : ¬ (v4 < 0 ∨ 10 ≤ v4.toNatClampNeg) := ix (show 0 ≤ v4.toInt by omega) (show v4.toInt < (10 : Nat) by omega)
        refine ok_chk ix_26 ?_
        refine ok_chk ix_26 ?_
        have up_27 : ((upd o_readSea v4.toNatClampNeg r_22) v4.toNatClampNeg).toInt = r_22.toInt := congrArg Int32.toInt upd_is
        refine ok_ite (fun c_28 => ?_) (fun c_28 => ?_)
        · skip
          have c_28 : (8 : Int) ≤ ((upd o_readSea v4.toNatClampNeg r_22) v4.toNatClampNeg).toInt := i_le.mp c_28
          unfold f_X7_sea_B78
          first | (have f_29 : (v3 + 0).toInt = v3.toInt + (0 : Int) := i_add2 rfl rfl (by omega) (by omega)) | skip
          refine ok_nmi (fun x_30 hx_30 kx_30 => ?_)
          first | (have f_31 : (v4 + 1).toInt = v4.toInt + (1 : Int) := i_add2 rfl rfl (by omega) (by omega)) | skip
          refine ok_nmi (fun x_32 hx_32 kx_32 => ?_)
          exact ih39 v1 v2 x_30 x_32 o_taped w_23 w_24 o_currents (upd o_readSea v4.toNatClampNeg r_22) (show (10 - x_32.toInt).toNat < n39 by omega) (show 0 ≤ (v1).toInt by omega) (show (v1).toInt ≤ 1 by omega) (show 0 ≤ (v2).toInt by omega) (show (v2).toInt ≤ 9 by omega) (show 0 ≤ (x_32).toInt by omega) (show (x_32).toInt ≤ 10 by omega) (show o_taped.toInt = t0.toInt by omega) (show 0 ≤ w_23.toInt by omega) (show w_23.toInt ≤ o_taped.toInt by omega) (show 0 ≤ x1.toInt ∧ x1.toInt ≤ 1 ∧ 0 ≤ x2.toInt ∧ x2.toInt ≤ 9 by omega)
        · skip
          have c_28 : ¬ (8 : Int) ≤ ((upd o_readSea v4.toNatClampNeg r_22) v4.toNatClampNeg).toInt := fun z => c_28 (i_le.mpr z)
          unfold f_X7_sea_B78
          first | (have f_33 : (v3 + 1).toInt = v3.toInt + (1 : Int) := i_add2 rfl rfl (by omega) (by omega)) | skip
          refine ok_nmi (fun x_34 hx_34 kx_34 => ?_)
          first | (have f_35 : (v4 + 1).toInt = v4.toInt + (1 : Int) := i_add2 rfl rfl (by omega) (by omega)) | skip
          refine ok_nmi (fun x_36 hx_36 kx_36 => ?_)
          exact ih39 v1 v2 x_34 x_36 o_taped w_23 w_24 o_currents (upd o_readSea v4.toNatClampNeg r_22) (show (10 - x_36.toInt).toNat < n39 by omega) (show 0 ≤ (v1).toInt by omega) (show (v1).toInt ≤ 1 by omega) (show 0 ≤ (v2).toInt by omega) (show (v2).toInt ≤ 9 by omega) (show 0 ≤ (x_36).toInt by omega) (show (x_36).toInt ≤ 10 by omega) (show o_taped.toInt = t0.toInt by omega) (show 0 ≤ w_23.toInt by omega) (show w_23.toInt ≤ o_taped.toInt by omega) (show 0 ≤ x1.toInt ∧ x1.toInt ≤ 1 ∧ 0 ≤ x2.toInt ∧ x2.toInt ≤ 9 by omega)
  unfold f_X7_sea
  first | (have f_37 : (x1.toInt64).toInt = x1.toInt := j_i2l _) | skip
  refine ok_bd1 (s_X7_in x1.toInt64 0 1) (fun r_38 q_39 => ?_)
  replace q_39 : (r_38.toInt = 1 ∧ (0 : Int) ≤ x1.toInt64.toInt ∧ x1.toInt64.toInt ≤ (1 : Int)) ∨ (r_38.toInt = 0 ∧ (x1.toInt64.toInt < (0 : Int) ∨ (1 : Int) < x1.toInt64.toInt)) := q_39
  refine ok_ite (fun c_40 => ?_) (fun c_40 => ?_)
  · skip
    have c_40 : r_38.toInt = (0 : Int) := i_eq.mp c_40
    replace q_39 : (x1.toInt64.toInt < (0 : Int) ∨ (1 : Int) < x1.toInt64.toInt) := by omega
    exact ok_some (show (0 ≤ o_taped.toInt) ∧ (o_taped.toInt ≤ 60) ∧ ((¬ (0 ≤ x1.toInt ∧ x1.toInt ≤ 1 ∧ 0 ≤ x2.toInt ∧ x2.toInt ≤ 9) ∧ o_taped.toInt = t0.toInt) ∨ ((0 ≤ x1.toInt ∧ x1.toInt ≤ 1 ∧ 0 ≤ x2.toInt ∧ x2.toInt ≤ 9) ∧ o_taped.toInt = 0)) from ⟨by omega, by omega, by omega⟩)
  · skip
    have c_40 : ¬ r_38.toInt = (0 : Int) := fun z => c_40 (i_eq.mpr z)
    replace q_39 : (0 : Int) ≤ x1.toInt64.toInt ∧ x1.toInt64.toInt ≤ (1 : Int) := by omega
    first | (have f_41 : (x2.toInt64).toInt = x2.toInt := j_i2l _) | skip
    refine ok_bd1 (s_X7_in x2.toInt64 0 9) (fun r_42 q_43 => ?_)
    replace q_43 : (r_42.toInt = 1 ∧ (0 : Int) ≤ x2.toInt64.toInt ∧ x2.toInt64.toInt ≤ (9 : Int)) ∨ (r_42.toInt = 0 ∧ (x2.toInt64.toInt < (0 : Int) ∨ (9 : Int) < x2.toInt64.toInt)) := q_43
    refine ok_ite (fun c_44 => ?_) (fun c_44 => ?_)
    · skip
      have c_44 : r_42.toInt = (0 : Int) := i_eq.mp c_44
      replace q_43 : (x2.toInt64.toInt < (0 : Int) ∨ (9 : Int) < x2.toInt64.toInt) := by omega
      exact ok_some (show (0 ≤ o_taped.toInt) ∧ (o_taped.toInt ≤ 60) ∧ ((¬ (0 ≤ x1.toInt ∧ x1.toInt ≤ 1 ∧ 0 ≤ x2.toInt ∧ x2.toInt ≤ 9) ∧ o_taped.toInt = t0.toInt) ∨ ((0 ≤ x1.toInt ∧ x1.toInt ≤ 1 ∧ 0 ≤ x2.toInt ∧ x2.toInt ≤ 9) ∧ o_taped.toInt = 0)) from ⟨by omega, by omega, by omega⟩)
    · skip
      have c_44 : ¬ r_42.toInt = (0 : Int) := fun z => c_44 (i_eq.mpr z)
      replace q_43 : (0 : Int) ≤ x2.toInt64.toInt ∧ x2.toInt64.toInt ≤ (9 : Int) := by omega
      exact l39 FU x1 x2 0 0 o_taped 0 0 o_currents o_readSea (FU_gt (show (10 - (0 : Int)).toNat < 1000000000000 by omega)) (show 0 ≤ (x1).toInt by omega) (show (x1).toInt ≤ 1 by omega) (show 0 ≤ (x2).toInt by omega) (show (x2).toInt ≤ 9 by omega) (show 0 ≤ (0 : Int) by omega) (show (0 : Int) ≤ 10 by omega) (show o_taped.toInt = t0.toInt by omega) (show 0 ≤ (0 : Int) by omega) (show (0 : Int) ≤ o_taped.toInt by omega) (show 0 ≤ x1.toInt ∧ x1.toInt ≤ 1 ∧ 0 ≤ x2.toInt ∧ x2.toInt ≤ 9 by omega)
