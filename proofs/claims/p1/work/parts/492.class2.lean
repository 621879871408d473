/-! What is made of it: the first, further. -/
def Hi0 (s : Nat → Int64) : Prop := ∀ c : Nat, 100 ≤ c → s c = 0
theorem Hi0_EN : Hi0 ENf := EN_hi
theorem ofI_n : ∀ n : Nat, n < 101 → (Int32.ofInt (n : Int)).toInt = (n : Int) := by decide
def nxS : Nat → Int32
  | 0 => -4
  | n + 1 => if (ENf n).toInt ≤ 0 then nxS n else if (nxS n).toInt < 0 then Int32.ofInt (n : Int) else if (ENf n * (iDep (nxS n).toNatClampNeg).toInt64).toInt ≤ (ENf (nxS n).toNatClampNeg * (iDep n).toInt64).toInt then nxS n else Int32.ofInt (n : Int)
theorem nxS_rng : ∀ n : Nat, n ≤ 100 → (nxS n).toInt = -4 ∨ (0 ≤ (nxS n).toInt ∧ (nxS n).toInt < (n : Int)) := by
  intro n
  induction n with
  | zero => intro _; exact Or.inl rfl
  | succ n ih =>
    intro hn
    have ih := ih (by omega)
    have hi := ofI_n n (by omega)
    show (if (ENf n).toInt ≤ 0 then nxS n else if (nxS n).toInt < 0 then Int32.ofInt (n : Int) else if (ENf n * (iDep (nxS n).toNatClampNeg).toInt64).toInt ≤ (ENf (nxS n).toNatClampNeg * (iDep n).toInt64).toInt then nxS n else Int32.ofInt (n : Int)).toInt = -4 ∨ (0 ≤ (if (ENf n).toInt ≤ 0 then nxS n else if (nxS n).toInt < 0 then Int32.ofInt (n : Int) else if (ENf n * (iDep (nxS n).toNatClampNeg).toInt64).toInt ≤ (ENf (nxS n).toNatClampNeg * (iDep n).toInt64).toInt then nxS n else Int32.ofInt (n : Int)).toInt ∧ (if (ENf n).toInt ≤ 0 then nxS n else if (nxS n).toInt < 0 then Int32.ofInt (n : Int) else if (ENf n * (iDep (nxS n).toNatClampNeg).toInt64).toInt ≤ (ENf (nxS n).toNatClampNeg * (iDep n).toInt64).toInt then nxS n else Int32.ofInt (n : Int)).toInt < ((n + 1 : Nat) : Int))
    by_cases h1 : (ENf n).toInt ≤ 0
    · rw [if_pos h1]
      omega
    · rw [if_neg h1]
      by_cases h2 : (nxS n).toInt < 0
      · rw [if_pos h2]
        omega
      · rw [if_neg h2]
        by_cases h3 : (ENf n * (iDep (nxS n).toNatClampNeg).toInt64).toInt ≤ (ENf (nxS n).toNatClampNeg * (iDep n).toInt64).toInt
        · rw [if_pos h3]
          omega
        · rw [if_neg h3]
          omega
theorem e_isDragged0 (x1 : Int32) (dc : Nat → Int32) : okP (f_X4_isDragged x1 0 dc) (fun r => r = 0) := by
  unfold f_X4_isDragged
  obtain ⟨f1, hf1⟩ := FU_s 1 (by omega)
  rw [hf1]
  show okP (f_X4_isDragged_L2b (f_X4_isDragged_L2 f1) x1 0 0 dc) _
  unfold f_X4_isDragged_L2b
  exact ok_ite (fun _ => ok_some rfl) (fun z => absurd (by decide) z)
set_option maxHeartbeats 8000000 in
theorem e_next6 : ∀ (f : Nat) (v2 : Int32) (v3 : Int32) (o_walkIsOld : Int32) (o_endsAreOld : Int32) (told_pieceCount : Int32) (told_settings : Nat → Int32) (told_howFar : Nat → Int32) (told_tones : Nat → Int32) (told_currents : Nat → Int32) (told_warmths : Nat → Int32) (told_fars : Nat → Int32) (told_pieceCells : Nat → Int32) (told_pieceMonths : Nat → Int32) (told_pieceHighs : Nat → Int32) (told_pieceAges : Nat → Int32) (told_pieceNeeds : Nat → Int32) (told_dragCells : Nat → Int32) (told_dragEighths : Nat → Int32) (walk_last : Int32) (walk_turnsLet : Int32) (walk_slowsLet : Int32) (walk_fuel : Int32) (walk_glide : Int32) (walk_count : Int32) (walk_weightSum : Int64) (walk_toPass : Int32) (walk_foundNumber : Int32) (walk_foundWeight : Int32) (walk_foundTurns : Int32) (walk_foundSlowed : Int32) (walk_howFar : Nat → Int32) (walk_tones : Nat → Int32) (walk_only : Nat → Int32) (walk_fars : Nat → Int32) (walk_cellAt : Nat → Int32) (walk_ends : Nat → Int64) (walk_seen : Nat → Int32) (walk_begun : Nat → Int32) (seas_known : Nat → Int32) (ends_total : Int64), 0 ≤ v3.toInt → v3.toInt ≤ 100 → (100 - v3.toInt).toNat < f → v2 = nxS v3.toInt.toNat → okP (f_X6_next_L13 f v2 v3 o_walkIsOld o_endsAreOld told_pieceCount 0 told_settings told_howFar told_tones told_currents told_warmths iDep told_fars told_pieceCells told_pieceMonths told_pieceHighs told_pieceAges told_pieceNeeds told_dragCells told_dragEighths walk_last walk_turnsLet walk_slowsLet walk_fuel walk_glide walk_count walk_weightSum walk_toPass walk_foundNumber walk_foundWeight walk_foundTurns walk_foundSlowed walk_howFar walk_tones walk_only walk_fars walk_cellAt walk_ends walk_seen walk_begun seas_known ends_total ENf) (fun u => u.1 = nxS 100) := by
  intro f
  induction f with
  | zero =>
    intro v2 v3 o_walkIsOld o_endsAreOld told_pieceCount told_settings told_howFar told_tones told_currents told_warmths told_fars told_pieceCells told_pieceMonths told_pieceHighs told_pieceAges told_pieceNeeds told_dragCells told_dragEighths walk_last walk_turnsLet walk_slowsLet walk_fuel walk_glide walk_count walk_weightSum walk_toPass walk_foundNumber walk_foundWeight walk_foundTurns walk_foundSlowed walk_howFar walk_tones walk_only walk_fars walk_cellAt walk_ends walk_seen walk_begun seas_known ends_total _ _ hm
    exact absurd hm (Nat.not_lt_zero _)
  | succ f ih =>
    intro v2 v3 o_walkIsOld o_endsAreOld told_pieceCount told_settings told_howFar told_tones told_currents told_warmths told_fars told_pieceCells told_pieceMonths told_pieceHighs told_pieceAges told_pieceNeeds told_dragCells told_dragEighths walk_last walk_turnsLet walk_slowsLet walk_fuel walk_glide walk_count walk_weightSum walk_toPass walk_foundNumber walk_foundWeight walk_foundTurns walk_foundSlowed walk_howFar walk_tones walk_only walk_fars walk_cellAt walk_ends walk_seen walk_begun seas_known ends_total r0 r1 hm hv
    show okP (f_X6_next_L13b (f_X6_next_L13 f) v2 v3 o_walkIsOld o_endsAreOld told_pieceCount 0 told_settings told_howFar told_tones told_currents told_warmths iDep told_fars told_pieceCells told_pieceMonths told_pieceHighs told_pieceAges told_pieceNeeds told_dragCells told_dragEighths walk_last walk_turnsLet walk_slowsLet walk_fuel walk_glide walk_count walk_weightSum walk_toPass walk_foundNumber walk_foundWeight walk_foundTurns walk_foundSlowed walk_howFar walk_tones walk_only walk_fars walk_cellAt walk_ends walk_seen walk_begun seas_known ends_total ENf) _
    unfold f_X6_next_L13b
    refine ok_ite (fun z => ?_) (fun z => ?_)
    · have z1 : (100 : Int) ≤ v3.toInt := i_le.mp z
      rw [show v3.toInt.toNat = 100 by omega] at hv
      exact ok_some hv
    have z1 : ¬ (100 : Int) ≤ v3.toInt := fun y => z (i_le.mpr y)
    have f3 : (v3 + 1).toInt = v3.toInt + (1 : Int) := i_add2 rfl rfl (by omega) (by omega)
    have c3 : v3.toNatClampNeg = v3.toInt.toNat := rfl
    have hx3 : ¬ (v3 < 0 ∨ 100 ≤ v3.toNatClampNeg) := ix (by omega) (by omega)
    have hr := nxS_rng v3.toInt.toNat (by omega)
    have es : nxS (v3.toInt.toNat + 1) = if (ENf v3.toInt.toNat).toInt ≤ 0 then nxS v3.toInt.toNat else if (nxS v3.toInt.toNat).toInt < 0 then Int32.ofInt ((v3.toInt.toNat : Nat) : Int) else if (ENf v3.toInt.toNat * (iDep (nxS v3.toInt.toNat).toNatClampNeg).toInt64).toInt ≤ (ENf (nxS v3.toInt.toNat).toNatClampNeg * (iDep v3.toInt.toNat).toInt64).toInt then nxS v3.toInt.toNat else Int32.ofInt ((v3.toInt.toNat : Nat) : Int) := rfl
    rw [show ((v3.toInt.toNat : Nat) : Int) = v3.toInt by omega, ofI, ← hv] at es
    rw [← hv] at hr
    have stay : nxS (v3.toInt.toNat + 1) = v2 → okP (f_X6_next_B79 (f_X6_next_L13 f) v2 v3 o_walkIsOld o_endsAreOld told_pieceCount 0 told_settings told_howFar told_tones told_currents told_warmths iDep told_fars told_pieceCells told_pieceMonths told_pieceHighs told_pieceAges told_pieceNeeds told_dragCells told_dragEighths walk_last walk_turnsLet walk_slowsLet walk_fuel walk_glide walk_count walk_weightSum walk_toPass walk_foundNumber walk_foundWeight walk_foundTurns walk_foundSlowed walk_howFar walk_tones walk_only walk_fars walk_cellAt walk_ends walk_seen walk_begun seas_known ends_total ENf) (fun u => u.1 = nxS 100) := by
      intro e
      unfold f_X6_next_B79
      refine ok_nmi (fun x hx kx => ?_)
      refine ih v2 x o_walkIsOld o_endsAreOld told_pieceCount told_settings told_howFar told_tones told_currents told_warmths told_fars told_pieceCells told_pieceMonths told_pieceHighs told_pieceAges told_pieceNeeds told_dragCells told_dragEighths walk_last walk_turnsLet walk_slowsLet walk_fuel walk_glide walk_count walk_weightSum walk_toPass walk_foundNumber walk_foundWeight walk_foundTurns walk_foundSlowed walk_howFar walk_tones walk_only walk_fars walk_cellAt walk_ends walk_seen walk_begun seas_known ends_total (by omega) (by omega) (by omega) ?_
      rw [show x.toInt.toNat = v3.toInt.toNat + 1 by omega, e]
    have take : nxS (v3.toInt.toNat + 1) = v3 → okP (f_X6_next_B77 (f_X6_next_L13 f) v3 o_walkIsOld o_endsAreOld told_pieceCount 0 told_settings told_howFar told_tones told_currents told_warmths iDep told_fars told_pieceCells told_pieceMonths told_pieceHighs told_pieceAges told_pieceNeeds told_dragCells told_dragEighths walk_last walk_turnsLet walk_slowsLet walk_fuel walk_glide walk_count walk_weightSum walk_toPass walk_foundNumber walk_foundWeight walk_foundTurns walk_foundSlowed walk_howFar walk_tones walk_only walk_fars walk_cellAt walk_ends walk_seen walk_begun seas_known ends_total ENf) (fun u => u.1 = nxS 100) := by
      intro e
      unfold f_X6_next_B77 f_X6_next_B79
      refine ok_nmi (fun x hx kx => ?_)
      refine ih v3 x o_walkIsOld o_endsAreOld told_pieceCount told_settings told_howFar told_tones told_currents told_warmths told_fars told_pieceCells told_pieceMonths told_pieceHighs told_pieceAges told_pieceNeeds told_dragCells told_dragEighths walk_last walk_turnsLet walk_slowsLet walk_fuel walk_glide walk_count walk_weightSum walk_toPass walk_foundNumber walk_foundWeight walk_foundTurns walk_foundSlowed walk_howFar walk_tones walk_only walk_fars walk_cellAt walk_ends walk_seen walk_begun seas_known ends_total (by omega) (by omega) (by omega) ?_
      rw [show x.toInt.toNat = v3.toInt.toNat + 1 by omega, e]
    refine ok_chk hx3 ?_
    rw [c3]
    rw [c3] at hx3
    refine ok_ite (fun y => ?_) (fun y => ?_)
    · have y1 : (ENf v3.toInt.toNat).toInt ≤ (0 : Int) := j_le.mp ((lg_cmp_le _ _).mp y)
      exact stay (by rw [es, if_pos y1])
    have y1 : ¬ (ENf v3.toInt.toNat).toInt ≤ (0 : Int) := fun w => y ((lg_cmp_le _ _).mpr (j_le.mpr w))
    rw [if_neg y1] at es
    refine ok_bd1 (e_isDragged0 v3 _) (fun r q => ?_)
    replace q : r = 0 := q
    refine ok_ite (fun _ => ?_) (fun w => absurd q w)
    refine ok_ite (fun w => ?_) (fun w => ?_)
    · have w1 : v2.toInt < (0 : Int) := i_lt.mp w
      exact take (by rw [es, if_pos w1])
    have w1 : ¬ v2.toInt < (0 : Int) := fun a => w (i_lt.mpr a)
    rw [if_neg w1] at es
    have hx2 : ¬ (v2 < 0 ∨ 100 ≤ v2.toNatClampNeg) := ix (by omega) (by omega)
    refine ok_chk hx3 ?_
    refine ok_chk hx2 ?_
    refine ok_chk hx2 ?_
    refine ok_chk hx3 ?_
    refine ok_ite (fun a => ?_) (fun a => ?_)
    · have a1 := j_le.mp ((lg_cmp_le _ _).mp a)
      exact stay (by rw [es, if_pos a1])
    · have a1 := fun b => a ((lg_cmp_le _ _).mpr (j_le.mpr b))
      exact take (by rw [es, if_neg a1])
set_option maxHeartbeats 8000000 in
theorem v_X6_next : okP (f_X6_next 1 1 0 0 iSet iFar7 (fun _ => 0) iCur (fun _ => 0) iDep iFars (fun _ => 0) (fun _ => 0) (fun _ => 0) (fun _ => 0) (fun _ => 0) (fun _ => 0) (fun _ => 0) 1 0 0 0 0 0 0 (-1) (-1) 0 0 0 (fun _ => 0) (fun _ => 0) (fun _ => 0) (fun _ => 0) (fun _ => 0) (fun _ => 0) (fun _ => 0) (fun _ => 0) iKnown 0 (fun _ => 0)) (fun u => u.1 = nxS 100) := by
  unfold f_X6_next
  refine ok_bd25 v_weighed (fun w1 w2 w3 w4 w5 w6 w7 w8 w9 w10 w11 w12 w13 w14 w15 w16 w17 w18 w19 w20 w21 w22 w23 w24 w25 q => ?_)
  obtain ⟨_, _, _, e2⟩ := q
  have e2 : w25 = ENf := e2
  rw [e2]
  exact e_next6 FU (-4) 0 w1 w2 0 iSet iFar7 (fun _ => 0) iCur (fun _ => 0) iFars (fun _ => 0) (fun _ => 0) (fun _ => 0) (fun _ => 0) (fun _ => 0) (fun _ => 0) (fun _ => 0) w3 w4 w5 w6 w7 w8 w9 w10 w11 w12 w13 w14 w15 w16 w17 w18 w19 w20 w21 w22 w23 w24 (by decide) (by decide) (FU_gt (by decide)) rfl
theorem iCur8 {j : Nat} (h : j < 200) : (iCur j).toInt = 8 := by
  unfold iCur
  rw [if_pos h]
  rfl
theorem drS_still (high : Int) {c : Int} (h0 : 0 ≤ c) (h1 : c ≤ 99) : ∀ m : Nat, drS iCur 8 high c m = c := by
  intro m
  induction m with
  | zero => rfl
  | succ m ih =>
    show mo (drS iCur 8 high c m) (iCur (100 * (m % 2) + (drS iCur 8 high c m).toNat)).toInt 8 high = c
    rw [ih, iCur8 (by omega)]
    unfold mo
    rw [stp_8 (by omega), stp_8 (by omega)]
    split <;> rfl
theorem EN_0 : ∀ c : Nat, c < 100 → (ENf c).toInt ≤ 0 → ENf c = 0 := by
  intro c hc
  rw [EN_tab c hc]
  revert c
  decide +kernel
set_option maxHeartbeats 8000000 in
theorem e_should6 : ∀ (f : Nat) (v1 : Int32) (v2 : Int32) (v3 : Int32) (v4 : Int32) (v6 : Int64) (v8 : Int32) (o_walkIsOld : Int32) (o_endsAreOld : Int32) (told_pieceCount : Int32) (told_dragCount : Int32) (told_howFar : Nat → Int32) (told_tones : Nat → Int32) (told_warmths : Nat → Int32) (told_fars : Nat → Int32) (told_pieceCells : Nat → Int32) (told_pieceMonths : Nat → Int32) (told_pieceHighs : Nat → Int32) (told_pieceAges : Nat → Int32) (told_pieceNeeds : Nat → Int32) (told_dragCells : Nat → Int32) (told_dragEighths : Nat → Int32) (walk_last : Int32) (walk_turnsLet : Int32) (walk_slowsLet : Int32) (walk_fuel : Int32) (walk_glide : Int32) (walk_count : Int32) (walk_weightSum : Int64) (walk_toPass : Int32) (walk_foundNumber : Int32) (walk_foundWeight : Int32) (walk_foundTurns : Int32) (walk_foundSlowed : Int32) (walk_howFar : Nat → Int32) (walk_tones : Nat → Int32) (walk_only : Nat → Int32) (walk_fars : Nat → Int32) (walk_cellAt : Nat → Int32) (walk_ends : Nat → Int64) (walk_seen : Nat → Int32) (walk_begun : Nat → Int32) (seas_known : Nat → Int32), 0 ≤ v1.toInt → v1.toInt < 100 → 0 ≤ v2.toInt → v2.toInt ≤ 24 → 0 ≤ v8.toInt → v8.toInt ≤ 100 → (100 - v8.toInt).toNat < f → v6 = (if v1.toInt < v8.toInt then ENf v1.toInt.toNat else 0) → okP (f_X6_should_L52 f v1 v2 v3 v4 v6 v8 o_walkIsOld o_endsAreOld told_pieceCount told_dragCount iSet told_howFar told_tones iCur told_warmths told_fars told_pieceCells told_pieceMonths told_pieceHighs told_pieceAges told_pieceNeeds told_dragCells told_dragEighths walk_last walk_turnsLet walk_slowsLet walk_fuel walk_glide walk_count walk_weightSum walk_toPass walk_foundNumber walk_foundWeight walk_foundTurns walk_foundSlowed walk_howFar walk_tones walk_only walk_fars walk_cellAt walk_ends walk_seen walk_begun seas_known 2152 ENf) (fun u => f_X6_partOf (ENf v1.toInt.toNat) 2152 v4 = some u.1) := by
  intro f
  induction f with
  | zero =>
    intro v1 v2 v3 v4 v6 v8 o_walkIsOld o_endsAreOld told_pieceCount told_dragCount told_howFar told_tones told_warmths told_fars told_pieceCells told_pieceMonths told_pieceHighs told_pieceAges told_pieceNeeds told_dragCells told_dragEighths walk_last walk_turnsLet walk_slowsLet walk_fuel walk_glide walk_count walk_weightSum walk_toPass walk_foundNumber walk_foundWeight walk_foundTurns walk_foundSlowed walk_howFar walk_tones walk_only walk_fars walk_cellAt walk_ends walk_seen walk_begun seas_known _ _ _ _ _ _ hm
    exact absurd hm (Nat.not_lt_zero _)
  | succ f ih =>
    intro v1 v2 v3 v4 v6 v8 o_walkIsOld o_endsAreOld told_pieceCount told_dragCount told_howFar told_tones told_warmths told_fars told_pieceCells told_pieceMonths told_pieceHighs told_pieceAges told_pieceNeeds told_dragCells told_dragEighths walk_last walk_turnsLet walk_slowsLet walk_fuel walk_glide walk_count walk_weightSum walk_toPass walk_foundNumber walk_foundWeight walk_foundTurns walk_foundSlowed walk_howFar walk_tones walk_only walk_fars walk_cellAt walk_ends walk_seen walk_begun seas_known a0 a1 b0 b1 r0 r1 hm hv
    show okP (f_X6_should_L52b (f_X6_should_L52 f) v1 v2 v3 v4 v6 v8 o_walkIsOld o_endsAreOld told_pieceCount told_dragCount iSet told_howFar told_tones iCur told_warmths told_fars told_pieceCells told_pieceMonths told_pieceHighs told_pieceAges told_pieceNeeds told_dragCells told_dragEighths walk_last walk_turnsLet walk_slowsLet walk_fuel walk_glide walk_count walk_weightSum walk_toPass walk_foundNumber walk_foundWeight walk_foundTurns walk_foundSlowed walk_howFar walk_tones walk_only walk_fars walk_cellAt walk_ends walk_seen walk_begun seas_known 2152 ENf) _
    unfold f_X6_should_L52b
    refine ok_ite (fun z => ?_) (fun z => ?_)
    · have z1 : (100 : Int) ≤ v8.toInt := i_le.mp z
      rw [if_pos (by omega)] at hv
      rw [hv]
      refine ok_bd1 (ok_self (s_X6_partOf (ENf v1.toInt.toNat) 2152 v4)) (fun r3 q3 => ?_)
      exact ok_some q3
    have z1 : ¬ (100 : Int) ≤ v8.toInt := fun y => z (i_le.mpr y)
    have f8 : (v8 + 1).toInt = v8.toInt + (1 : Int) := i_add2 rfl rfl (by omega) (by omega)
    have c8 : v8.toNatClampNeg = v8.toInt.toNat := rfl
    have hx8 : ¬ (v8 < 0 ∨ 100 ≤ v8.toNatClampNeg) := ix (by omega) (by omega)
    have go : ∀ n6 : Int64, n6 = (if v1.toInt < v8.toInt + 1 then ENf v1.toInt.toNat else 0) → okP (f_X6_should_B100 (f_X6_should_L52 f) v1 v2 v3 v4 n6 v8 o_walkIsOld o_endsAreOld told_pieceCount told_dragCount iSet told_howFar told_tones iCur told_warmths told_fars told_pieceCells told_pieceMonths told_pieceHighs told_pieceAges told_pieceNeeds told_dragCells told_dragEighths walk_last walk_turnsLet walk_slowsLet walk_fuel walk_glide walk_count walk_weightSum walk_toPass walk_foundNumber walk_foundWeight walk_foundTurns walk_foundSlowed walk_howFar walk_tones walk_only walk_fars walk_cellAt walk_ends walk_seen walk_begun seas_known 2152 ENf) (fun u => f_X6_partOf (ENf v1.toInt.toNat) 2152 v4 = some u.1) := by
      intro n6 h6
      unfold f_X6_should_B100
      refine ok_nmi (fun x hx kx => ?_)
      refine ih v1 v2 v3 v4 n6 x o_walkIsOld o_endsAreOld told_pieceCount told_dragCount told_howFar told_tones told_warmths told_fars told_pieceCells told_pieceMonths told_pieceHighs told_pieceAges told_pieceNeeds told_dragCells told_dragEighths walk_last walk_turnsLet walk_slowsLet walk_fuel walk_glide walk_count walk_weightSum walk_toPass walk_foundNumber walk_foundWeight walk_foundTurns walk_foundSlowed walk_howFar walk_tones walk_only walk_fars walk_cellAt walk_ends walk_seen walk_begun seas_known a0 a1 b0 b1 (by omega) (by omega) (by omega) ?_
      rw [h6, show x.toInt = v8.toInt + 1 by omega]
    refine ok_chk hx8 ?_
    rw [c8]
    rw [c8] at hx8
    refine ok_ite (fun y => ?_) (fun y => ?_)
    · have y1 : (ENf v8.toInt.toNat).toInt ≤ (0 : Int) := j_le.mp ((lg_cmp_le _ _).mp y)
      refine go v6 ?_
      by_cases h : v1.toInt = v8.toInt
      · rw [hv, if_neg (by omega), if_pos (by omega), h, EN_0 _ (by omega) y1]
      · by_cases h2 : v1.toInt < v8.toInt
        · rw [hv, if_pos h2, if_pos (by omega)]
        · rw [hv, if_neg h2, if_neg (by omega)]
    refine ok_bd1 (e_behind v8 v2 v3 iSet iCur (by omega) (by omega) b0 (by omega)) (fun r q => ?_)
    replace q : r.toInt = drS iCur 8 v3.toInt v8.toInt v2.toInt.toNat := q
    rw [drS_still _ (by omega) (by omega)] at q
    refine ok_ite (fun w => ?_) (fun w => ?_)
    · have w1 : r.toInt = v1.toInt := i_eq.mp w
      refine ok_chk hx8 ?_
      refine ok_nmx (fun x hx => ?_)
      refine go x ?_
      rw [hx, hv, if_neg (by omega), if_pos (by omega), Int64.zero_add, show v8.toInt = v1.toInt by omega]
    · have w1 : ¬ r.toInt = v1.toInt := fun a => w (i_eq.mpr a)
      refine go v6 ?_
      by_cases h2 : v1.toInt < v8.toInt
      · rw [hv, if_pos h2, if_pos (by omega)]
      · rw [hv, if_neg h2, if_neg (by omega)]
set_option maxHeartbeats 8000000 in
theorem v_X6_should (x1 : Int32) (x2 : Int32) (x3 : Int32) (x4 : Int32) : okP (f_X6_should x1 x2 x3 x4 1 1 0 0 iSet iFar7 (fun _ => 0) iCur (fun _ => 0) iFars (fun _ => 0) (fun _ => 0) (fun _ => 0) (fun _ => 0) (fun _ => 0) (fun _ => 0) (fun _ => 0) 1 0 0 0 0 0 0 (-1) (-1) 0 0 0 (fun _ => 0) (fun _ => 0) (fun _ => 0) (fun _ => 0) (fun _ => 0) (fun _ => 0) (fun _ => 0) (fun _ => 0) iKnown 0 (fun _ => 0)) (fun u => (¬ (0 ≤ x1.toInt ∧ x1.toInt < 100 ∧ 0 ≤ x2.toInt ∧ x2.toInt ≤ 24 ∧ 0 ≤ x3.toInt ∧ x3.toInt ≤ 1 ∧ 0 ≤ x4.toInt ∧ x4.toInt ≤ 1) ∧ u.1.toInt = -1) ∨ ((0 ≤ x1.toInt ∧ x1.toInt < 100 ∧ 0 ≤ x2.toInt ∧ x2.toInt ≤ 24 ∧ 0 ≤ x3.toInt ∧ x3.toInt ≤ 1 ∧ 0 ≤ x4.toInt ∧ x4.toInt ≤ 1) ∧ f_X6_partOf (ENf x1.toInt.toNat) 2152 x4 = some u.1)) := by
  unfold f_X6_should
  refine ok_bd1 (s_X6_isCell x1) (fun r q => ?_)
  replace q : (r.toInt = 1 ∧ 0 ≤ x1.toInt ∧ x1.toInt < 100) ∨ (r.toInt = 0 ∧ (x1.toInt < 0 ∨ 100 ≤ x1.toInt)) := q
  refine ok_ite (fun y => ?_) (fun y => ?_)
  · have y1 : r.toInt = (0 : Int) := i_eq.mp y
    exact ok_some (Or.inl ⟨by omega, rfl⟩)
  have y1 : ¬ r.toInt = (0 : Int) := fun w => y (i_eq.mpr w)
  refine ok_bd1 (s_X6_within x2 0 24) (fun r2 q2 => ?_)
  replace q2 : (r2.toInt = 1 ∧ (0 : Int) ≤ x2.toInt ∧ x2.toInt ≤ (24 : Int)) ∨ (r2.toInt = 0 ∧ (x2.toInt < (0 : Int) ∨ (24 : Int) < x2.toInt)) := q2
  refine ok_ite (fun z => ?_) (fun z => ?_)
  · have z1 : r2.toInt = (0 : Int) := i_eq.mp z
    exact ok_some (Or.inl ⟨by omega, rfl⟩)
  have y2 : ¬ r2.toInt = (0 : Int) := fun w => z (i_eq.mpr w)
  refine ok_bd1 (s_X6_within x3 0 1) (fun r3 q3 => ?_)
  replace q3 : (r3.toInt = 1 ∧ (0 : Int) ≤ x3.toInt ∧ x3.toInt ≤ (1 : Int)) ∨ (r3.toInt = 0 ∧ (x3.toInt < (0 : Int) ∨ (1 : Int) < x3.toInt)) := q3
  refine ok_ite (fun z => ?_) (fun z => ?_)
  · have z1 : r3.toInt = (0 : Int) := i_eq.mp z
    exact ok_some (Or.inl ⟨by omega, rfl⟩)
  have y3 : ¬ r3.toInt = (0 : Int) := fun w => z (i_eq.mpr w)
  refine ok_bd1 (s_X6_within x4 0 1) (fun r4 q4 => ?_)
  replace q4 : (r4.toInt = 1 ∧ (0 : Int) ≤ x4.toInt ∧ x4.toInt ≤ (1 : Int)) ∨ (r4.toInt = 0 ∧ (x4.toInt < (0 : Int) ∨ (1 : Int) < x4.toInt)) := q4
  refine ok_ite (fun z => ?_) (fun z => ?_)
  · have z1 : r4.toInt = (0 : Int) := i_eq.mp z
    exact ok_some (Or.inl ⟨by omega, rfl⟩)
  have y4 : ¬ r4.toInt = (0 : Int) := fun w => z (i_eq.mpr w)
  refine ok_bd25 v_weighed (fun w1 w2 w3 w4 w5 w6 w7 w8 w9 w10 w11 w12 w13 w14 w15 w16 w17 w18 w19 w20 w21 w22 w23 w24 w25 q => ?_)
  obtain ⟨_, _, e1, e2⟩ := q
  have e1 : w24 = 2152 := e1
  have e2 : w25 = ENf := e2
  rw [e1, e2]
  refine ok_mono (e_should6 FU x1 x2 x3 x4 0 0 w1 w2 0 0 iFar7 (fun _ => 0) (fun _ => 0) iFars (fun _ => 0) (fun _ => 0) (fun _ => 0) (fun _ => 0) (fun _ => 0) (fun _ => 0) (fun _ => 0) w3 w4 w5 w6 w7 w8 w9 w10 w11 w12 w13 w14 w15 w16 w17 w18 w19 w20 w21 w22 w23 (by omega) (by omega) (by omega) (by omega) (by decide) (by decide) (FU_gt (by decide)) (by rw [if_neg (by have : (0 : Int32).toInt = 0 := rfl; omega)])) (fun u hu => Or.inr ⟨by omega, hu⟩)
theorem EN_fun : ENf = (fun c => ETL.getD c 0) := by
  funext c
  by_cases hc : c < 100
  · exact EN_tab c hc
  · rw [EN_hi c (by omega)]
    show (0 : Int64) = ETL.getD c 0
    rw [List.getD_eq_getElem?_getD, List.getElem?_eq_none (by show 100 ≤ c; omega)]
    rfl
theorem apart_0 : f_X0_apart 2152 ENf 2152 ENf = some 0 := by
  rw [EN_fun]
  decide +kernel
set_option maxHeartbeats 8000000 in
theorem e_leave1 (x1 : Int32) (hf to : Nat → Int32) (h : ∀ j : Nat, j < 7 → hf j = -1 ∧ to j = 0) : okP (f_X5_leaveOut x1 6 60 hf to) (fun u => u.1 = 0) := by
  have hl : ∀ (f : Nat) (v3 : Int32) (hf to : Nat → Int32), (7 - v3.toInt).toNat < f → 1 ≤ v3.toInt → v3.toInt ≤ 7 → (∀ j : Nat, j < 7 → hf j = -1 ∧ to j = 0) → okP (f_X5_leaveOut_L38 f x1 0 v3 6 60 hf to) (fun u => u.1 = 0) := by
    intro f
    induction f with
    | zero =>
      intro v3 hf to hm
      exact absurd hm (Nat.not_lt_zero _)
    | succ f ih =>
      intro v3 hf to hm v1 v7 h
      show okP (f_X5_leaveOut_L38b (f_X5_leaveOut_L38 f) x1 0 v3 6 60 hf to) _
      unfold f_X5_leaveOut_L38b
      refine ok_ite (fun z => ?_) (fun z => ?_)
      · refine ok_chk (Or.inl rfl) ?_
        exact ok_some rfl
      have z1 : ¬ (6 : Int) < v3.toInt := fun y => z (i_lt.mpr y)
      have fv : (v3 + 1).toInt = v3.toInt + (1 : Int) := i_add2 rfl rfl (by omega) (by omega)
      have hx : ¬ (v3 < 0 ∨ 7 ≤ v3.toNatClampNeg) := ix (by omega) (by omega)
      obtain ⟨e1, e2⟩ := h v3.toNatClampNeg (by rw [i_cl]; omega)
      have next : ∀ (hf to : Nat → Int32), (∀ j : Nat, j < 7 → hf j = -1 ∧ to j = 0) → okP (f_X5_leaveOut_B128 (f_X5_leaveOut_L38 f) x1 0 v3 6 60 hf to) (fun u => u.1 = 0) := by
        intro hf to h
        unfold f_X5_leaveOut_B128
        refine ok_nmi (fun x hx kx => ?_)
        exact ih x hf to (by omega) (by omega) (by omega) h
      have uh : ∀ (hf to : Nat → Int32), (∀ j : Nat, j < 7 → hf j = -1 ∧ to j = 0) → ∀ j : Nat, j < 7 → upd hf v3.toNatClampNeg (-1) j = -1 ∧ to j = 0 := by
        intro hf to h j hj
        by_cases hk : j = v3.toNatClampNeg
        · rw [hk, upd_is]
          exact ⟨rfl, (h _ (by omega)).2⟩
        · rw [upd_no hk]
          exact h j hj
      have ut : ∀ j : Nat, j < 7 → hf j = -1 ∧ upd to v3.toNatClampNeg 0 j = 0 := by
        intro j hj
        by_cases hk : j = v3.toNatClampNeg
        · rw [hk, upd_is]
          exact ⟨(h _ (by omega)).1, rfl⟩
        · rw [upd_no hk]
          exact h j hj
      have h116 : ∀ (hf to : Nat → Int32) (v4 : Int32), (∀ j : Nat, j < 7 → hf j = -1 ∧ to j = 0) → okP (f_X5_leaveOut_B116 (f_X5_leaveOut_L38 f) x1 0 v3 v4 6 60 hf to) (fun u => u.1 = 0) := by
        intro hf to v4 h
        unfold f_X5_leaveOut_B116
        refine ok_ite (fun _ => next hf to h) (fun _ => ?_)
        refine ok_chk hx ?_
        exact next _ to (uh hf to h)
      have h69 : ∀ v4 : Int32, okP (f_X5_leaveOut_B69 (f_X5_leaveOut_L38 f) x1 0 v3 v4 6 60 hf to) (fun u => u.1 = 0) := by
        intro v4
        have hB : okP (f_X5_leaveOut_B106 (f_X5_leaveOut_L38 f) x1 v3 v4 0 6 60 hf to) (fun u => u.1 = 0) := by
          unfold f_X5_leaveOut_B106 f_X5_leaveOut_B107
          refine ok_nmx (fun x hx2 => ?_)
          rw [show (0 ||| 0 : Int32) = 0 by decide] at hx2
          subst hx2
          refine ok_chk hx ?_
          exact h116 hf _ v4 ut
        unfold f_X5_leaveOut_B69
        refine ok_ite (fun _ => hB) (fun _ => ?_)
        refine ok_chk hx ?_
        refine ok_ite (fun _ => ?_) (fun w => absurd e2 w)
        refine ok_ite (fun _ => hB) (fun _ => ?_)
        refine ok_chk hx ?_
        exact ok_ite (fun _ => hB) (fun w => absurd e1 w)
      have h56 : ∀ y0 : Int32, okP (f_X5_leaveOut_B56 (f_X5_leaveOut_L38 f) x1 0 v3 y0 6 60 hf to) (fun u => u.1 = 0) := by
        intro y0
        unfold f_X5_leaveOut_B56
        refine ok_ite (fun _ => ?_) (fun _ => h69 y0)
        exact ok_ite (fun _ => h69 y0) (fun _ => h116 hf to y0 h)
      exact ok_ite (fun _ => h56 1) (fun _ => h56 0)
  unfold f_X5_leaveOut
  refine ok_ite (fun _ => ?_) (fun _ => hl FU 1 hf to (FU_gt (by decide)) (by decide) (by decide) h)
  refine ok_ite (fun _ => ?_) (fun z => absurd (by decide) z)
  unfold f_X5_leaveOut_B25
  refine ok_chk (Or.inl rfl) ?_
  exact ok_some rfl
set_option maxHeartbeats 8000000 in
theorem v_movedBy (x1 : Int32) (trial_last : Int32) (trial_turnsLet : Int32) (trial_slowsLet : Int32) (trial_fuel : Int32) (trial_glide : Int32) (trial_count : Int32) (trial_weightSum : Int64) (trial_toPass : Int32) (trial_foundNumber : Int32) (trial_foundWeight : Int32) (trial_foundTurns : Int32) (trial_foundSlowed : Int32) (trial_howFar : Nat → Int32) (trial_tones : Nat → Int32) (trial_only : Nat → Int32) (trial_fars : Nat → Int32) (trial_cellAt : Nat → Int32) (trial_ends : Nat → Int64) (trial_seen : Nat → Int32) (trial_begun : Nat → Int32) (seas_known : Nat → Int32) (otherEnds_total : Int64) (otherEnds_sums : Nat → Int64) (h0 : 0 ≤ x1.toInt) (h12 : x1.toInt ≤ 12) (hs : Hi0 otherEnds_sums) : okP (f_X6_movedBy x1 0 0 iSet iFar7 (fun _ => 0) iCur (fun _ => 0) iFars (fun _ => 0) (fun _ => 0) (fun _ => 0) (fun _ => 0) (fun _ => 0) (fun _ => 0) (fun _ => 0) ENf trial_last trial_turnsLet trial_slowsLet trial_fuel trial_glide trial_count trial_weightSum trial_toPass trial_foundNumber trial_foundWeight trial_foundTurns trial_foundSlowed trial_howFar trial_tones trial_only trial_fars trial_cellAt trial_ends trial_seen trial_begun seas_known otherEnds_total otherEnds_sums 2152 ENf) (fun u => ((8 ≤ x1.toInt ∧ x1.toInt < 12) ∧ u.1.toInt = -1 ∨ ¬ (8 ≤ x1.toInt ∧ x1.toInt < 12) ∧ u.1.toInt = 0) ∧ Hi0 u.2.2.2.2.2.2.2.2.2.2.2.2.2.2.2.2.2.2.2.2.2.2.2) := by
  unfold f_X6_movedBy
  refine ok_ite (fun z => ?_) (fun z => ?_)
  · have z1 : (12 : Int) ≤ x1.toInt := i_le.mp z
    unfold f_X6_movedBy_B17
    refine ok_bd3 (e_weigh1 x1 otherEnds_total otherEnds_sums iSet iCur (fun _ => 0) (fun _ => 0) (fun _ => 0) (fun _ => 0) (fun _ => 0) (fun _ => 0) (fun _ => 0) (fun _ => 0) seas_known hs) (fun t s k q => ?_)
    obtain ⟨q1, q2, q3⟩ := q
    have q1 : t = tot ENf 100 := q1
    have q2 : s = ENf := q2
    rw [TOT_is] at q1
    rw [q1, q2]
    refine ok_bd1 (show okP (f_X0_apart 2152 ENf 2152 ENf) (fun r => r = 0) from ⟨0, apart_0, rfl⟩) (fun r q => ?_)
    replace q : r = 0 := q
    refine ok_some ⟨Or.inr ⟨by omega, by show r.toInt = 0; rw [q]; rfl⟩, Hi0_EN⟩
  have z1 : ¬ (12 : Int) ≤ x1.toInt := fun y => z (i_le.mpr y)
  have f8 : (x1 - 8).toInt = x1.toInt - (8 : Int) := i_sub2 rfl rfl (by omega) (by omega)
  refine ok_bd1 (s_X6_isPiece (x1 - 8) 0) (fun r q => ?_)
  replace q : (r.toInt = 1 ∧ 0 ≤ (x1 - 8).toInt ∧ (x1 - 8).toInt < (0 : Int)) ∨ (r.toInt = 0 ∧ ((x1 - 8).toInt < 0 ∨ (0 : Int) ≤ (x1 - 8).toInt)) := q
  refine ok_ite (fun y => ?_) (fun y => ?_)
  rotate_left
  · have y1 : ¬ r.toInt = (0 : Int) := fun w => y (i_eq.mpr w)
    omega
  refine ok_ite (fun w => ?_) (fun w => ?_)
  · have w1 : x1.toInt < (8 : Int) := i_lt.mp w
    refine ok_bd10 (e_begin1 trial_last trial_turnsLet trial_slowsLet trial_fuel trial_glide trial_howFar trial_tones trial_only trial_fars trial_cellAt iSet iFar7 (fun _ => 0) iFars (by decide) (by decide) (by decide) (by decide) (by decide) (by decide) (fun j hj => ⟨(MOK_j.2 j hj).1, rfl⟩)) (fun b1 b2 b3 b4 b5 b6 b7 b8 b9 b10 q => ?_)
    obtain ⟨q1, _, _, q4, _, q6, _⟩ := q
    have e1 : b1 = 6 := q1
    have e4 : b4 = 60 := q4
    have e6 : RNone b6 b7 b8 := q6
    clear q1 q4 q6
    subst e1
    subst e4
    refine ok_bd4 (e_leave1 x1 b6 b7 (fun j hj => ⟨(e6 j hj).1, (e6 j hj).2.1⟩)) (fun r2 g2 g3 g4 q => ?_)
    replace q : r2 = 0 := q
    refine ok_ite (fun _ => ?_) (fun v => absurd q v)
    exact ok_some ⟨Or.inr ⟨by omega, rfl⟩, hs⟩
  · have w1 : ¬ x1.toInt < (8 : Int) := fun a => w (i_lt.mpr a)
    exact ok_some ⟨Or.inl ⟨by omega, rfl⟩, hs⟩
set_option maxHeartbeats 8000000 in
theorem v_X6_moves (x1 : Int32) : okP (f_X6_moves x1 1 1 0 0 iSet iFar7 (fun _ => 0) iCur (fun _ => 0) iFars (fun _ => 0) (fun _ => 0) (fun _ => 0) (fun _ => 0) (fun _ => 0) (fun _ => 0) (fun _ => 0) 1 0 0 0 0 0 0 (-1) (-1) 0 0 0 (fun _ => 0) (fun _ => 0) (fun _ => 0) (fun _ => 0) (fun _ => 0) (fun _ => 0) (fun _ => 0) (fun _ => 0) 1 0 0 0 0 0 0 (-1) (-1) 0 0 0 (fun _ => 0) (fun _ => 0) (fun _ => 0) (fun _ => 0) (fun _ => 0) (fun _ => 0) (fun _ => 0) (fun _ => 0) iKnown 0 (fun _ => 0) 0 (fun _ => 0)) (fun u => ((0 ≤ x1.toInt ∧ x1.toInt < 8 ∨ x1.toInt = 12) ∧ u.1.toInt = 0) ∨ (¬ (0 ≤ x1.toInt ∧ x1.toInt < 8 ∨ x1.toInt = 12) ∧ u.1.toInt = -1)) := by
  unfold f_X6_moves
  refine ok_bd1 (s_X6_within x1 0 12) (fun r q => ?_)
  replace q : (r.toInt = 1 ∧ (0 : Int) ≤ x1.toInt ∧ x1.toInt ≤ (12 : Int)) ∨ (r.toInt = 0 ∧ (x1.toInt < (0 : Int) ∨ (12 : Int) < x1.toInt)) := q
  refine ok_ite (fun y => ?_) (fun y => ?_)
  · have y1 : r.toInt = (0 : Int) := i_eq.mp y
    exact ok_some (Or.inr ⟨by omega, rfl⟩)
  have y1 : ¬ r.toInt = (0 : Int) := fun w => y (i_eq.mpr w)
  refine ok_bd25 v_weighed (fun w1 w2 w3 w4 w5 w6 w7 w8 w9 w10 w11 w12 w13 w14 w15 w16 w17 w18 w19 w20 w21 w22 w23 w24 w25 q => ?_)
  obtain ⟨e0, _, e1, e2⟩ := q
  have e0 : w20 = ENf := e0
  have e1 : w24 = 2152 := e1
  have e2 : w25 = ENf := e2
  rw [e0, e1, e2]
  refine ok_bd24 (v_movedBy x1 1 0 0 0 0 0 0 (-1) (-1) 0 0 0 (fun _ => 0) (fun _ => 0) (fun _ => 0) (fun _ => 0) (fun _ => 0) (fun _ => 0) (fun _ => 0) (fun _ => 0) w23 0 (fun _ => 0) (by omega) (by omega) (fun _ _ => rfl)) (fun r2 m2 m3 m4 m5 m6 m7 m8 m9 m10 m11 m12 m13 m14 m15 m16 m17 m18 m19 m20 m21 m22 m23 m24 q => ?_)
  obtain ⟨q1, _⟩ := q
  have q1 : (8 ≤ x1.toInt ∧ x1.toInt < 12) ∧ r2.toInt = -1 ∨ ¬ (8 ≤ x1.toInt ∧ x1.toInt < 12) ∧ r2.toInt = 0 := q1
  refine ok_some ?_
  show ((0 ≤ x1.toInt ∧ x1.toInt < 8 ∨ x1.toInt = 12) ∧ r2.toInt = 0) ∨ (¬ (0 ≤ x1.toInt ∧ x1.toInt < 8 ∨ x1.toInt = 12) ∧ r2.toInt = -1)
  omega
set_option maxHeartbeats 8000000 in
theorem e_most6 : ∀ (f : Nat) (v2 : Int32) (v3 : Int32) (v4 : Int32) (o_walkIsOld : Int32) (o_endsAreOld : Int32) (walk_last : Int32) (walk_turnsLet : Int32) (walk_slowsLet : Int32) (walk_fuel : Int32) (walk_glide : Int32) (walk_count : Int32) (walk_weightSum : Int64) (walk_toPass : Int32) (walk_foundNumber : Int32) (walk_foundWeight : Int32) (walk_foundTurns : Int32) (walk_foundSlowed : Int32) (walk_howFar : Nat → Int32) (walk_tones : Nat → Int32) (walk_only : Nat → Int32) (walk_fars : Nat → Int32) (walk_cellAt : Nat → Int32) (walk_seen : Nat → Int32) (walk_begun : Nat → Int32) (trial_last : Int32) (trial_turnsLet : Int32) (trial_slowsLet : Int32) (trial_fuel : Int32) (trial_glide : Int32) (trial_count : Int32) (trial_weightSum : Int64) (trial_toPass : Int32) (trial_foundNumber : Int32) (trial_foundWeight : Int32) (trial_foundTurns : Int32) (trial_foundSlowed : Int32) (trial_howFar : Nat → Int32) (trial_tones : Nat → Int32) (trial_only : Nat → Int32) (trial_fars : Nat → Int32) (trial_cellAt : Nat → Int32) (trial_ends : Nat → Int64) (trial_seen : Nat → Int32) (trial_begun : Nat → Int32) (seas_known : Nat → Int32) (otherEnds_total : Int64) (otherEnds_sums : Nat → Int64), 0 ≤ v4.toInt → v4.toInt ≤ 13 → (13 - v4.toInt).toNat < f → v2 = 0 → (v4.toInt = 0 ∧ v3.toInt = -1 ∨ 1 ≤ v4.toInt ∧ v3.toInt = 0) → Hi0 otherEnds_sums → okP (f_X6_most_L12 f v2 v3 v4 o_walkIsOld o_endsAreOld 0 0 iSet iFar7 (fun _ => 0) iCur (fun _ => 0) iFars (fun _ => 0) (fun _ => 0) (fun _ => 0) (fun _ => 0) (fun _ => 0) (fun _ => 0) (fun _ => 0) walk_last walk_turnsLet walk_slowsLet walk_fuel walk_glide walk_count walk_weightSum walk_toPass walk_foundNumber walk_foundWeight walk_foundTurns walk_foundSlowed walk_howFar walk_tones walk_only walk_fars walk_cellAt ENf walk_seen walk_begun trial_last trial_turnsLet trial_slowsLet trial_fuel trial_glide trial_count trial_weightSum trial_toPass trial_foundNumber trial_foundWeight trial_foundTurns trial_foundSlowed trial_howFar trial_tones trial_only trial_fars trial_cellAt trial_ends trial_seen trial_begun seas_known 2152 ENf otherEnds_total otherEnds_sums) (fun u => u.1 = 0) := by
  intro f
  induction f with
  | zero =>
    intro v2 v3 v4 o_walkIsOld o_endsAreOld walk_last walk_turnsLet walk_slowsLet walk_fuel walk_glide walk_count walk_weightSum walk_toPass walk_foundNumber walk_foundWeight walk_foundTurns walk_foundSlowed walk_howFar walk_tones walk_only walk_fars walk_cellAt walk_seen walk_begun trial_last trial_turnsLet trial_slowsLet trial_fuel trial_glide trial_count trial_weightSum trial_toPass trial_foundNumber trial_foundWeight trial_foundTurns trial_foundSlowed trial_howFar trial_tones trial_only trial_fars trial_cellAt trial_ends trial_seen trial_begun seas_known otherEnds_total otherEnds_sums _ _ hm
    exact absurd hm (Nat.not_lt_zero _)
  | succ f ih =>
    intro v2 v3 v4 o_walkIsOld o_endsAreOld walk_last walk_turnsLet walk_slowsLet walk_fuel walk_glide walk_count walk_weightSum walk_toPass walk_foundNumber walk_foundWeight walk_foundTurns walk_foundSlowed walk_howFar walk_tones walk_only walk_fars walk_cellAt walk_seen walk_begun trial_last trial_turnsLet trial_slowsLet trial_fuel trial_glide trial_count trial_weightSum trial_toPass trial_foundNumber trial_foundWeight trial_foundTurns trial_foundSlowed trial_howFar trial_tones trial_only trial_fars trial_cellAt trial_ends trial_seen trial_begun seas_known otherEnds_total otherEnds_sums r0 r1 hm hv h3 hs
    show okP (f_X6_most_L12b (f_X6_most_L12 f) v2 v3 v4 o_walkIsOld o_endsAreOld 0 0 iSet iFar7 (fun _ => 0) iCur (fun _ => 0) iFars (fun _ => 0) (fun _ => 0) (fun _ => 0) (fun _ => 0) (fun _ => 0) (fun _ => 0) (fun _ => 0) walk_last walk_turnsLet walk_slowsLet walk_fuel walk_glide walk_count walk_weightSum walk_toPass walk_foundNumber walk_foundWeight walk_foundTurns walk_foundSlowed walk_howFar walk_tones walk_only walk_fars walk_cellAt ENf walk_seen walk_begun trial_last trial_turnsLet trial_slowsLet trial_fuel trial_glide trial_count trial_weightSum trial_toPass trial_foundNumber trial_foundWeight trial_foundTurns trial_foundSlowed trial_howFar trial_tones trial_only trial_fars trial_cellAt trial_ends trial_seen trial_begun seas_known 2152 ENf otherEnds_total otherEnds_sums) _
    unfold f_X6_most_L12b
    refine ok_ite (fun z => ok_some hv) (fun z => ?_)
    have z1 : ¬ (13 : Int) ≤ v4.toInt := fun y => z (i_le.mpr y)
    have f4 : (v4 + 1).toInt = v4.toInt + (1 : Int) := i_add2 rfl rfl (by omega) (by omega)
    refine ok_bd24 (v_movedBy v4 trial_last trial_turnsLet trial_slowsLet trial_fuel trial_glide trial_count trial_weightSum trial_toPass trial_foundNumber trial_foundWeight trial_foundTurns trial_foundSlowed trial_howFar trial_tones trial_only trial_fars trial_cellAt trial_ends trial_seen trial_begun seas_known otherEnds_total otherEnds_sums r0 (by omega) hs) (fun r2 m2 m3 m4 m5 m6 m7 m8 m9 m10 m11 m12 m13 m14 m15 m16 m17 m18 m19 m20 m21 m22 m23 m24 q => ?_)
    obtain ⟨q1, q2⟩ := q
    have q1 : (8 ≤ v4.toInt ∧ v4.toInt < 12) ∧ r2.toInt = -1 ∨ ¬ (8 ≤ v4.toInt ∧ v4.toInt < 12) ∧ r2.toInt = 0 := q1
    refine ok_ite (fun y => ?_) (fun y => ?_)
    · have y1 : r2.toInt ≤ v3.toInt := i_le.mp y
      unfold f_X6_most_B40
      refine ok_nmi (fun x hx kx => ?_)
      exact ih v2 v3 x o_walkIsOld o_endsAreOld walk_last walk_turnsLet walk_slowsLet walk_fuel walk_glide walk_count walk_weightSum walk_toPass walk_foundNumber walk_foundWeight walk_foundTurns walk_foundSlowed walk_howFar walk_tones walk_only walk_fars walk_cellAt walk_seen walk_begun m2 m3 m4 m5 m6 m7 m8 m9 m10 m11 m12 m13 m14 m15 m16 m17 m18 m19 m20 m21 m22 m23 m24 (by omega) (by omega) (by omega) hv (by omega) q2
    · have y1 : ¬ r2.toInt ≤ v3.toInt := fun w => y (i_le.mpr w)
      unfold f_X6_most_B40
      refine ok_nmi (fun x hx kx => ?_)
      exact ih v4 r2 x o_walkIsOld o_endsAreOld walk_last walk_turnsLet walk_slowsLet walk_fuel walk_glide walk_count walk_weightSum walk_toPass walk_foundNumber walk_foundWeight walk_foundTurns walk_foundSlowed walk_howFar walk_tones walk_only walk_fars walk_cellAt walk_seen walk_begun m2 m3 m4 m5 m6 m7 m8 m9 m10 m11 m12 m13 m14 m15 m16 m17 m18 m19 m20 m21 m22 m23 m24 (by omega) (by omega) (by omega) (i_eq.mpr (by have : (0 : Int32).toInt = 0 := rfl; omega)) (by omega) q2
set_option maxHeartbeats 8000000 in
theorem v_X6_most : okP (f_X6_most 1 1 0 0 iSet iFar7 (fun _ => 0) iCur (fun _ => 0) iFars (fun _ => 0) (fun _ => 0) (fun _ => 0) (fun _ => 0) (fun _ => 0) (fun _ => 0) (fun _ => 0) 1 0 0 0 0 0 0 (-1) (-1) 0 0 0 (fun _ => 0) (fun _ => 0) (fun _ => 0) (fun _ => 0) (fun _ => 0) (fun _ => 0) (fun _ => 0) (fun _ => 0) 1 0 0 0 0 0 0 (-1) (-1) 0 0 0 (fun _ => 0) (fun _ => 0) (fun _ => 0) (fun _ => 0) (fun _ => 0) (fun _ => 0) (fun _ => 0) (fun _ => 0) iKnown 0 (fun _ => 0) 0 (fun _ => 0)) (fun u => u.1 = 0) := by
  unfold f_X6_most
  refine ok_bd25 v_weighed (fun w1 w2 w3 w4 w5 w6 w7 w8 w9 w10 w11 w12 w13 w14 w15 w16 w17 w18 w19 w20 w21 w22 w23 w24 w25 q => ?_)
  obtain ⟨e0, _, e1, e2⟩ := q
  have e0 : w20 = ENf := e0
  have e1 : w24 = 2152 := e1
  have e2 : w25 = ENf := e2
  rw [e0, e1, e2]
  exact e_most6 FU 0 (-1) 0 w1 w2 w3 w4 w5 w6 w7 w8 w9 w10 w11 w12 w13 w14 w15 w16 w17 w18 w19 w21 w22 1 0 0 0 0 0 0 (-1) (-1) 0 0 0 (fun _ => 0) (fun _ => 0) (fun _ => 0) (fun _ => 0) (fun _ => 0) (fun _ => 0) (fun _ => 0) (fun _ => 0) w23 0 (fun _ => 0) (by decide) (by decide) (FU_gt (by decide)) rfl (Or.inl ⟨rfl, rfl⟩) (fun _ _ => rfl)
