/-! What is made of it: the first. -/
def ETL : List Int64 := [144, 8, 16, 48, 32, 0, 112, 32, 0, 32, 8, 8, 0, 8, 24, 32, 40, 16, 0, 0, 16, 0, 48, 8, 48, 16, 48, 16, 0, 0, 48, 8, 8, 48, 16, 16, 32, 24, 8, 0, 32, 24, 48, 16, 64, 16, 48, 16, 48, 8, 0, 32, 16, 16, 16, 0, 32, 16, 8, 0, 112, 40, 48, 32, 48, 32, 96, 16, 0, 0, 32, 16, 16, 24, 16, 16, 16, 32, 0, 0, 0, 0, 0, 8, 48, 8, 0, 0, 0, 0, 32, 0, 0, 0, 8, 0, 0, 0, 0, 32]
theorem EN_tab : ∀ c : Nat, c < 100 → ENf c = ETL.getD c 0 := by decide +kernel
theorem TOT_is : tot ENf 100 = 2152 := by decide +kernel
theorem odds_tab : ∀ c : Nat, c < 100 → f_X6_partOf (ETL.getD c 0) 2152 0 = f_X7_lowest (ETL.getD c 0) 2152 0 ∧ f_X6_partOf (ETL.getD c 0) 2152 1 = f_X7_lowest (ETL.getD c 0) 2152 1 := by decide +kernel
theorem ok_self {α : Type} {x : Option α} {P : α → Prop} (h : okP x P) : okP x (fun r => x = some r) := by
  obtain ⟨a, ha, _⟩ := h
  exact ⟨a, ha, ha⟩
theorem odds_eq {c : Nat} (hc : c < 100) {p : Int32} (hp : p.toInt = 0 ∨ p.toInt = 1) : f_X6_partOf (ENf c) 2152 p = f_X7_lowest (ENf c) 2152 p := by
  rw [EN_tab c hc]
  rcases hp with h | h
  · rw [show p = 0 from i_eq.mpr h]
    exact (odds_tab c hc).1
  · rw [show p = 1 from i_eq.mpr h]
    exact (odds_tab c hc).2
set_option maxHeartbeats 8000000 in
theorem v_weighed : okP (f_X6_weighed 1 1 0 0 iSet iFar7 (fun _ => 0) iCur (fun _ => 0) iFars (fun _ => 0) (fun _ => 0) (fun _ => 0) (fun _ => 0) (fun _ => 0) (fun _ => 0) (fun _ => 0) 1 0 0 0 0 0 0 (-1) (-1) 0 0 0 (fun _ => 0) (fun _ => 0) (fun _ => 0) (fun _ => 0) (fun _ => 0) (fun _ => 0) (fun _ => 0) (fun _ => 0) iKnown 0 (fun _ => 0)) (fun u => u.2.2.2.2.2.2.2.2.2.2.2.2.2.2.2.2.2.2.2.1 = ENf ∧ u.2.2.2.2.2.2.2.2.2.2.2.2.2.2.2.2.2.2.2.2.2.2.1 = iKnown ∧ u.2.2.2.2.2.2.2.2.2.2.2.2.2.2.2.2.2.2.2.2.2.2.2.1 = 2152 ∧ u.2.2.2.2.2.2.2.2.2.2.2.2.2.2.2.2.2.2.2.2.2.2.2.2 = ENf) := by
  unfold f_X6_weighed
  refine ok_bd21 v_walked (fun w1 w2 w3 w4 w5 w6 w7 w8 w9 w10 w11 w12 w13 w14 w15 w16 w17 w18 w19 w20 w21 q => ?_)
  obtain ⟨_, _, _, _, _, _, _, _, _, _, e, _, _⟩ := q
  have e : w19 = ENf := e
  refine ok_ite (fun z => absurd z (by decide)) (fun _ => ?_)
  rw [e]
  refine ok_bd3 (e_weigh1 (-1) 0 (fun _ => 0) iSet iCur (fun _ => 0) (fun _ => 0) (fun _ => 0) (fun _ => 0) (fun _ => 0) (fun _ => 0) (fun _ => 0) (fun _ => 0) iKnown (fun _ _ => rfl)) (fun t s k q => ?_)
  obtain ⟨q1, q2, q3⟩ := q
  have q1 : t = tot ENf 100 := q1
  rw [TOT_is] at q1
  exact ok_some ⟨rfl, q3, q1, q2⟩
set_option maxHeartbeats 8000000 in
theorem v_X6_odds (x1 : Int32) (x2 : Int32) : okP (f_X6_odds x1 x2 1 1 0 0 iSet iFar7 (fun _ => 0) iCur (fun _ => 0) iFars (fun _ => 0) (fun _ => 0) (fun _ => 0) (fun _ => 0) (fun _ => 0) (fun _ => 0) (fun _ => 0) 1 0 0 0 0 0 0 (-1) (-1) 0 0 0 (fun _ => 0) (fun _ => 0) (fun _ => 0) (fun _ => 0) (fun _ => 0) (fun _ => 0) (fun _ => 0) (fun _ => 0) iKnown 0 (fun _ => 0)) (fun u => (¬ (0 ≤ x1.toInt ∧ x1.toInt < 100 ∧ 0 ≤ x2.toInt ∧ x2.toInt ≤ 1) ∧ u.1.toInt = -1) ∨ ((0 ≤ x1.toInt ∧ x1.toInt < 100 ∧ 0 ≤ x2.toInt ∧ x2.toInt ≤ 1) ∧ f_X6_partOf (ENf x1.toNatClampNeg) 2152 x2 = some u.1)) := by
  unfold f_X6_odds
  refine ok_bd1 (s_X6_isCell x1) (fun r q => ?_)
  replace q : (r.toInt = 1 ∧ 0 ≤ x1.toInt ∧ x1.toInt < 100) ∨ (r.toInt = 0 ∧ (x1.toInt < 0 ∨ 100 ≤ x1.toInt)) := q
  refine ok_ite (fun y => ?_) (fun y => ?_)
  · have y1 : r.toInt = (0 : Int) := i_eq.mp y
    exact ok_some (Or.inl ⟨by omega, rfl⟩)
  have y1 : ¬ r.toInt = (0 : Int) := fun w => y (i_eq.mpr w)
  refine ok_bd1 (s_X6_within x2 0 1) (fun r2 q2 => ?_)
  replace q2 : (r2.toInt = 1 ∧ (0 : Int) ≤ x2.toInt ∧ x2.toInt ≤ (1 : Int)) ∨ (r2.toInt = 0 ∧ (x2.toInt < (0 : Int) ∨ (1 : Int) < x2.toInt)) := q2
  refine ok_ite (fun z => ?_) (fun z => ?_)
  · have z1 : r2.toInt = (0 : Int) := i_eq.mp z
    exact ok_some (Or.inl ⟨by omega, rfl⟩)
  have z1 : ¬ r2.toInt = (0 : Int) := fun w => z (i_eq.mpr w)
  refine ok_bd25 v_weighed (fun w1 w2 w3 w4 w5 w6 w7 w8 w9 w10 w11 w12 w13 w14 w15 w16 w17 w18 w19 w20 w21 w22 w23 w24 w25 q => ?_)
  obtain ⟨_, _, e1, e2⟩ := q
  have e1 : w24 = 2152 := e1
  have e2 : w25 = ENf := e2
  refine ok_chk (ix (by omega) (by omega)) ?_
  rw [e1, e2]
  refine ok_bd1 (ok_self (s_X6_partOf (ENf x1.toNatClampNeg) 2152 x2)) (fun r3 q3 => ?_)
  exact ok_some (Or.inr ⟨by omega, q3⟩)
def whS (row : Nat) : Nat → Int32
  | 0 => 0
  | k + 1 => if 0 < (ENf (10 * row + k)).toInt then whS row k ||| ((1 : Int32) <<< Int32.ofInt (k : Int)) else whS row k
set_option maxHeartbeats 8000000 in
theorem e_where6 : ∀ (f : Nat) (v1 : Int32) (v3 : Int32) (v4 : Int32) (o_walkIsOld : Int32) (o_endsAreOld : Int32) (told_pieceCount : Int32) (told_dragCount : Int32) (told_settings : Nat → Int32) (told_howFar : Nat → Int32) (told_tones : Nat → Int32) (told_currents : Nat → Int32) (told_warmths : Nat → Int32) (told_fars : Nat → Int32) (told_pieceCells : Nat → Int32) (told_pieceMonths : Nat → Int32) (told_pieceHighs : Nat → Int32) (told_pieceAges : Nat → Int32) (told_pieceNeeds : Nat → Int32) (told_dragCells : Nat → Int32) (told_dragEighths : Nat → Int32) (walk_last : Int32) (walk_turnsLet : Int32) (walk_slowsLet : Int32) (walk_fuel : Int32) (walk_glide : Int32) (walk_count : Int32) (walk_weightSum : Int64) (walk_toPass : Int32) (walk_foundNumber : Int32) (walk_foundWeight : Int32) (walk_foundTurns : Int32) (walk_foundSlowed : Int32) (walk_howFar : Nat → Int32) (walk_tones : Nat → Int32) (walk_only : Nat → Int32) (walk_fars : Nat → Int32) (walk_cellAt : Nat → Int32) (walk_ends : Nat → Int64) (walk_seen : Nat → Int32) (walk_begun : Nat → Int32) (seas_known : Nat → Int32) (ends_total : Int64), 0 ≤ v1.toInt → v1.toInt ≤ 9 → 0 ≤ v4.toInt → v4.toInt ≤ 10 → (10 - v4.toInt).toNat < f → v3 = whS v1.toInt.toNat v4.toInt.toNat → okP (f_X6_where_L25 f v1 v3 v4 o_walkIsOld o_endsAreOld told_pieceCount told_dragCount told_settings told_howFar told_tones told_currents told_warmths told_fars told_pieceCells told_pieceMonths told_pieceHighs told_pieceAges told_pieceNeeds told_dragCells told_dragEighths walk_last walk_turnsLet walk_slowsLet walk_fuel walk_glide walk_count walk_weightSum walk_toPass walk_foundNumber walk_foundWeight walk_foundTurns walk_foundSlowed walk_howFar walk_tones walk_only walk_fars walk_cellAt walk_ends walk_seen walk_begun seas_known ends_total ENf) (fun u => u.1 = whS v1.toInt.toNat 10) := by
  intro f
  induction f with
  | zero =>
    intro v1 v3 v4 o_walkIsOld o_endsAreOld told_pieceCount told_dragCount told_settings told_howFar told_tones told_currents told_warmths told_fars told_pieceCells told_pieceMonths told_pieceHighs told_pieceAges told_pieceNeeds told_dragCells told_dragEighths walk_last walk_turnsLet walk_slowsLet walk_fuel walk_glide walk_count walk_weightSum walk_toPass walk_foundNumber walk_foundWeight walk_foundTurns walk_foundSlowed walk_howFar walk_tones walk_only walk_fars walk_cellAt walk_ends walk_seen walk_begun seas_known ends_total _ _ _ _ hm
    exact absurd hm (Nat.not_lt_zero _)
  | succ f ih =>
    intro v1 v3 v4 o_walkIsOld o_endsAreOld told_pieceCount told_dragCount told_settings told_howFar told_tones told_currents told_warmths told_fars told_pieceCells told_pieceMonths told_pieceHighs told_pieceAges told_pieceNeeds told_dragCells told_dragEighths walk_last walk_turnsLet walk_slowsLet walk_fuel walk_glide walk_count walk_weightSum walk_toPass walk_foundNumber walk_foundWeight walk_foundTurns walk_foundSlowed walk_howFar walk_tones walk_only walk_fars walk_cellAt walk_ends walk_seen walk_begun seas_known ends_total r0 r9 k0 k10 hm hv
    show okP (f_X6_where_L25b (f_X6_where_L25 f) v1 v3 v4 o_walkIsOld o_endsAreOld told_pieceCount told_dragCount told_settings told_howFar told_tones told_currents told_warmths told_fars told_pieceCells told_pieceMonths told_pieceHighs told_pieceAges told_pieceNeeds told_dragCells told_dragEighths walk_last walk_turnsLet walk_slowsLet walk_fuel walk_glide walk_count walk_weightSum walk_toPass walk_foundNumber walk_foundWeight walk_foundTurns walk_foundSlowed walk_howFar walk_tones walk_only walk_fars walk_cellAt walk_ends walk_seen walk_begun seas_known ends_total ENf) _
    unfold f_X6_where_L25b
    refine ok_ite (fun z => ?_) (fun z => ?_)
    · have z1 : (10 : Int) ≤ v4.toInt := i_le.mp z
      rw [show v4.toInt.toNat = 10 by omega] at hv
      exact ok_some hv
    have z1 : ¬ (10 : Int) ≤ v4.toInt := fun y => z (i_le.mpr y)
    have f1 : (10 * v1).toInt = (10 : Int) * v1.toInt := i_mul2 rfl rfl (by omega) (by omega)
    have f2 : ((10 * v1) + v4).toInt = (10 * v1).toInt + v4.toInt := i_add2 rfl rfl (by omega) (by omega)
    have f3 : (v4 + 1).toInt = v4.toInt + (1 : Int) := i_add2 rfl rfl (by omega) (by omega)
    have ci : ((10 * v1) + v4).toNatClampNeg = 10 * v1.toInt.toNat + v4.toInt.toNat := by
      rw [i_cl]
      omega
    have es : whS v1.toInt.toNat (v4.toInt.toNat + 1) = if 0 < (ENf (10 * v1.toInt.toNat + v4.toInt.toNat)).toInt then whS v1.toInt.toNat v4.toInt.toNat ||| ((1 : Int32) <<< Int32.ofInt ((v4.toInt.toNat : Nat) : Int)) else whS v1.toInt.toNat v4.toInt.toNat := rfl
    rw [show ((v4.toInt.toNat : Nat) : Int) = v4.toInt by omega, ofI] at es
    refine ok_chk (ix (by omega) (by omega)) ?_
    rw [ci]
    refine ok_ite (fun y => ?_) (fun y => ?_)
    · have y1 : (ENf (10 * v1.toInt.toNat + v4.toInt.toNat)).toInt ≤ (0 : Int) := j_le.mp ((lg_cmp_le _ _).mp y)
      unfold f_X6_where_B53
      refine ok_nmi (fun x hx kx => ?_)
      refine ih v1 v3 x o_walkIsOld o_endsAreOld told_pieceCount told_dragCount told_settings told_howFar told_tones told_currents told_warmths told_fars told_pieceCells told_pieceMonths told_pieceHighs told_pieceAges told_pieceNeeds told_dragCells told_dragEighths walk_last walk_turnsLet walk_slowsLet walk_fuel walk_glide walk_count walk_weightSum walk_toPass walk_foundNumber walk_foundWeight walk_foundTurns walk_foundSlowed walk_howFar walk_tones walk_only walk_fars walk_cellAt walk_ends walk_seen walk_begun seas_known ends_total r0 r9 (by omega) (by omega) (by omega) ?_
      rw [show x.toInt.toNat = v4.toInt.toNat + 1 by omega, es, if_neg (by omega)]
      exact hv
    · have y1 : ¬ (ENf (10 * v1.toInt.toNat + v4.toInt.toNat)).toInt ≤ (0 : Int) := fun w => y ((lg_cmp_le _ _).mpr (j_le.mpr w))
      refine ok_nmx (fun b hb => ?_)
      unfold f_X6_where_B53
      refine ok_nmi (fun x hx kx => ?_)
      refine ih v1 b x o_walkIsOld o_endsAreOld told_pieceCount told_dragCount told_settings told_howFar told_tones told_currents told_warmths told_fars told_pieceCells told_pieceMonths told_pieceHighs told_pieceAges told_pieceNeeds told_dragCells told_dragEighths walk_last walk_turnsLet walk_slowsLet walk_fuel walk_glide walk_count walk_weightSum walk_toPass walk_foundNumber walk_foundWeight walk_foundTurns walk_foundSlowed walk_howFar walk_tones walk_only walk_fars walk_cellAt walk_ends walk_seen walk_begun seas_known ends_total r0 r9 (by omega) (by omega) (by omega) ?_
      rw [show x.toInt.toNat = v4.toInt.toNat + 1 by omega, es, if_pos (by omega), hb, hv, d10 (by omega) (by omega)]
set_option maxHeartbeats 8000000 in
theorem v_X6_where (x1 : Int32) : okP (f_X6_where x1 1 1 0 0 iSet iFar7 (fun _ => 0) iCur (fun _ => 0) iFars (fun _ => 0) (fun _ => 0) (fun _ => 0) (fun _ => 0) (fun _ => 0) (fun _ => 0) (fun _ => 0) 1 0 0 0 0 0 0 (-1) (-1) 0 0 0 (fun _ => 0) (fun _ => 0) (fun _ => 0) (fun _ => 0) (fun _ => 0) (fun _ => 0) (fun _ => 0) (fun _ => 0) iKnown 0 (fun _ => 0)) (fun u => (¬ (0 ≤ x1.toInt ∧ x1.toInt ≤ 9) ∧ u.1.toInt = -1) ∨ ((0 ≤ x1.toInt ∧ x1.toInt ≤ 9) ∧ u.1 = whS x1.toInt.toNat 10)) := by
  unfold f_X6_where
  refine ok_bd1 (s_X6_within x1 0 9) (fun r q => ?_)
  replace q : (r.toInt = 1 ∧ (0 : Int) ≤ x1.toInt ∧ x1.toInt ≤ (9 : Int)) ∨ (r.toInt = 0 ∧ (x1.toInt < (0 : Int) ∨ (9 : Int) < x1.toInt)) := q
  refine ok_ite (fun y => ?_) (fun y => ?_)
  · have y1 : r.toInt = (0 : Int) := i_eq.mp y
    exact ok_some (Or.inl ⟨by omega, rfl⟩)
  have y1 : ¬ r.toInt = (0 : Int) := fun w => y (i_eq.mpr w)
  refine ok_bd25 v_weighed (fun w1 w2 w3 w4 w5 w6 w7 w8 w9 w10 w11 w12 w13 w14 w15 w16 w17 w18 w19 w20 w21 w22 w23 w24 w25 q => ?_)
  obtain ⟨_, _, _, e2⟩ := q
  have e2 : w25 = ENf := e2
  rw [e2]
  refine ok_mono (e_where6 FU x1 0 0 w1 w2 0 0 iSet iFar7 (fun _ => 0) iCur (fun _ => 0) iFars (fun _ => 0) (fun _ => 0) (fun _ => 0) (fun _ => 0) (fun _ => 0) (fun _ => 0) (fun _ => 0) w3 w4 w5 w6 w7 w8 w9 w10 w11 w12 w13 w14 w15 w16 w17 w18 w19 w20 w21 w22 w23 w24 (by omega) (by omega) (by decide) (by decide) (FU_gt (by decide)) rfl) (fun u hu => Or.inr ⟨by omega, hu⟩)
def cntS : Nat → Nat
  | 0 => 0
  | n + 1 => cntS n + (if 0 < (ENf n).toInt then 1 else 0)
theorem cnt_v : cntS 100 = 70 := by decide +kernel
theorem cnt_c : f_X6_howManyGreater 100 0 ENf = some 70 := by decide +kernel
set_option maxHeartbeats 8000000 in
theorem v_X6_count (x1 : Int32) : okP (f_X6_count x1 1 1 0 0 iSet iFar7 (fun _ => 0) iCur (fun _ => 0) iFars (fun _ => 0) (fun _ => 0) (fun _ => 0) (fun _ => 0) (fun _ => 0) (fun _ => 0) (fun _ => 0) 1 0 0 0 0 0 0 (-1) (-1) 0 0 0 (fun _ => 0) (fun _ => 0) (fun _ => 0) (fun _ => 0) (fun _ => 0) (fun _ => 0) (fun _ => 0) (fun _ => 0) iKnown 0 (fun _ => 0)) (fun u => (¬ (0 ≤ x1.toInt ∧ x1.toInt ≤ 4) ∧ u.1.toInt = -1) ∨ ((0 ≤ x1.toInt ∧ x1.toInt < 4) ∧ u.1.toInt = 0) ∨ (x1.toInt = 4 ∧ u.1.toInt = 70)) := by
  unfold f_X6_count
  refine ok_ite (fun z => ?_) (fun z => ?_)
  · have z1 : x1.toInt = (0 : Int) := i_eq.mp z
    refine ok_bd1 (show okP (f_X6_howManyAbove 7 (-1) iFar7) (fun r => r = 0) from ⟨0, by decide +kernel, rfl⟩) (fun r q => ?_)
    replace q : r = 0 := q
    exact ok_some (Or.inr (Or.inl ⟨by omega, by show r.toInt = 0; rw [q]; rfl⟩))
  have z0 : ¬ x1.toInt = (0 : Int) := fun w => z (i_eq.mpr w)
  refine ok_ite (fun z => ?_) (fun z => ?_)
  · have z1 : x1.toInt = (1 : Int) := i_eq.mp z
    refine ok_bd1 (show okP (f_X6_howManyAbove 7 0 (fun _ => 0)) (fun r => r = 0) from ⟨0, by decide +kernel, rfl⟩) (fun r q => ?_)
    replace q : r = 0 := q
    exact ok_some (Or.inr (Or.inl ⟨by omega, by show r.toInt = 0; rw [q]; rfl⟩))
  have z1 : ¬ x1.toInt = (1 : Int) := fun w => z (i_eq.mpr w)
  refine ok_ite (fun z => ?_) (fun z => ?_)
  · have z2 : x1.toInt = (2 : Int) := i_eq.mp z
    exact ok_some (Or.inr (Or.inl ⟨by omega, rfl⟩))
  have z2 : ¬ x1.toInt = (2 : Int) := fun w => z (i_eq.mpr w)
  refine ok_ite (fun z => ?_) (fun z => ?_)
  · have z3 : x1.toInt = (3 : Int) := i_eq.mp z
    exact ok_some (Or.inr (Or.inl ⟨by omega, rfl⟩))
  have z3 : ¬ x1.toInt = (3 : Int) := fun w => z (i_eq.mpr w)
  refine ok_ite (fun z => ?_) (fun z => ?_)
  · have z4 : x1.toInt = (4 : Int) := i_eq.mp z
    refine ok_bd25 v_weighed (fun w1 w2 w3 w4 w5 w6 w7 w8 w9 w10 w11 w12 w13 w14 w15 w16 w17 w18 w19 w20 w21 w22 w23 w24 w25 q => ?_)
    obtain ⟨_, _, _, e2⟩ := q
    have e2 : w25 = ENf := e2
    rw [e2]
    refine ok_bd1 (show okP (f_X6_howManyGreater 100 0 ENf) (fun r => r = 70) from ⟨70, cnt_c, rfl⟩) (fun r q => ?_)
    replace q : r = 70 := q
    exact ok_some (Or.inr (Or.inr ⟨z4, by show r.toInt = 70; rw [q]; rfl⟩))
  have z4 : ¬ x1.toInt = (4 : Int) := fun w => z (i_eq.mpr w)
  exact ok_some (Or.inl ⟨by omega, rfl⟩)
