/-! Ways of a fresh object: first and model. -/
def ENf : Nat → Int64 := WE.foldl arrU (fun _ => 0)
def SEf : Nat → Int32 := seeU (WS.foldl seeU (fun _ => 0)) (0, 0)
theorem MOK_j : MOK jSet jFar7 (fun _ => 0) := by
  refine ⟨rfl, fun j hj => ⟨?_, rfl⟩⟩
  show iFar7 j = -1
  unfold iFar7
  rw [if_pos hj]
set_option maxHeartbeats 4000000 in
theorem v_walked : okP (f_X6_walked 1 iSet iFar7 (fun _ => 0) iFars 1 0 0 0 0 0 0 (-1) (-1) 0 0 0 (fun _ => 0) (fun _ => 0) (fun _ => 0) (fun _ => 0) (fun _ => 0) (fun _ => 0) (fun _ => 0) (fun _ => 0)) (fun u => u.2.1 = 6 ∧ u.2.2.1 = 1 ∧ u.2.2.2.1 = 0 ∧ u.2.2.2.2.1 = 60 ∧ u.2.2.2.2.2.1 = 1 ∧ u.2.2.2.2.2.2.1.toInt = 89 ∧ u.2.2.2.2.2.2.2.1 = WE.foldl wsU 0 ∧ u.2.2.2.2.2.2.2.2.2.1 = -1 ∧ RNone u.2.2.2.2.2.2.2.2.2.2.2.2.2.1 u.2.2.2.2.2.2.2.2.2.2.2.2.2.2.1 u.2.2.2.2.2.2.2.2.2.2.2.2.2.2.2.1 ∧ u.2.2.2.2.2.2.2.2.2.2.2.2.2.2.2.2.2.1 0 = 0 ∧ u.2.2.2.2.2.2.2.2.2.2.2.2.2.2.2.2.2.2.1 = ENf ∧ u.2.2.2.2.2.2.2.2.2.2.2.2.2.2.2.2.2.2.2.1 = SEf ∧ (∀ j : Nat, j < 24 → (u.2.2.2.2.2.2.2.2.2.2.2.2.2.2.2.2.2.2.2.2 j).toInt = (lenE j : Int))) := by
  unfold f_X6_walked
  refine ok_ite (fun z => absurd z (by decide)) (fun _ => ?_)
  refine ok_bd10 (e_begin1 1 0 0 0 0 (fun _ => 0) (fun _ => 0) (fun _ => 0) (fun _ => 0) (fun _ => 0) iSet iFar7 (fun _ => 0) iFars (by decide) (by decide) (by decide) (by decide) (by decide) (by decide) (fun j hj => ⟨(MOK_j.2 j hj).1, rfl⟩)) (fun w1 w2 w3 w4 w5 w6 w7 w8 w9 w10 q => ?_)
  obtain ⟨q1, q2, q3, q4, q5, q6, q7⟩ := q
  have e1 : w1 = 6 := q1
  have e2 : w2 = 1 := q2
  have e3 : w3 = 0 := q3
  have e4 : w4 = 60 := q4
  have e5 : w5 = 1 := q5
  have e6 : RNone w6 w7 w8 := q6
  have e7 : w10 0 = 0 := q7
  clear q1 q2 q3 q4 q5 q6 q7
  subst e1
  subst e2
  subst e3
  subst e4
  subst e5
  refine ok_bd11 (e_goAll 60 0 0 (-1) (-1) 0 0 0 w6 w7 w8 w9 w10 (fun _ => 0) (by decide) (by decide) e6 e7) (fun g0 g1 g2 g3 g4 g5 g6 g7 g8 g9 g10 q => ?_)
  obtain ⟨y1, y2, y3, y4, y5, y6, y7, y8⟩ := q
  exact ok_some ⟨rfl, rfl, rfl, rfl, rfl, y1, y2, y4, e6, y5, y6, y7, y8⟩
theorem v_X6_ways : okP (f_X6_ways 1 iSet iFar7 (fun _ => 0) iFars 1 0 0 0 0 0 0 (-1) (-1) 0 0 0 (fun _ => 0) (fun _ => 0) (fun _ => 0) (fun _ => 0) (fun _ => 0) (fun _ => 0) (fun _ => 0) (fun _ => 0)) (fun u => u.1.toInt = 89) := by
  unfold f_X6_ways
  refine ok_bd21 v_walked (fun w1 w2 w3 w4 w5 w6 w7 w8 w9 w10 w11 w12 w13 w14 w15 w16 w17 w18 w19 w20 w21 q => ?_)
  obtain ⟨_, _, _, _, _, q, _⟩ := q
  exact ok_some q
theorem v_X6_weight : okP (f_X6_weight 1 iSet iFar7 (fun _ => 0) iFars 1 0 0 0 0 0 0 (-1) (-1) 0 0 0 (fun _ => 0) (fun _ => 0) (fun _ => 0) (fun _ => 0) (fun _ => 0) (fun _ => 0) (fun _ => 0) (fun _ => 0)) (fun u => u.1 = WE.foldl wsU 0) := by
  unfold f_X6_weight
  refine ok_bd21 v_walked (fun w1 w2 w3 w4 w5 w6 w7 w8 w9 w10 w11 w12 w13 w14 w15 w16 w17 w18 w19 w20 w21 q => ?_)
  obtain ⟨_, _, _, _, _, _, q, _⟩ := q
  exact ok_some q
def ansW (o : Option (List Int × Int × Int)) (h : Int) : Int := match o with
  | none => -4
  | some w => if h = -3 then 0 else if h = -2 then w.2.2 else if h = -1 then (wt w.2.2).toInt else w.1.getD h.toNat 0
theorem WM_P : WM.map (fun w => (w.1.tail, w.2.2)) = WP := by decide +kernel
theorem WM_7 : ∀ w ∈ WM, w.1.length = 7 ∧ w.1.getD 0 0 = 0 := by decide +kernel
theorem WM_len : WM.length = 89 := by decide +kernel
theorem tail_getD {l : List Int} {n j : Nat} (h : l.length = n + 1) : l.tail.getD j 0 = l.getD (j + 1) 0 := by
  match l, h with
  | a :: r, _ => rfl
set_option maxHeartbeats 4000000 in
theorem v_X6_way (x1 : Int32) (x2 : Int32) : okP (f_X6_way x1 x2 1 iSet iFar7 (fun _ => 0) iFars 1 0 0 0 0 0 0 (-1) (-1) 0 0 0 (fun _ => 0) (fun _ => 0) (fun _ => 0) (fun _ => 0) (fun _ => 0) (fun _ => 0) (fun _ => 0) (fun _ => 0)) (fun u => (¬ (0 ≤ x1.toInt ∧ -3 ≤ x2.toInt ∧ x2.toInt ≤ 6) ∧ u.1.toInt = -1) ∨ ((0 ≤ x1.toInt ∧ -3 ≤ x2.toInt ∧ x2.toInt ≤ 6) ∧ u.1.toInt = ansW WM[x1.toInt.toNat]? x2.toInt)) := by
  unfold f_X6_way
  refine ok_ite (fun z => ?_) (fun z => ?_)
  · have z1 : x1.toInt < (0 : Int) := i_lt.mp z
    exact ok_some (Or.inl ⟨by omega, rfl⟩)
  have z1 : ¬ x1.toInt < (0 : Int) := fun y => z (i_lt.mpr y)
  refine ok_bd1 (s_X6_within x2 (-3) (iSet 2)) (fun r q => ?_)
  replace q : (r.toInt = 1 ∧ (-3 : Int) ≤ x2.toInt ∧ x2.toInt ≤ (6 : Int)) ∨ (r.toInt = 0 ∧ (x2.toInt < (-3 : Int) ∨ (6 : Int) < x2.toInt)) := q
  refine ok_ite (fun y => ?_) (fun y => ?_)
  · have y1 : r.toInt = (0 : Int) := i_eq.mp y
    exact ok_some (Or.inl ⟨by omega, rfl⟩)
  have y1 : ¬ r.toInt = (0 : Int) := fun w => y (i_eq.mpr w)
  have hin : 0 ≤ x1.toInt ∧ -3 ≤ x2.toInt ∧ x2.toInt ≤ 6 := by omega
  refine ok_bd21 v_walked (fun w1 w2 w3 w4 w5 w6 w7 w8 w9 w10 w11 w12 w13 w14 w15 w16 w17 w18 w19 w20 w21 q => ?_)
  obtain ⟨q1, q2, q3, q4, q5, q6, _, q8, q9, q10, _, _, q13⟩ := q
  have e1 : w2 = 6 := q1
  have e2 : w3 = 1 := q2
  have e3 : w4 = 0 := q3
  have e4 : w5 = 60 := q4
  have e5 : w6 = 1 := q5
  have e6 : w7.toInt = 89 := q6
  have e8 : w10 = -1 := q8
  have e9 : RNone w14 w15 w16 := q9
  have e10 : w18 0 = 0 := q10
  have e13 : ∀ j : Nat, j < 24 → (w21 j).toInt = (lenE j : Int) := q13
  clear q1 q2 q3 q4 q5 q6 q8 q9 q10 q13
  subst e1
  subst e2
  subst e3
  subst e4
  subst e5
  subst e8
  refine ok_bd11 (e_find1 x1 60 w7 w8 w9 w11 w12 w13 w14 w15 w16 w17 w18 w19 w20 w21 (by decide) (by decide) e9 e10 e6 e13) (fun r2 g1 g2 g3 g4 g5 g6 g7 g8 g9 g10 q => ?_)
  rcases q with ⟨a1, a2, it, a3, a4, a5, a6, a7, a8⟩ | ⟨a1, a2⟩
  · have a2 : r2 = 1 := a2
    have a4 : g5 = wt it.2 := a4
    have a5 : g6.toInt = it.2 := a5
    have a6 : g7 = 0 := a6
    have a7 : g8 0 = 0 := a7
    have a8 : PathAt 0 it.1 g8 := a8
    rw [← WM_P, List.getElem?_map] at a3
    cases hw : WM[x1.toInt.toNat]? with
    | none =>
      rw [hw] at a3
      exact absurd a3 (by intro z; injection z)
    | some w =>
      rw [hw] at a3
      injection a3 with a3
      obtain ⟨l7, l0⟩ := WM_7 w (List.mem_of_getElem? hw)
      have b1 : it.1 = w.1.tail := by rw [← a3]
      have b2 : it.2 = w.2.2 := by rw [← a3]
      refine ok_ite (fun z => ?_) (fun _ => ?_)
      · rw [a2] at z
        exact absurd z (by decide)
      refine ok_ite (fun z => ?_) (fun z => ?_)
      · have z1 : x2.toInt = (-3 : Int) := i_eq.mp z
        refine ok_some (Or.inr ⟨hin, ?_⟩)
        show g7.toInt = if x2.toInt = -3 then 0 else _
        rw [if_pos z1, a6]
        rfl
      have z3 : ¬ x2.toInt = (-3 : Int) := fun w => z (i_eq.mpr w)
      refine ok_ite (fun z => ?_) (fun z => ?_)
      · have z1 : x2.toInt = (-2 : Int) := i_eq.mp z
        refine ok_some (Or.inr ⟨hin, ?_⟩)
        show g6.toInt = if x2.toInt = -3 then 0 else if x2.toInt = -2 then w.2.2 else _
        rw [if_neg z3, if_pos z1, a5, b2]
      have z2 : ¬ x2.toInt = (-2 : Int) := fun w => z (i_eq.mpr w)
      refine ok_ite (fun z => ?_) (fun z => ?_)
      · have z1 : x2.toInt = (-1 : Int) := i_eq.mp z
        refine ok_some (Or.inr ⟨hin, ?_⟩)
        show g5.toInt = if x2.toInt = -3 then 0 else if x2.toInt = -2 then w.2.2 else if x2.toInt = -1 then (wt w.2.2).toInt else _
        rw [if_neg z3, if_neg z2, if_pos z1, a4, b2]
      have z1 : ¬ x2.toInt = (-1 : Int) := fun w => z (i_eq.mpr w)
      refine ok_chk (ix (by omega) (by omega)) ?_
      refine ok_some (Or.inr ⟨hin, ?_⟩)
      show (g8 x2.toNatClampNeg).toInt = if x2.toInt = -3 then 0 else if x2.toInt = -2 then w.2.2 else if x2.toInt = -1 then (wt w.2.2).toInt else w.1.getD x2.toInt.toNat 0
      rw [if_neg z3, if_neg z2, if_neg z1]
      have cx : x2.toNatClampNeg = x2.toInt.toNat := rfl
      rw [cx]
      by_cases h0 : x2.toInt = 0
      · rw [h0]
        show (g8 0).toInt = w.1.getD 0 0
        rw [a7, l0]
        rfl
      · have hp := a8 (x2.toInt.toNat - 1) x2.toInt.toNat (by rw [b1, List.length_tail, l7]; omega) (by omega)
        rw [hp, b1, tail_getD l7, show x2.toInt.toNat - 1 + 1 = x2.toInt.toNat by omega]
  · have a2 : r2 = 0 := a2
    refine ok_ite (fun _ => ?_) (fun z => absurd a2 z)
    refine ok_some (Or.inr ⟨hin, ?_⟩)
    rw [List.getElem?_eq_none (by rw [WM_len]; omega)]
    rfl
set_option maxHeartbeats 4000000 in
theorem v_X6_may (x1 : Int32) (x2 : Int32) : okP (f_X6_may x1 x2 1 iSet iFar7 (fun _ => 0) iFars 1 0 0 0 0 0 0 (-1) (-1) 0 0 0 (fun _ => 0) (fun _ => 0) (fun _ => 0) (fun _ => 0) (fun _ => 0) (fun _ => 0) (fun _ => 0) (fun _ => 0)) (fun u => (¬ (0 ≤ x1.toInt ∧ x1.toInt ≤ 6 ∧ 0 ≤ x2.toInt ∧ x2.toInt ≤ 9) ∧ u.1.toInt = -1) ∨ ((0 ≤ x1.toInt ∧ x1.toInt ≤ 6 ∧ 0 ≤ x2.toInt ∧ x2.toInt ≤ 9) ∧ u.1 = SEf (10 * x1.toInt.toNat + x2.toInt.toNat))) := by
  unfold f_X6_may
  refine ok_bd1 (s_X6_within x1 0 (iSet 2)) (fun r q => ?_)
  replace q : (r.toInt = 1 ∧ (0 : Int) ≤ x1.toInt ∧ x1.toInt ≤ (6 : Int)) ∨ (r.toInt = 0 ∧ (x1.toInt < (0 : Int) ∨ (6 : Int) < x1.toInt)) := q
  refine ok_ite (fun y => ?_) (fun y => ?_)
  · have y1 : r.toInt = (0 : Int) := i_eq.mp y
    exact ok_some (Or.inl ⟨by omega, rfl⟩)
  have y1 : ¬ r.toInt = (0 : Int) := fun w => y (i_eq.mpr w)
  refine ok_bd1 (s_X6_within x2 0 9) (fun r2 q2 => ?_)
  replace q2 : (r2.toInt = 1 ∧ (0 : Int) ≤ x2.toInt ∧ x2.toInt ≤ (9 : Int)) ∨ (r2.toInt = 0 ∧ (x2.toInt < (0 : Int) ∨ (9 : Int) < x2.toInt)) := q2
  refine ok_ite (fun z => ?_) (fun z => ?_)
  · have z1 : r2.toInt = (0 : Int) := i_eq.mp z
    exact ok_some (Or.inl ⟨by omega, rfl⟩)
  have z1 : ¬ r2.toInt = (0 : Int) := fun w => z (i_eq.mpr w)
  refine ok_bd21 v_walked (fun w1 w2 w3 w4 w5 w6 w7 w8 w9 w10 w11 w12 w13 w14 w15 w16 w17 w18 w19 w20 w21 q => ?_)
  obtain ⟨_, _, _, _, _, _, _, _, _, _, _, e, _⟩ := q
  have e : w20 = SEf := e
  have f1 : (10 * x1).toInt = (10 : Int) * x1.toInt := i_mul2 rfl rfl (by omega) (by omega)
  have f2 : ((10 * x1) + x2).toInt = (10 * x1).toInt + x2.toInt := i_add2 rfl rfl (by omega) (by omega)
  refine ok_chk (ix (by omega) (by omega)) ?_
  refine ok_some (Or.inr ⟨by omega, ?_⟩)
  show w20 ((10 * x1) + x2).toNatClampNeg = _
  rw [e, i_cl, show ((10 * x1) + x2).toInt.toNat = 10 * x1.toInt.toNat + x2.toInt.toNat by omega]
/-! The model. -/
set_option maxHeartbeats 4000000 in
theorem v_X7_ways : okP (f_X7_ways 0 0 0 0 jSet jFar7 (fun _ => 0) (fun _ => 0) (fun _ => 0) (fun _ => 0) (fun _ => 0) (fun _ => 0) (fun _ => 0) (fun _ => 0) (fun _ => 0)) (fun u => u.1.toInt = 89) := by
  unfold f_X7_ways
  refine ok_bd3 (e_told 0 0 0) (fun a b c q => ?_)
  refine ok_bd7 (e_begins1 0 jSet (fun _ => 0) (fun _ => 0) (fun _ => 0) (fun _ => 0) (fun _ => 0) (fun _ => 0) (by decide)) (fun b1 b2 b3 b4 b5 b6 b7 qb => ?_)
  injection qb with e1 qb
  injection qb with e2 qb
  injection qb with e3 qb
  injection qb with e4 qb
  injection qb with e5 qb
  injection qb with e6 e7
  subst e1
  subst e2
  subst e3
  subst e4
  subst e5
  subst e6
  subst e7
  have hh := e_waysL a b c jSet jFar7 (fun _ => 0) MOK_j 100 FU WM [(-1, 0, 0, 0, 0)] 0 0 _ _ (fun _ => 0) (fun _ => 0) _ _ _ _ WM_is (Nat.le_of_lt (FU_gt (by decide))) (by decide) (by decide) (by decide) (RkL_start (fun _ => 0) (fun _ => 0) (fun _ => 0) (fun _ => 0) (fun _ => 0) (fun _ => 0) (fun _ => 0) (fun _ => 0)) (by decide) (by rw [WM_len]; decide)
  refine ok_mono hh (fun u hu => ?_)
  rw [hu, WM_len]
  rfl
set_option maxHeartbeats 4000000 in
theorem v_X7_weight : okP (f_X7_weight 0 0 0 0 jSet jFar7 (fun _ => 0) (fun _ => 0) (fun _ => 0) (fun _ => 0) (fun _ => 0) (fun _ => 0) (fun _ => 0) (fun _ => 0) (fun _ => 0)) (fun u => u.1 = WE.foldl wsU 0) := by
  unfold f_X7_weight
  refine ok_bd3 (e_told 0 0 0) (fun a b c q => ?_)
  refine ok_bd7 (e_begins1 0 jSet (fun _ => 0) (fun _ => 0) (fun _ => 0) (fun _ => 0) (fun _ => 0) (fun _ => 0) (by decide)) (fun b1 b2 b3 b4 b5 b6 b7 qb => ?_)
  injection qb with e1 qb
  injection qb with e2 qb
  injection qb with e3 qb
  injection qb with e4 qb
  injection qb with e5 qb
  injection qb with e6 e7
  subst e1
  subst e2
  subst e3
  subst e4
  subst e5
  subst e6
  subst e7
  have hh := e_weightL a b c jSet jFar7 (fun _ => 0) MOK_j 100 FU WM [(-1, 0, 0, 0, 0)] 0 0 _ _ (fun _ => 0) (fun _ => 0) _ _ _ _ WM_is (Nat.le_of_lt (FU_gt (by decide))) (by decide) (by decide) (by decide) (RkL_start (fun _ => 0) (fun _ => 0) (fun _ => 0) (fun _ => 0) (fun _ => 0) (fun _ => 0) (fun _ => 0) (fun _ => 0))
  refine ok_mono hh (fun u hu => ?_)
  rw [hu, ← WM_E, List.foldl_map]
  rfl
theorem may_eq : ∀ h : Nat, h < 7 → ∀ row : Nat, row < 10 → SEf (10 * h + row) = WM.foldl (fun b w => b ||| bitM (h : Int) (row : Int) w) 0 := by decide +kernel
set_option maxHeartbeats 4000000 in
theorem v_X7_may (x1 : Int32) (x2 : Int32) : okP (f_X7_may x1 x2 0 0 0 0 jSet jFar7 (fun _ => 0) (fun _ => 0) (fun _ => 0) (fun _ => 0) (fun _ => 0) (fun _ => 0) (fun _ => 0) (fun _ => 0) (fun _ => 0)) (fun u => (¬ (0 ≤ x1.toInt ∧ x1.toInt ≤ 6 ∧ 0 ≤ x2.toInt ∧ x2.toInt ≤ 9) ∧ u.1.toInt = -1) ∨ ((0 ≤ x1.toInt ∧ x1.toInt ≤ 6 ∧ 0 ≤ x2.toInt ∧ x2.toInt ≤ 9) ∧ u.1 = SEf (10 * x1.toInt.toNat + x2.toInt.toNat))) := by
  unfold f_X7_may
  refine ok_bd1 (s_X7_in x1.toInt64 0 ((jSet 2).toInt64)) (fun r q => ?_)
  replace q : (r.toInt = 1 ∧ (0 : Int) ≤ x1.toInt64.toInt ∧ x1.toInt64.toInt ≤ (6 : Int)) ∨ (r.toInt = 0 ∧ (x1.toInt64.toInt < (0 : Int) ∨ (6 : Int) < x1.toInt64.toInt)) := q
  rw [j_i2l] at q
  refine ok_ite (fun y => ?_) (fun y => ?_)
  · have y1 : r.toInt = (0 : Int) := i_eq.mp y
    exact ok_some (Or.inl ⟨by omega, rfl⟩)
  have y1 : ¬ r.toInt = (0 : Int) := fun w => y (i_eq.mpr w)
  refine ok_bd1 (s_X7_in x2.toInt64 0 9) (fun r2 q2 => ?_)
  replace q2 : (r2.toInt = 1 ∧ (0 : Int) ≤ x2.toInt64.toInt ∧ x2.toInt64.toInt ≤ (9 : Int)) ∨ (r2.toInt = 0 ∧ (x2.toInt64.toInt < (0 : Int) ∨ (9 : Int) < x2.toInt64.toInt)) := q2
  rw [j_i2l] at q2
  refine ok_ite (fun z => ?_) (fun z => ?_)
  · have z1 : r2.toInt = (0 : Int) := i_eq.mp z
    exact ok_some (Or.inl ⟨by omega, rfl⟩)
  have z1 : ¬ r2.toInt = (0 : Int) := fun w => z (i_eq.mpr w)
  refine ok_bd3 (e_told 0 0 0) (fun a b c q => ?_)
  refine ok_bd7 (e_begins1 0 jSet (fun _ => 0) (fun _ => 0) (fun _ => 0) (fun _ => 0) (fun _ => 0) (fun _ => 0) (by decide)) (fun b1 b2 b3 b4 b5 b6 b7 qb => ?_)
  injection qb with e1 qb
  injection qb with e2 qb
  injection qb with e3 qb
  injection qb with e4 qb
  injection qb with e5 qb
  injection qb with e6 e7
  subst e1
  subst e2
  subst e3
  subst e4
  subst e5
  subst e6
  subst e7
  have hh := e_mayL a b c jSet jFar7 (fun _ => 0) MOK_j x1 x2 (by omega) (by omega) 100 FU WM [(-1, 0, 0, 0, 0)] 0 0 _ _ (fun _ => 0) (fun _ => 0) _ _ _ _ WM_is (Nat.le_of_lt (FU_gt (by decide))) (by decide) (by decide) (by decide) (RkL_start (fun _ => 0) (fun _ => 0) (fun _ => 0) (fun _ => 0) (fun _ => 0) (fun _ => 0) (fun _ => 0) (fun _ => 0))
  refine ok_mono hh (fun u hu => Or.inr ⟨by omega, ?_⟩)
  rw [hu, may_eq x1.toInt.toNat (by omega) x2.toInt.toNat (by omega), show ((x1.toInt.toNat : Nat) : Int) = x1.toInt by omega, show ((x2.toInt.toNat : Nat) : Int) = x2.toInt by omega]
set_option maxHeartbeats 4000000 in
theorem v_X7_way (x1 : Int32) (x2 : Int32) : okP (f_X7_way x1 x2 0 0 0 0 jSet jFar7 (fun _ => 0) (fun _ => 0) (fun _ => 0) (fun _ => 0) (fun _ => 0) (fun _ => 0) (fun _ => 0) (fun _ => 0) (fun _ => 0)) (fun u => (¬ (0 ≤ x1.toInt ∧ -3 ≤ x2.toInt ∧ x2.toInt ≤ 6) ∧ u.1.toInt = -1) ∨ ((0 ≤ x1.toInt ∧ -3 ≤ x2.toInt ∧ x2.toInt ≤ 6) ∧ u.1.toInt = ansW WM[x1.toInt.toNat]? x2.toInt)) := by
  unfold f_X7_way
  refine ok_ite (fun z => ?_) (fun z => ?_)
  · have z1 : x1.toInt < (0 : Int) := i_lt.mp z
    exact ok_some (Or.inl ⟨by omega, rfl⟩)
  have z1 : ¬ x1.toInt < (0 : Int) := fun y => z (i_lt.mpr y)
  refine ok_bd1 (s_X7_in x2.toInt64 (-3) ((jSet 2).toInt64)) (fun r q => ?_)
  replace q : (r.toInt = 1 ∧ (-3 : Int) ≤ x2.toInt64.toInt ∧ x2.toInt64.toInt ≤ (6 : Int)) ∨ (r.toInt = 0 ∧ (x2.toInt64.toInt < (-3 : Int) ∨ (6 : Int) < x2.toInt64.toInt)) := q
  rw [j_i2l] at q
  refine ok_ite (fun y => ?_) (fun y => ?_)
  · have y1 : r.toInt = (0 : Int) := i_eq.mp y
    exact ok_some (Or.inl ⟨by omega, rfl⟩)
  have y1 : ¬ r.toInt = (0 : Int) := fun w => y (i_eq.mpr w)
  have hin : 0 ≤ x1.toInt ∧ -3 ≤ x2.toInt ∧ x2.toInt ≤ 6 := by omega
  refine ok_bd13 (e_finds1 x1 0 0 0 0 jSet jFar7 (fun _ => 0) (fun _ => 0) (fun _ => 0) (fun _ => 0) (fun _ => 0) (fun _ => 0) (fun _ => 0) (fun _ => 0) (fun _ => 0) MOK_j (by omega)) (fun r2 w1 w2 w3 w4 cd ca co pa ta sl fu ri q => ?_)
  have e2 : jSet 2 = 6 := by decide
  have c6 : (6 : Int32).toNatClampNeg = 6 := by decide
  rcases q with ⟨a1, a2, s, a3, a4, a5⟩ | ⟨a1, a2⟩
  · have a2 : r2 = 1 := a2
    have a5 : RkL s cd ca co pa ta sl fu ri := a5
    obtain ⟨t0, _, _, _, t1, t2, t3, t4⟩ := RkL_top a4 a5
    rw [a3]
    refine ok_ite (fun z => ?_) (fun _ => ?_)
    · rw [a2] at z
      exact absurd z (by decide)
    refine ok_ite (fun z => ?_) (fun z => ?_)
    · have z1 : x2.toInt = (-1 : Int) := i_eq.mp z
      refine ok_bd1 (e_heavy1 jSet ta sl ri e2 t2 t3 t4) (fun g hg => ?_)
      replace hg : g = wt (ta 6).toInt := hg
      refine ok_some (Or.inr ⟨hin, ?_⟩)
      show g.toInt = if x2.toInt = -3 then 0 else if x2.toInt = -2 then (wayM s).2.2 else if x2.toInt = -1 then (wt (wayM s).2.2).toInt else _
      rw [if_neg (by omega), if_neg (by omega), if_pos z1, hg, t1]
    have z1 : ¬ x2.toInt = (-1 : Int) := fun w => z (i_eq.mpr w)
    rw [e2, c6]
    refine ok_ite (fun z => ?_) (fun z => ?_)
    · have z2 : x2.toInt = (-2 : Int) := i_eq.mp z
      refine ok_chk (by decide) ?_
      refine ok_some (Or.inr ⟨hin, ?_⟩)
      show (ta 6).toInt = if x2.toInt = -3 then 0 else if x2.toInt = -2 then (wayM s).2.2 else _
      rw [if_neg (by omega), if_pos z2, t1]
    have z2 : ¬ x2.toInt = (-2 : Int) := fun w => z (i_eq.mpr w)
    refine ok_ite (fun z => ?_) (fun z => ?_)
    · have z3 : x2.toInt = (-3 : Int) := i_eq.mp z
      refine ok_chk (by decide) ?_
      refine ok_some (Or.inr ⟨hin, ?_⟩)
      show (sl 6).toInt = if x2.toInt = -3 then 0 else _
      rw [if_pos z3, t3]
      rfl
    have z3 : ¬ x2.toInt = (-3 : Int) := fun w => z (i_eq.mpr w)
    refine ok_chk (ix (by omega) (by omega)) ?_
    refine ok_some (Or.inr ⟨hin, ?_⟩)
    show (ca x2.toNatClampNeg).toInt = if x2.toInt = -3 then 0 else if x2.toInt = -2 then (wayM s).2.2 else if x2.toInt = -1 then (wt (wayM s).2.2).toInt else (wayM s).1.getD x2.toInt.toNat 0
    rw [if_neg z3, if_neg z2, if_neg z1, i_cl]
    exact (t0 x2.toInt.toNat (by omega)).1
  · have a2 : r2 = 0 := a2
    refine ok_ite (fun _ => ?_) (fun z => absurd a2 z)
    refine ok_some (Or.inr ⟨hin, ?_⟩)
    rw [List.getElem?_eq_none (by omega)]
    rfl
