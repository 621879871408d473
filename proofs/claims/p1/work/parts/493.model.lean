theorem ok_map1 {α β : Type} {x : Option (α × β)} {v : α} (h : x.map Prod.fst = some v) : okP x (fun u => u.1 = v) := by
  cases x with
  | none => exact absurd h (by intro z; injection z)
  | some a =>
    injection h with h
    exact ⟨a, rfl, h⟩
/-! What is made of it: the model. -/
set_option maxHeartbeats 8000000 in
theorem v_endsT (o_level : Int32) (o_noRings : Int32) (o_noTones : Int32) (o_noFuel : Int32) (o_all : Int64) (o_noPieces : Int32) (o_noDrags : Int32) (o_currents : Nat → Int32) (o_warmths : Nat → Int32) (o_code : Nat → Int32) (o_cellAt : Nat → Int32) (o_courseAt : Nat → Int32) (o_paceAt : Nat → Int32) (o_turnsAt : Nat → Int32) (o_slowAt : Nat → Int32) (o_fuelAt : Nat → Int32) (o_ringAt : Nat → Int32) (o_pieceParts : Nat → Int32) (o_dragCell : Nat → Int32) (o_dragBy : Nat → Int32) (o_sums : Nat → Int64) (hs : Hi0 o_sums) : okP (f_X7_endsAsTold o_level o_noRings o_noTones o_noFuel 0 0 o_all o_noPieces o_noDrags jSet jFar7 (fun _ => 0) o_currents o_warmths o_code o_cellAt o_courseAt o_paceAt o_turnsAt o_slowAt o_fuelAt o_ringAt o_pieceParts o_dragCell o_dragBy o_sums) (fun u => u.2.2.2.2.1 = 2152 ∧ u.2.2.2.2.2.2.2.2.2.2.2.2.2.2.2 = ENf) := by
  unfold f_X7_endsAsTold
  refine ok_bd3 (e_told o_noRings o_noTones o_noFuel) (fun a b c q => ?_)
  refine ok_bd11 (e_endsM o_level a b c 0 0 o_all jFar7 (fun _ => 0) o_currents o_warmths o_code o_cellAt o_courseAt o_paceAt o_turnsAt o_slowAt o_fuelAt o_ringAt o_pieceParts o_dragCell o_dragBy o_sums MOK_j hs) (fun g1 g2 g3 g4 g5 g6 g7 g8 g9 g10 g11 q => ?_)
  obtain ⟨q1, q2⟩ := q
  have q1 : g2 = tot ENf 100 := q1
  rw [TOT_is] at q1
  exact ok_some ⟨q1, q2⟩
theorem n2152 : ¬ (2152 : Int64).toInt = 0 := by decide
set_option maxHeartbeats 8000000 in
theorem v_X7_odds (x1 : Int32) (x2 : Int32) : okP (f_X7_odds x1 x2 0 0 0 0 0 0 0 0 0 jSet jFar7 (fun _ => 0) iCur (fun _ => 0) (fun _ => 0) (fun _ => 0) (fun _ => 0) (fun _ => 0) (fun _ => 0) (fun _ => 0) (fun _ => 0) (fun _ => 0) (fun _ => 0) (fun _ => 0) (fun _ => 0) (fun _ => 0)) (fun u => (¬ (0 ≤ x1.toInt ∧ x1.toInt < 100 ∧ 0 ≤ x2.toInt ∧ x2.toInt ≤ 1) ∧ u.1.toInt = -1) ∨ ((0 ≤ x1.toInt ∧ x1.toInt < 100 ∧ 0 ≤ x2.toInt ∧ x2.toInt ≤ 1) ∧ f_X6_partOf (ENf x1.toNatClampNeg) 2152 x2 = some u.1)) := by
  unfold f_X7_odds
  refine ok_bd1 (s_X7_isCell x1) (fun r q => ?_)
  replace q : (r.toInt = 1 ∧ 0 ≤ x1.toInt ∧ x1.toInt < 100) ∨ (r.toInt = 0 ∧ (x1.toInt < 0 ∨ 100 ≤ x1.toInt)) := q
  refine ok_ite (fun y => ?_) (fun y => ?_)
  · have y1 : r.toInt = (0 : Int) := i_eq.mp y
    exact ok_some (Or.inl ⟨by omega, rfl⟩)
  have y1 : ¬ r.toInt = (0 : Int) := fun w => y (i_eq.mpr w)
  refine ok_bd1 (s_X7_in x2.toInt64 0 1) (fun r2 q2 => ?_)
  replace q2 : (r2.toInt = 1 ∧ (0 : Int) ≤ x2.toInt64.toInt ∧ x2.toInt64.toInt ≤ (1 : Int)) ∨ (r2.toInt = 0 ∧ (x2.toInt64.toInt < (0 : Int) ∨ (1 : Int) < x2.toInt64.toInt)) := q2
  rw [j_i2l] at q2
  refine ok_ite (fun z => ?_) (fun z => ?_)
  · have z1 : r2.toInt = (0 : Int) := i_eq.mp z
    exact ok_some (Or.inl ⟨by omega, rfl⟩)
  have z1 : ¬ r2.toInt = (0 : Int) := fun w => z (i_eq.mpr w)
  refine ok_bd16 (v_endsT 0 0 0 0 0 0 0 iCur (fun _ => 0) (fun _ => 0) (fun _ => 0) (fun _ => 0) (fun _ => 0) (fun _ => 0) (fun _ => 0) (fun _ => 0) (fun _ => 0) (fun _ => 0) (fun _ => 0) (fun _ => 0) (fun _ => 0) (fun _ _ => rfl)) (fun w1 w2 w3 w4 w5 w6 w7 w8 w9 w10 w11 w12 w13 w14 w15 w16 q => ?_)
  obtain ⟨e1, e2⟩ := q
  have e1 : w5 = 2152 := e1
  have e2 : w16 = ENf := e2
  rw [e1, e2]
  refine ok_ite (fun w => absurd (j_eq.mp ((lg_cmp_eq _ _).mp w)) n2152) (fun _ => ?_)
  refine ok_chk (ix (by omega) (by omega)) ?_
  have he := odds_eq (c := x1.toNatClampNeg) (by rw [i_cl]; omega) (p := x2) (by omega)
  rw [← he]
  refine ok_bd1 (ok_self (s_X6_partOf (ENf x1.toNatClampNeg) 2152 x2)) (fun r3 q3 => ?_)
  exact ok_some (Or.inr ⟨by omega, q3⟩)
set_option maxHeartbeats 8000000 in
theorem e_where7 : ∀ (f : Nat) (v1 : Int32) (v2 : Int32) (v3 : Int32) (o_level : Int32) (o_noRings : Int32) (o_noTones : Int32) (o_noFuel : Int32) (o_pieces : Int32) (o_drags : Int32) (o_all : Int64) (o_noPieces : Int32) (o_noDrags : Int32) (o_sets : Nat → Int32) (o_ringFar : Nat → Int32) (o_ringTone : Nat → Int32) (o_currents : Nat → Int32) (o_warmths : Nat → Int32) (o_code : Nat → Int32) (o_cellAt : Nat → Int32) (o_courseAt : Nat → Int32) (o_paceAt : Nat → Int32) (o_turnsAt : Nat → Int32) (o_slowAt : Nat → Int32) (o_fuelAt : Nat → Int32) (o_ringAt : Nat → Int32) (o_pieceParts : Nat → Int32) (o_dragCell : Nat → Int32) (o_dragBy : Nat → Int32), 0 ≤ v1.toInt → v1.toInt ≤ 9 → 0 ≤ v3.toInt → v3.toInt ≤ 10 → (10 - v3.toInt).toNat < f → v2 = whS v1.toInt.toNat v3.toInt.toNat → okP (f_X7_where_L22 f v1 v2 v3 o_level o_noRings o_noTones o_noFuel o_pieces o_drags o_all o_noPieces o_noDrags o_sets o_ringFar o_ringTone o_currents o_warmths o_code o_cellAt o_courseAt o_paceAt o_turnsAt o_slowAt o_fuelAt o_ringAt o_pieceParts o_dragCell o_dragBy ENf) (fun u => u.1 = whS v1.toInt.toNat 10) := by
  intro f
  induction f with
  | zero =>
    intro v1 v2 v3 o_level o_noRings o_noTones o_noFuel o_pieces o_drags o_all o_noPieces o_noDrags o_sets o_ringFar o_ringTone o_currents o_warmths o_code o_cellAt o_courseAt o_paceAt o_turnsAt o_slowAt o_fuelAt o_ringAt o_pieceParts o_dragCell o_dragBy _ _ _ _ hm
    exact absurd hm (Nat.not_lt_zero _)
  | succ f ih =>
    intro v1 v2 v3 o_level o_noRings o_noTones o_noFuel o_pieces o_drags o_all o_noPieces o_noDrags o_sets o_ringFar o_ringTone o_currents o_warmths o_code o_cellAt o_courseAt o_paceAt o_turnsAt o_slowAt o_fuelAt o_ringAt o_pieceParts o_dragCell o_dragBy r0 r9 k0 k10 hm hv
    show okP (f_X7_where_L22b (f_X7_where_L22 f) v1 v2 v3 o_level o_noRings o_noTones o_noFuel o_pieces o_drags o_all o_noPieces o_noDrags o_sets o_ringFar o_ringTone o_currents o_warmths o_code o_cellAt o_courseAt o_paceAt o_turnsAt o_slowAt o_fuelAt o_ringAt o_pieceParts o_dragCell o_dragBy ENf) _
    unfold f_X7_where_L22b
    refine ok_ite (fun z => ?_) (fun z => ?_)
    · have z1 : (10 : Int) ≤ v3.toInt := i_le.mp z
      rw [show v3.toInt.toNat = 10 by omega] at hv
      exact ok_some hv
    have z1 : ¬ (10 : Int) ≤ v3.toInt := fun y => z (i_le.mpr y)
    have f1 : (10 * v1).toInt = (10 : Int) * v1.toInt := i_mul2 rfl rfl (by omega) (by omega)
    have f2 : ((10 * v1) + v3).toInt = (10 * v1).toInt + v3.toInt := i_add2 rfl rfl (by omega) (by omega)
    have f3 : (v3 + 1).toInt = v3.toInt + (1 : Int) := i_add2 rfl rfl (by omega) (by omega)
    have ci : ((10 * v1) + v3).toNatClampNeg = 10 * v1.toInt.toNat + v3.toInt.toNat := by
      rw [i_cl]
      omega
    have es : whS v1.toInt.toNat (v3.toInt.toNat + 1) = if 0 < (ENf (10 * v1.toInt.toNat + v3.toInt.toNat)).toInt then whS v1.toInt.toNat v3.toInt.toNat ||| ((1 : Int32) <<< Int32.ofInt ((v3.toInt.toNat : Nat) : Int)) else whS v1.toInt.toNat v3.toInt.toNat := rfl
    rw [show ((v3.toInt.toNat : Nat) : Int) = v3.toInt by omega, ofI] at es
    refine ok_chk (ix (by omega) (by omega)) ?_
    rw [ci]
    have go : ∀ y0 : Int32, v2 ||| y0 = whS v1.toInt.toNat (v3.toInt.toNat + 1) → okP (f_X7_where_B52 (f_X7_where_L22 f) v1 v3 y0 v2 o_level o_noRings o_noTones o_noFuel o_pieces o_drags o_all o_noPieces o_noDrags o_sets o_ringFar o_ringTone o_currents o_warmths o_code o_cellAt o_courseAt o_paceAt o_turnsAt o_slowAt o_fuelAt o_ringAt o_pieceParts o_dragCell o_dragBy ENf) (fun u => u.1 = whS v1.toInt.toNat 10) := by
      intro y0 hy
      unfold f_X7_where_B52
      refine ok_nmx (fun b hb => ?_)
      refine ok_nmi (fun x hx kx => ?_)
      refine ih v1 b x o_level o_noRings o_noTones o_noFuel o_pieces o_drags o_all o_noPieces o_noDrags o_sets o_ringFar o_ringTone o_currents o_warmths o_code o_cellAt o_courseAt o_paceAt o_turnsAt o_slowAt o_fuelAt o_ringAt o_pieceParts o_dragCell o_dragBy r0 r9 (by omega) (by omega) (by omega) ?_
      rw [show x.toInt.toNat = v3.toInt.toNat + 1 by omega, hb, hy]
    refine ok_ite (fun y => ?_) (fun y => ?_)
    · have y1 : (ENf (10 * v1.toInt.toNat + v3.toInt.toNat)).toInt ≤ (0 : Int) := j_le.mp ((lg_cmp_le _ _).mp y)
      refine go 0 ?_
      rw [es, if_neg (by omega), ← hv]
      exact Int32.or_zero
    · have y1 : ¬ (ENf (10 * v1.toInt.toNat + v3.toInt.toNat)).toInt ≤ (0 : Int) := fun w => y ((lg_cmp_le _ _).mpr (j_le.mpr w))
      refine go _ ?_
      rw [es, if_pos (by omega), hv, d10 (by omega) (by omega)]
set_option maxHeartbeats 8000000 in
theorem v_X7_where (x1 : Int32) : okP (f_X7_where x1 0 0 0 0 0 0 0 0 0 jSet jFar7 (fun _ => 0) iCur (fun _ => 0) (fun _ => 0) (fun _ => 0) (fun _ => 0) (fun _ => 0) (fun _ => 0) (fun _ => 0) (fun _ => 0) (fun _ => 0) (fun _ => 0) (fun _ => 0) (fun _ => 0) (fun _ => 0)) (fun u => (¬ (0 ≤ x1.toInt ∧ x1.toInt ≤ 9) ∧ u.1.toInt = -1) ∨ ((0 ≤ x1.toInt ∧ x1.toInt ≤ 9) ∧ u.1 = whS x1.toInt.toNat 10)) := by
  unfold f_X7_where
  refine ok_bd1 (s_X7_in x1.toInt64 0 9) (fun r q => ?_)
  replace q : (r.toInt = 1 ∧ (0 : Int) ≤ x1.toInt64.toInt ∧ x1.toInt64.toInt ≤ (9 : Int)) ∨ (r.toInt = 0 ∧ (x1.toInt64.toInt < (0 : Int) ∨ (9 : Int) < x1.toInt64.toInt)) := q
  rw [j_i2l] at q
  refine ok_ite (fun y => ?_) (fun y => ?_)
  · have y1 : r.toInt = (0 : Int) := i_eq.mp y
    exact ok_some (Or.inl ⟨by omega, rfl⟩)
  have y1 : ¬ r.toInt = (0 : Int) := fun w => y (i_eq.mpr w)
  refine ok_bd16 (v_endsT 0 0 0 0 0 0 0 iCur (fun _ => 0) (fun _ => 0) (fun _ => 0) (fun _ => 0) (fun _ => 0) (fun _ => 0) (fun _ => 0) (fun _ => 0) (fun _ => 0) (fun _ => 0) (fun _ => 0) (fun _ => 0) (fun _ => 0) (fun _ _ => rfl)) (fun w1 w2 w3 w4 w5 w6 w7 w8 w9 w10 w11 w12 w13 w14 w15 w16 q => ?_)
  obtain ⟨e1, e2⟩ := q
  have e2 : w16 = ENf := e2
  rw [e2]
  refine ok_mono (e_where7 FU x1 0 0 w1 w2 w3 w4 0 0 w5 w6 w7 jSet jFar7 (fun _ => 0) iCur (fun _ => 0) w8 w9 w10 w11 w12 w13 w14 w15 (fun _ => 0) (fun _ => 0) (fun _ => 0) (by omega) (by omega) (by decide) (by decide) (FU_gt (by decide)) rfl) (fun u hu => Or.inr ⟨by omega, hu⟩)
set_option maxHeartbeats 8000000 in
theorem e_count7 : ∀ (f : Nat) (v2 : Int32) (v3 : Int32) (o_level : Int32) (o_noRings : Int32) (o_noTones : Int32) (o_noFuel : Int32) (o_pieces : Int32) (o_drags : Int32) (o_all : Int64) (o_noPieces : Int32) (o_noDrags : Int32) (o_sets : Nat → Int32) (o_ringFar : Nat → Int32) (o_ringTone : Nat → Int32) (o_currents : Nat → Int32) (o_warmths : Nat → Int32) (o_code : Nat → Int32) (o_cellAt : Nat → Int32) (o_courseAt : Nat → Int32) (o_paceAt : Nat → Int32) (o_turnsAt : Nat → Int32) (o_slowAt : Nat → Int32) (o_fuelAt : Nat → Int32) (o_ringAt : Nat → Int32) (o_pieceParts : Nat → Int32) (o_dragCell : Nat → Int32) (o_dragBy : Nat → Int32), 0 ≤ v3.toInt → v3.toInt ≤ 100 → (100 - v3.toInt).toNat < f → v2.toInt = (cntS v3.toInt.toNat : Int) → cntS v3.toInt.toNat ≤ v3.toInt.toNat → okP (f_X7_count_L81 f 4 v2 v3 o_level o_noRings o_noTones o_noFuel o_pieces o_drags o_all o_noPieces o_noDrags o_sets o_ringFar o_ringTone o_currents o_warmths o_code o_cellAt o_courseAt o_paceAt o_turnsAt o_slowAt o_fuelAt o_ringAt o_pieceParts o_dragCell o_dragBy ENf) (fun u => u.1.toInt = (cntS 100 : Int)) := by
  intro f
  induction f with
  | zero =>
    intro v2 v3 o_level o_noRings o_noTones o_noFuel o_pieces o_drags o_all o_noPieces o_noDrags o_sets o_ringFar o_ringTone o_currents o_warmths o_code o_cellAt o_courseAt o_paceAt o_turnsAt o_slowAt o_fuelAt o_ringAt o_pieceParts o_dragCell o_dragBy _ _ hm
    exact absurd hm (Nat.not_lt_zero _)
  | succ f ih =>
    intro v2 v3 o_level o_noRings o_noTones o_noFuel o_pieces o_drags o_all o_noPieces o_noDrags o_sets o_ringFar o_ringTone o_currents o_warmths o_code o_cellAt o_courseAt o_paceAt o_turnsAt o_slowAt o_fuelAt o_ringAt o_pieceParts o_dragCell o_dragBy r0 r1 hm hv hb
    show okP (f_X7_count_L81b (f_X7_count_L81 f) 4 v2 v3 o_level o_noRings o_noTones o_noFuel o_pieces o_drags o_all o_noPieces o_noDrags o_sets o_ringFar o_ringTone o_currents o_warmths o_code o_cellAt o_courseAt o_paceAt o_turnsAt o_slowAt o_fuelAt o_ringAt o_pieceParts o_dragCell o_dragBy ENf) _
    unfold f_X7_count_L81b
    refine ok_ite (fun z => ?_) (fun z => ?_)
    · have z1 : (100 : Int) ≤ v3.toInt := i_le.mp z
      rw [show v3.toInt.toNat = 100 by omega] at hv
      unfold f_X7_count_B112
      refine ok_ite (fun w => absurd w (by decide)) (fun _ => ?_)
      refine ok_ite (fun w => absurd w (by decide)) (fun _ => ?_)
      exact ok_some hv
    have z1 : ¬ (100 : Int) ≤ v3.toInt := fun y => z (i_le.mpr y)
    have f3 : (v3 + 1).toInt = v3.toInt + (1 : Int) := i_add2 rfl rfl (by omega) (by omega)
    have c3 : v3.toNatClampNeg = v3.toInt.toNat := rfl
    have es : cntS (v3.toInt.toNat + 1) = cntS v3.toInt.toNat + (if 0 < (ENf v3.toInt.toNat).toInt then 1 else 0) := rfl
    refine ok_chk (ix (by omega) (by omega)) ?_
    rw [c3]
    have go : ∀ y0 : Int32, 0 ≤ y0.toInt → y0.toInt ≤ 1 → (cntS (v3.toInt.toNat + 1) : Int) = (cntS v3.toInt.toNat : Int) + y0.toInt → okP (f_X7_count_B104 (f_X7_count_L81 f) 4 v3 y0 v2 o_level o_noRings o_noTones o_noFuel o_pieces o_drags o_all o_noPieces o_noDrags o_sets o_ringFar o_ringTone o_currents o_warmths o_code o_cellAt o_courseAt o_paceAt o_turnsAt o_slowAt o_fuelAt o_ringAt o_pieceParts o_dragCell o_dragBy ENf) (fun u => u.1.toInt = (cntS 100 : Int)) := by
      intro y0 h0 h1 hy
      have fy : (v2 + y0).toInt = v2.toInt + y0.toInt := i_add2 rfl rfl (by omega) (by omega)
      unfold f_X7_count_B104
      refine ok_nmi (fun b hb2 kb => ?_)
      refine ok_nmi (fun x hx kx => ?_)
      refine ih b x o_level o_noRings o_noTones o_noFuel o_pieces o_drags o_all o_noPieces o_noDrags o_sets o_ringFar o_ringTone o_currents o_warmths o_code o_cellAt o_courseAt o_paceAt o_turnsAt o_slowAt o_fuelAt o_ringAt o_pieceParts o_dragCell o_dragBy (by omega) (by omega) (by omega) ?_ ?_
      · rw [show x.toInt.toNat = v3.toInt.toNat + 1 by omega]
        omega
      · rw [show x.toInt.toNat = v3.toInt.toNat + 1 by omega]
        omega
    refine ok_ite (fun y => ?_) (fun y => ?_)
    · have y1 : (ENf v3.toInt.toNat).toInt ≤ (0 : Int) := j_le.mp ((lg_cmp_le _ _).mp y)
      refine go 0 (by decide) (by decide) ?_
      rw [es, if_neg (by omega)]
      rfl
    · have y1 : ¬ (ENf v3.toInt.toNat).toInt ≤ (0 : Int) := fun w => y ((lg_cmp_le _ _).mpr (j_le.mpr w))
      refine go 1 (by decide) (by decide) ?_
      rw [es, if_pos (by omega)]
      rfl
set_option maxHeartbeats 8000000 in
theorem v_X7_count (x1 : Int32) : okP (f_X7_count x1 0 0 0 0 0 0 0 0 0 jSet jFar7 (fun _ => 0) iCur (fun _ => 0) (fun _ => 0) (fun _ => 0) (fun _ => 0) (fun _ => 0) (fun _ => 0) (fun _ => 0) (fun _ => 0) (fun _ => 0) (fun _ => 0) (fun _ => 0) (fun _ => 0) (fun _ => 0)) (fun u => (¬ (0 ≤ x1.toInt ∧ x1.toInt ≤ 4) ∧ u.1.toInt = -1) ∨ ((0 ≤ x1.toInt ∧ x1.toInt < 4) ∧ u.1.toInt = 0) ∨ (x1.toInt = 4 ∧ u.1.toInt = 70)) := by
  by_cases h0 : x1.toInt = 0
  · rw [show x1 = 0 from i_eq.mpr h0]
    exact ok_mono (ok_map1 (v := 0) (by decide +kernel)) (fun u hu => Or.inr (Or.inl ⟨by decide, by rw [hu]; rfl⟩))
  by_cases h1 : x1.toInt = 1
  · rw [show x1 = 1 from i_eq.mpr h1]
    exact ok_mono (ok_map1 (v := 0) (by decide +kernel)) (fun u hu => Or.inr (Or.inl ⟨by decide, by rw [hu]; rfl⟩))
  by_cases h2 : x1.toInt = 2
  · rw [show x1 = 2 from i_eq.mpr h2]
    exact ok_mono (ok_map1 (v := 0) (by decide +kernel)) (fun u hu => Or.inr (Or.inl ⟨by decide, by rw [hu]; rfl⟩))
  by_cases h3 : x1.toInt = 3
  · rw [show x1 = 3 from i_eq.mpr h3]
    exact ok_mono (ok_map1 (v := 0) (by decide +kernel)) (fun u hu => Or.inr (Or.inl ⟨by decide, by rw [hu]; rfl⟩))
  unfold f_X7_count
  refine ok_bd1 (s_X7_in x1.toInt64 0 4) (fun r q => ?_)
  replace q : (r.toInt = 1 ∧ (0 : Int) ≤ x1.toInt64.toInt ∧ x1.toInt64.toInt ≤ (4 : Int)) ∨ (r.toInt = 0 ∧ (x1.toInt64.toInt < (0 : Int) ∨ (4 : Int) < x1.toInt64.toInt)) := q
  rw [j_i2l] at q
  refine ok_ite (fun y => ?_) (fun y => ?_)
  · have y1 : r.toInt = (0 : Int) := i_eq.mp y
    exact ok_some (Or.inl ⟨by omega, rfl⟩)
  have y1 : ¬ r.toInt = (0 : Int) := fun w => y (i_eq.mpr w)
  have h4 : x1.toInt = 4 := by omega
  have e4 : x1 = 4 := i_eq.mpr h4
  subst e4
  obtain ⟨f1, hf1⟩ := FU_s 1 (by omega)
  rw [hf1]
  show okP (f_X7_count_L18b (f_X7_count_L18 f1) 4 0 1 0 0 0 0 0 0 0 0 0 jSet jFar7 (fun _ => 0) iCur (fun _ => 0) (fun _ => 0) (fun _ => 0) (fun _ => 0) (fun _ => 0) (fun _ => 0) (fun _ => 0) (fun _ => 0) (fun _ => 0) (fun _ => 0) (fun _ => 0) (fun _ => 0) (fun _ => 0)) _
  unfold f_X7_count_L18b
  have hB : okP (f_X7_count_B70 4 0 0 0 0 0 0 0 0 0 0 jSet jFar7 (fun _ => 0) iCur (fun _ => 0) (fun _ => 0) (fun _ => 0) (fun _ => 0) (fun _ => 0) (fun _ => 0) (fun _ => 0) (fun _ => 0) (fun _ => 0) (fun _ => 0) (fun _ => 0) (fun _ => 0) (fun _ => 0)) (fun u => (¬ (0 ≤ (4 : Int32).toInt ∧ (4 : Int32).toInt ≤ 4) ∧ u.1.toInt = -1) ∨ ((0 ≤ (4 : Int32).toInt ∧ (4 : Int32).toInt < 4) ∧ u.1.toInt = 0) ∨ ((4 : Int32).toInt = 4 ∧ u.1.toInt = 70)) := by
    unfold f_X7_count_B70
    refine ok_ite (fun _ => ?_) (fun w => absurd rfl w)
    refine ok_bd16 (v_endsT 0 0 0 0 0 0 0 iCur (fun _ => 0) (fun _ => 0) (fun _ => 0) (fun _ => 0) (fun _ => 0) (fun _ => 0) (fun _ => 0) (fun _ => 0) (fun _ => 0) (fun _ => 0) (fun _ => 0) (fun _ => 0) (fun _ => 0) (fun _ _ => rfl)) (fun w1 w2 w3 w4 w5 w6 w7 w8 w9 w10 w11 w12 w13 w14 w15 w16 q => ?_)
    obtain ⟨e1, e2⟩ := q
    have e2 : w16 = ENf := e2
    rw [e2]
    refine ok_mono (e_count7 FU 0 0 w1 w2 w3 w4 0 0 w5 w6 w7 jSet jFar7 (fun _ => 0) iCur (fun _ => 0) w8 w9 w10 w11 w12 w13 w14 w15 (fun _ => 0) (fun _ => 0) (fun _ => 0) (by decide) (by decide) (FU_gt (by decide)) rfl (Nat.le_refl _)) (fun u hu => Or.inr (Or.inr ⟨rfl, ?_⟩))
    rw [hu, cnt_v]
    rfl
  refine ok_ite (fun w => absurd w (by decide)) (fun _ => ?_)
  exact ok_ite (fun _ => hB) (fun w => absurd (by decide) w)
set_option maxHeartbeats 8000000 in
theorem e_next7 : ∀ (f : Nat) (v1 : Int32) (v2 : Int32) (o_level : Int32) (o_noRings : Int32) (o_noTones : Int32) (o_noFuel : Int32) (o_pieces : Int32) (o_all : Int64) (o_noPieces : Int32) (o_noDrags : Int32) (o_sets : Nat → Int32) (o_ringFar : Nat → Int32) (o_ringTone : Nat → Int32) (o_currents : Nat → Int32) (o_warmths : Nat → Int32) (o_code : Nat → Int32) (o_cellAt : Nat → Int32) (o_courseAt : Nat → Int32) (o_paceAt : Nat → Int32) (o_turnsAt : Nat → Int32) (o_slowAt : Nat → Int32) (o_fuelAt : Nat → Int32) (o_ringAt : Nat → Int32) (o_pieceParts : Nat → Int32) (o_dragCell : Nat → Int32) (o_dragBy : Nat → Int32), 0 ≤ v2.toInt → v2.toInt ≤ 100 → (100 - v2.toInt).toNat < f → v1 = nxS v2.toInt.toNat → okP (f_X7_next_L9 f v1 v2 o_level o_noRings o_noTones o_noFuel o_pieces 0 o_all o_noPieces o_noDrags o_sets o_ringFar o_ringTone o_currents o_warmths iDep o_code o_cellAt o_courseAt o_paceAt o_turnsAt o_slowAt o_fuelAt o_ringAt o_pieceParts o_dragCell o_dragBy ENf) (fun u => u.1 = nxS 100) := by
  intro f
  induction f with
  | zero =>
    intro v1 v2 o_level o_noRings o_noTones o_noFuel o_pieces o_all o_noPieces o_noDrags o_sets o_ringFar o_ringTone o_currents o_warmths o_code o_cellAt o_courseAt o_paceAt o_turnsAt o_slowAt o_fuelAt o_ringAt o_pieceParts o_dragCell o_dragBy _ _ hm
    exact absurd hm (Nat.not_lt_zero _)
  | succ f ih =>
    intro v1 v2 o_level o_noRings o_noTones o_noFuel o_pieces o_all o_noPieces o_noDrags o_sets o_ringFar o_ringTone o_currents o_warmths o_code o_cellAt o_courseAt o_paceAt o_turnsAt o_slowAt o_fuelAt o_ringAt o_pieceParts o_dragCell o_dragBy r0 r1 hm hv
    show okP (f_X7_next_L9b (f_X7_next_L9 f) v1 v2 o_level o_noRings o_noTones o_noFuel o_pieces 0 o_all o_noPieces o_noDrags o_sets o_ringFar o_ringTone o_currents o_warmths iDep o_code o_cellAt o_courseAt o_paceAt o_turnsAt o_slowAt o_fuelAt o_ringAt o_pieceParts o_dragCell o_dragBy ENf) _
    unfold f_X7_next_L9b
    refine ok_ite (fun z => ?_) (fun z => ?_)
    · have z1 : (100 : Int) ≤ v2.toInt := i_le.mp z
      rw [show v2.toInt.toNat = 100 by omega] at hv
      exact ok_some hv
    have z1 : ¬ (100 : Int) ≤ v2.toInt := fun y => z (i_le.mpr y)
    have f3 : (v2 + 1).toInt = v2.toInt + (1 : Int) := i_add2 rfl rfl (by omega) (by omega)
    have c3 : v2.toNatClampNeg = v2.toInt.toNat := rfl
    have hx3 : ¬ (v2 < 0 ∨ 100 ≤ v2.toNatClampNeg) := ix (by omega) (by omega)
    have hr := nxS_rng v2.toInt.toNat (by omega)
    have es : nxS (v2.toInt.toNat + 1) = if (ENf v2.toInt.toNat).toInt ≤ 0 then nxS v2.toInt.toNat else if (nxS v2.toInt.toNat).toInt < 0 then Int32.ofInt ((v2.toInt.toNat : Nat) : Int) else if (ENf v2.toInt.toNat * (iDep (nxS v2.toInt.toNat).toNatClampNeg).toInt64).toInt ≤ (ENf (nxS v2.toInt.toNat).toNatClampNeg * (iDep v2.toInt.toNat).toInt64).toInt then nxS v2.toInt.toNat else Int32.ofInt ((v2.toInt.toNat : Nat) : Int) := rfl
    rw [show ((v2.toInt.toNat : Nat) : Int) = v2.toInt by omega, ofI, ← hv] at es
    rw [← hv] at hr
    have stay : nxS (v2.toInt.toNat + 1) = v1 → okP (f_X7_next_B115 (f_X7_next_L9 f) v1 v2 o_level o_noRings o_noTones o_noFuel o_pieces 0 o_all o_noPieces o_noDrags o_sets o_ringFar o_ringTone o_currents o_warmths iDep o_code o_cellAt o_courseAt o_paceAt o_turnsAt o_slowAt o_fuelAt o_ringAt o_pieceParts o_dragCell o_dragBy ENf) (fun u => u.1 = nxS 100) := by
      intro e
      unfold f_X7_next_B115 f_X7_next_B116
      refine ok_nmi (fun x hx kx => ?_)
      refine ih v1 x o_level o_noRings o_noTones o_noFuel o_pieces o_all o_noPieces o_noDrags o_sets o_ringFar o_ringTone o_currents o_warmths o_code o_cellAt o_courseAt o_paceAt o_turnsAt o_slowAt o_fuelAt o_ringAt o_pieceParts o_dragCell o_dragBy (by omega) (by omega) (by omega) ?_
      rw [show x.toInt.toNat = v2.toInt.toNat + 1 by omega, e]
    have take : nxS (v2.toInt.toNat + 1) = v2 → okP (f_X7_next_B111 (f_X7_next_L9 f) v2 o_level o_noRings o_noTones o_noFuel o_pieces 0 o_all o_noPieces o_noDrags o_sets o_ringFar o_ringTone o_currents o_warmths iDep o_code o_cellAt o_courseAt o_paceAt o_turnsAt o_slowAt o_fuelAt o_ringAt o_pieceParts o_dragCell o_dragBy ENf) (fun u => u.1 = nxS 100) := by
      intro e
      unfold f_X7_next_B111 f_X7_next_B116
      refine ok_nmi (fun x hx kx => ?_)
      refine ih v2 x o_level o_noRings o_noTones o_noFuel o_pieces o_all o_noPieces o_noDrags o_sets o_ringFar o_ringTone o_currents o_warmths o_code o_cellAt o_courseAt o_paceAt o_turnsAt o_slowAt o_fuelAt o_ringAt o_pieceParts o_dragCell o_dragBy (by omega) (by omega) (by omega) ?_
      rw [show x.toInt.toNat = v2.toInt.toNat + 1 by omega, e]
    refine ok_chk hx3 ?_
    rw [c3]
    rw [c3] at hx3
    obtain ⟨f1, hf1⟩ := FU_s 1 (by omega)
    refine ok_ite (fun y => ?_) (fun y => ?_)
    · have y1 : (ENf v2.toInt.toNat).toInt ≤ (0 : Int) := j_le.mp ((lg_cmp_le _ _).mp y)
      unfold f_X7_next_B31
      rw [hf1]
      show okP (f_X7_next_L35b (f_X7_next_L9 f) (f_X7_next_L35 (f_X7_next_L9 f) f1) v1 v2 0 0 o_level o_noRings o_noTones o_noFuel o_pieces 0 o_all o_noPieces o_noDrags o_sets o_ringFar o_ringTone o_currents o_warmths iDep o_code o_cellAt o_courseAt o_paceAt o_turnsAt o_slowAt o_fuelAt o_ringAt o_pieceParts o_dragCell o_dragBy ENf) _
      unfold f_X7_next_L35b
      refine ok_ite (fun _ => ?_) (fun w => absurd (by decide) w)
      refine ok_ite (fun _ => ?_) (fun w => absurd rfl w)
      exact stay (by rw [es, if_pos y1])
    have y1 : ¬ (ENf v2.toInt.toNat).toInt ≤ (0 : Int) := fun w => y ((lg_cmp_le _ _).mpr (j_le.mpr w))
    rw [if_neg y1] at es
    unfold f_X7_next_B31
    rw [hf1]
    show okP (f_X7_next_L35b (f_X7_next_L9 f) (f_X7_next_L35 (f_X7_next_L9 f) f1) v1 v2 1 0 o_level o_noRings o_noTones o_noFuel o_pieces 0 o_all o_noPieces o_noDrags o_sets o_ringFar o_ringTone o_currents o_warmths iDep o_code o_cellAt o_courseAt o_paceAt o_turnsAt o_slowAt o_fuelAt o_ringAt o_pieceParts o_dragCell o_dragBy ENf) _
    unfold f_X7_next_L35b
    refine ok_ite (fun _ => ?_) (fun w => absurd (by decide) w)
    refine ok_ite (fun w => absurd w (by decide)) (fun _ => ?_)
    refine ok_ite (fun w => ?_) (fun w => ?_)
    · have w1 : v1.toInt < (0 : Int) := i_lt.mp w
      exact take (by rw [es, if_pos w1])
    have w1 : ¬ v1.toInt < (0 : Int) := fun a => w (i_lt.mpr a)
    rw [if_neg w1] at es
    have hx2 : ¬ (v1 < 0 ∨ 100 ≤ v1.toNatClampNeg) := ix (by omega) (by omega)
    refine ok_chk hx3 ?_
    refine ok_chk hx2 ?_
    refine ok_chk hx2 ?_
    refine ok_chk hx3 ?_
    rw [c3]
    refine ok_ite (fun a => ?_) (fun a => ?_)
    · have a1 := j_le.mp ((lg_cmp_le _ _).mp a)
      exact stay (by rw [es, if_pos a1])
    · have a1 := fun b => a ((lg_cmp_le _ _).mpr (j_le.mpr b))
      exact take (by rw [es, if_neg a1])
set_option maxHeartbeats 8000000 in
theorem v_X7_next : okP (f_X7_next 0 0 0 0 0 0 0 0 0 jSet jFar7 (fun _ => 0) iCur (fun _ => 0) iDep (fun _ => 0) (fun _ => 0) (fun _ => 0) (fun _ => 0) (fun _ => 0) (fun _ => 0) (fun _ => 0) (fun _ => 0) (fun _ => 0) (fun _ => 0) (fun _ => 0) (fun _ => 0)) (fun u => u.1 = nxS 100) := by
  unfold f_X7_next
  refine ok_bd16 (v_endsT 0 0 0 0 0 0 0 iCur (fun _ => 0) (fun _ => 0) (fun _ => 0) (fun _ => 0) (fun _ => 0) (fun _ => 0) (fun _ => 0) (fun _ => 0) (fun _ => 0) (fun _ => 0) (fun _ => 0) (fun _ => 0) (fun _ => 0) (fun _ _ => rfl)) (fun w1 w2 w3 w4 w5 w6 w7 w8 w9 w10 w11 w12 w13 w14 w15 w16 q => ?_)
  obtain ⟨e1, e2⟩ := q
  have e2 : w16 = ENf := e2
  rw [e2]
  exact e_next7 FU (-4) 0 w1 w2 w3 w4 0 w5 w6 w7 jSet jFar7 (fun _ => 0) iCur (fun _ => 0) w8 w9 w10 w11 w12 w13 w14 w15 (fun _ => 0) (fun _ => 0) (fun _ => 0) (by decide) (by decide) (FU_gt (by decide)) rfl
set_option maxHeartbeats 8000000 in
theorem e_should7 : ∀ (f : Nat) (v1 : Int32) (v2 : Int32) (v3 : Int32) (v4 : Int32) (v5 : Int64) (v7 : Int32) (o_level : Int32) (o_noRings : Int32) (o_noTones : Int32) (o_noFuel : Int32) (o_pieces : Int32) (o_drags : Int32) (o_noPieces : Int32) (o_noDrags : Int32) (o_ringFar : Nat → Int32) (o_ringTone : Nat → Int32) (o_warmths : Nat → Int32) (o_code : Nat → Int32) (o_cellAt : Nat → Int32) (o_courseAt : Nat → Int32) (o_paceAt : Nat → Int32) (o_turnsAt : Nat → Int32) (o_slowAt : Nat → Int32) (o_fuelAt : Nat → Int32) (o_ringAt : Nat → Int32) (o_pieceParts : Nat → Int32) (o_dragCell : Nat → Int32) (o_dragBy : Nat → Int32), 0 ≤ v1.toInt → v1.toInt < 100 → 0 ≤ v2.toInt → v2.toInt ≤ 24 → 0 ≤ v3.toInt → v3.toInt ≤ 1 → 0 ≤ v4.toInt → v4.toInt ≤ 1 → 0 ≤ v7.toInt → v7.toInt ≤ 100 → (100 - v7.toInt).toNat < f → v5 = (if v1.toInt < v7.toInt then ENf v1.toInt.toNat else 0) → okP (f_X7_should_L67 f v1 v2 v3 v4 v5 v7 o_level o_noRings o_noTones o_noFuel o_pieces o_drags 2152 o_noPieces o_noDrags jSet o_ringFar o_ringTone iCur o_warmths o_code o_cellAt o_courseAt o_paceAt o_turnsAt o_slowAt o_fuelAt o_ringAt o_pieceParts o_dragCell o_dragBy ENf) (fun u => f_X6_partOf (ENf v1.toInt.toNat) 2152 v4 = some u.1) := by
  intro f
  induction f with
  | zero =>
    intro v1 v2 v3 v4 v5 v7 o_level o_noRings o_noTones o_noFuel o_pieces o_drags o_noPieces o_noDrags o_ringFar o_ringTone o_warmths o_code o_cellAt o_courseAt o_paceAt o_turnsAt o_slowAt o_fuelAt o_ringAt o_pieceParts o_dragCell o_dragBy _ _ _ _ _ _ _ _ _ _ hm
    exact absurd hm (Nat.not_lt_zero _)
  | succ f ih =>
    intro v1 v2 v3 v4 v5 v7 o_level o_noRings o_noTones o_noFuel o_pieces o_drags o_noPieces o_noDrags o_ringFar o_ringTone o_warmths o_code o_cellAt o_courseAt o_paceAt o_turnsAt o_slowAt o_fuelAt o_ringAt o_pieceParts o_dragCell o_dragBy a0 a1 b0 b1 g0 g1 h0 h1 r0 r1 hm hv
    show okP (f_X7_should_L67b (f_X7_should_L67 f) v1 v2 v3 v4 v5 v7 o_level o_noRings o_noTones o_noFuel o_pieces o_drags 2152 o_noPieces o_noDrags jSet o_ringFar o_ringTone iCur o_warmths o_code o_cellAt o_courseAt o_paceAt o_turnsAt o_slowAt o_fuelAt o_ringAt o_pieceParts o_dragCell o_dragBy ENf) _
    unfold f_X7_should_L67b
    refine ok_ite (fun z => ?_) (fun z => ?_)
    · have z1 : (100 : Int) ≤ v7.toInt := i_le.mp z
      rw [if_pos (by omega)] at hv
      rw [hv, ← odds_eq (c := v1.toInt.toNat) (by omega) (p := v4) (by omega)]
      refine ok_bd1 (ok_self (s_X6_partOf (ENf v1.toInt.toNat) 2152 v4)) (fun r3 q3 => ?_)
      exact ok_some q3
    have z1 : ¬ (100 : Int) ≤ v7.toInt := fun y => z (i_le.mpr y)
    have f8 : (v7 + 1).toInt = v7.toInt + (1 : Int) := i_add2 rfl rfl (by omega) (by omega)
    have c8 : v7.toNatClampNeg = v7.toInt.toNat := rfl
    have hx8 : ¬ (v7 < 0 ∨ 100 ≤ v7.toNatClampNeg) := ix (by omega) (by omega)
    have go : ∀ n0 : Int64, v5 + n0 = (if v1.toInt < v7.toInt + 1 then ENf v1.toInt.toNat else 0) → okP (f_X7_should_B111 (f_X7_should_L67 f) v1 v2 v3 v4 v7 n0 v5 o_level o_noRings o_noTones o_noFuel o_pieces o_drags 2152 o_noPieces o_noDrags jSet o_ringFar o_ringTone iCur o_warmths o_code o_cellAt o_courseAt o_paceAt o_turnsAt o_slowAt o_fuelAt o_ringAt o_pieceParts o_dragCell o_dragBy ENf) (fun u => f_X6_partOf (ENf v1.toInt.toNat) 2152 v4 = some u.1) := by
      intro n0 h6
      unfold f_X7_should_B111
      refine ok_nmx (fun y hy => ?_)
      refine ok_nmi (fun x hx kx => ?_)
      refine ih v1 v2 v3 v4 y x o_level o_noRings o_noTones o_noFuel o_pieces o_drags o_noPieces o_noDrags o_ringFar o_ringTone o_warmths o_code o_cellAt o_courseAt o_paceAt o_turnsAt o_slowAt o_fuelAt o_ringAt o_pieceParts o_dragCell o_dragBy a0 a1 b0 b1 g0 g1 h0 h1 (by omega) (by omega) (by omega) ?_
      rw [hy, h6, show x.toInt = v7.toInt + 1 by omega]
    refine ok_chk hx8 ?_
    rw [c8]
    rw [c8] at hx8
    have same : ¬ v1.toInt = v7.toInt → v5 + 0 = (if v1.toInt < v7.toInt + 1 then ENf v1.toInt.toNat else 0) := by
      intro hne
      rw [Int64.add_zero, hv]
      by_cases h2 : v1.toInt < v7.toInt
      · rw [if_pos h2, if_pos (by omega)]
      · rw [if_neg h2, if_neg (by omega)]
    refine ok_ite (fun y => ?_) (fun y => ?_)
    · have y1 : (ENf v7.toInt.toNat).toInt ≤ (0 : Int) := j_le.mp ((lg_cmp_le _ _).mp y)
      unfold f_X7_should_B110
      refine go 0 ?_
      by_cases h : v1.toInt = v7.toInt
      · rw [Int64.add_zero, hv, if_neg (by omega), if_pos (by omega), h, EN_0 _ (by omega) y1]
      · exact same h
    refine ok_bd1 (e_driftTo v7 v2 v3 jSet iCur (by omega) (by omega) b0 (by omega) (by omega) (by decide) (by decide) CurOK_i) (fun r q => ?_)
    replace q : r.toInt = drS iCur 8 v3.toInt v7.toInt v2.toInt.toNat := q
    rw [drS_still _ (by omega) (by omega)] at q
    refine ok_ite (fun w => ?_) (fun w => ?_)
    · have w1 : r.toInt = v1.toInt := i_eq.mp w
      refine ok_chk hx8 ?_
      refine go _ ?_
      rw [hv, if_neg (by omega), if_pos (by omega), Int64.zero_add, show v7.toInt = v1.toInt by omega]
    · have w1 : ¬ r.toInt = v1.toInt := fun a => w (i_eq.mpr a)
      unfold f_X7_should_B110
      exact go 0 (same (by omega))
set_option maxHeartbeats 8000000 in
theorem v_X7_should (x1 : Int32) (x2 : Int32) (x3 : Int32) (x4 : Int32) : okP (f_X7_should x1 x2 x3 x4 0 0 0 0 0 0 0 0 0 jSet jFar7 (fun _ => 0) iCur (fun _ => 0) (fun _ => 0) (fun _ => 0) (fun _ => 0) (fun _ => 0) (fun _ => 0) (fun _ => 0) (fun _ => 0) (fun _ => 0) (fun _ => 0) (fun _ => 0) (fun _ => 0) (fun _ => 0)) (fun u => (¬ (0 ≤ x1.toInt ∧ x1.toInt < 100 ∧ 0 ≤ x2.toInt ∧ x2.toInt ≤ 24 ∧ 0 ≤ x3.toInt ∧ x3.toInt ≤ 1 ∧ 0 ≤ x4.toInt ∧ x4.toInt ≤ 1) ∧ u.1.toInt = -1) ∨ ((0 ≤ x1.toInt ∧ x1.toInt < 100 ∧ 0 ≤ x2.toInt ∧ x2.toInt ≤ 24 ∧ 0 ≤ x3.toInt ∧ x3.toInt ≤ 1 ∧ 0 ≤ x4.toInt ∧ x4.toInt ≤ 1) ∧ f_X6_partOf (ENf x1.toInt.toNat) 2152 x4 = some u.1)) := by
  unfold f_X7_should
  refine ok_bd1 (s_X7_isCell x1) (fun r q => ?_)
  replace q : (r.toInt = 1 ∧ 0 ≤ x1.toInt ∧ x1.toInt < 100) ∨ (r.toInt = 0 ∧ (x1.toInt < 0 ∨ 100 ≤ x1.toInt)) := q
  refine ok_ite (fun y => ?_) (fun y => ?_)
  · have y1 : r.toInt = (0 : Int) := i_eq.mp y
    exact ok_some (Or.inl ⟨by omega, rfl⟩)
  have y1 : ¬ r.toInt = (0 : Int) := fun w => y (i_eq.mpr w)
  refine ok_bd1 (s_X7_in x2.toInt64 0 24) (fun r2 q2 => ?_)
  replace q2 : (r2.toInt = 1 ∧ (0 : Int) ≤ x2.toInt64.toInt ∧ x2.toInt64.toInt ≤ (24 : Int)) ∨ (r2.toInt = 0 ∧ (x2.toInt64.toInt < (0 : Int) ∨ (24 : Int) < x2.toInt64.toInt)) := q2
  rw [j_i2l] at q2
  refine ok_ite (fun z => ?_) (fun z => ?_)
  · have z1 : r2.toInt = (0 : Int) := i_eq.mp z
    exact ok_some (Or.inl ⟨by omega, rfl⟩)
  have y2 : ¬ r2.toInt = (0 : Int) := fun w => z (i_eq.mpr w)
  refine ok_bd1 (s_X7_in x3.toInt64 0 1) (fun r3 q3 => ?_)
  replace q3 : (r3.toInt = 1 ∧ (0 : Int) ≤ x3.toInt64.toInt ∧ x3.toInt64.toInt ≤ (1 : Int)) ∨ (r3.toInt = 0 ∧ (x3.toInt64.toInt < (0 : Int) ∨ (1 : Int) < x3.toInt64.toInt)) := q3
  rw [j_i2l] at q3
  refine ok_ite (fun z => ?_) (fun z => ?_)
  · have z1 : r3.toInt = (0 : Int) := i_eq.mp z
    exact ok_some (Or.inl ⟨by omega, rfl⟩)
  have y3 : ¬ r3.toInt = (0 : Int) := fun w => z (i_eq.mpr w)
  refine ok_bd1 (s_X7_in x4.toInt64 0 1) (fun r4 q4 => ?_)
  replace q4 : (r4.toInt = 1 ∧ (0 : Int) ≤ x4.toInt64.toInt ∧ x4.toInt64.toInt ≤ (1 : Int)) ∨ (r4.toInt = 0 ∧ (x4.toInt64.toInt < (0 : Int) ∨ (1 : Int) < x4.toInt64.toInt)) := q4
  rw [j_i2l] at q4
  refine ok_ite (fun z => ?_) (fun z => ?_)
  · have z1 : r4.toInt = (0 : Int) := i_eq.mp z
    exact ok_some (Or.inl ⟨by omega, rfl⟩)
  have y4 : ¬ r4.toInt = (0 : Int) := fun w => z (i_eq.mpr w)
  refine ok_bd16 (v_endsT 0 0 0 0 0 0 0 iCur (fun _ => 0) (fun _ => 0) (fun _ => 0) (fun _ => 0) (fun _ => 0) (fun _ => 0) (fun _ => 0) (fun _ => 0) (fun _ => 0) (fun _ => 0) (fun _ => 0) (fun _ => 0) (fun _ => 0) (fun _ _ => rfl)) (fun w1 w2 w3 w4 w5 w6 w7 w8 w9 w10 w11 w12 w13 w14 w15 w16 q => ?_)
  obtain ⟨e1, e2⟩ := q
  have e1 : w5 = 2152 := e1
  have e2 : w16 = ENf := e2
  rw [e1, e2]
  refine ok_ite (fun w => absurd (j_eq.mp ((lg_cmp_eq _ _).mp w)) n2152) (fun _ => ?_)
  refine ok_mono (e_should7 FU x1 x2 x3 x4 0 0 w1 w2 w3 w4 0 0 w6 w7 jFar7 (fun _ => 0) (fun _ => 0) w8 w9 w10 w11 w12 w13 w14 w15 (fun _ => 0) (fun _ => 0) (fun _ => 0) (by omega) (by omega) (by omega) (by omega) (by omega) (by omega) (by omega) (by omega) (by decide) (by decide) (FU_gt (by decide)) (by rw [if_neg (by have : (0 : Int32).toInt = 0 := rfl; omega)])) (fun u hu => Or.inr ⟨by omega, hu⟩)
