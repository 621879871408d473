/-! Sheets that are not there, rings of which nothing is told. -/
theorem e_wrong0 (x1 x2 x3 x4 : Int32) : okP (f_X6_wrongRow x1 x2 x3 x4 (fun _ => (-1)) (fun _ => 0)) (fun r => (¬ (0 ≤ x1.toInt ∧ x1.toInt < 4 ∧ 0 ≤ x2.toInt ∧ x2.toInt < 3) ∧ r.toInt = -1) ∨ ((0 ≤ x1.toInt ∧ x1.toInt < 4 ∧ 0 ≤ x2.toInt ∧ x2.toInt < 3) ∧ r.toInt = -11)) := by
  refine ok_mono (s_X6_wrongRow x1 x2 x3 x4 (fun _ => (-1)) (fun _ => 0) (fun j _ => (show 0 ≤ (0 : Int32).toInt ∧ (0 : Int32).toInt ≤ 16 by decide))) (fun u q => ?_)
  rcases q with q | q | q | q | q
  · exact Or.inl q
  · exact Or.inr ⟨q.1, q.2.2⟩
  · exact absurd rfl q.2.1
  · exact absurd rfl q.2.1
  · exact absurd rfl q.2.1
set_option maxHeartbeats 8000000 in
theorem v_X6_held (x1 : Int32) (x2 : Int32) (x3 : Int32) : okP (f_X6_held x1 x2 x3 iSet iFar7 (fun _ => 0) iFars 1 0 0 0 0 0 0 (-1) (-1) 0 0 0 (fun _ => 0) (fun _ => 0) (fun _ => 0) (fun _ => 0) (fun _ => 0) (fun _ => 0) (fun _ => 0) (fun _ => 0) (fun _ => (-1)) (fun _ => 0) (fun _ _ => 0)) (fun u => (¬ (0 ≤ x1.toInt ∧ x1.toInt < 4 ∧ 0 ≤ x2.toInt ∧ x2.toInt < 3) ∧ u.1.toInt = -1) ∨ ((0 ≤ x1.toInt ∧ x1.toInt < 4 ∧ 0 ≤ x2.toInt ∧ x2.toInt < 3) ∧ u.1.toInt = -11)) := by
  unfold f_X6_held
  refine ok_nmx (fun n hn => ?_)
  refine ok_bd1 (e_wrong0 x1 x2 x3 n) (fun r q => ?_)
  refine ok_ite (fun y => ?_) (fun _ => ?_)
  · have y1 : (0 : Int) ≤ r.toInt := i_le.mp y
    rcases q with ⟨_, q⟩ | ⟨_, q⟩ <;> omega
  · exact ok_some q
set_option maxHeartbeats 8000000 in
theorem v_X6_film (x1 : Int32) (x2 : Int32) (x3 : Int32) (x4 : Int32) : okP (f_X6_film x1 x2 x3 x4 1 iSet iFar7 (fun _ => 0) iFars 1 0 0 0 0 0 0 (-1) (-1) 0 0 0 (fun _ => 0) (fun _ => 0) (fun _ => 0) (fun _ => 0) (fun _ => 0) (fun _ => 0) (fun _ => 0) (fun _ => 0) (fun _ => (-1)) (fun _ => 0) (fun _ _ => 0)) (fun u => (¬ (0 ≤ x1.toInt ∧ 0 ≤ x2.toInt ∧ x2.toInt < 4 ∧ 0 ≤ x3.toInt ∧ x3.toInt < 3) ∧ u.1.toInt = -1) ∨ ((0 ≤ x1.toInt ∧ 0 ≤ x2.toInt ∧ x2.toInt < 4 ∧ 0 ≤ x3.toInt ∧ x3.toInt < 3) ∧ u.1.toInt = -11)) := by
  unfold f_X6_film
  refine ok_ite (fun z => ?_) (fun z => ?_)
  · have z1 : (0 : Int) ≤ x1.toInt := i_le.mp z
    refine ok_nmx (fun n hn => ?_)
    refine ok_bd1 (e_wrong0 x2 x3 x4 n) (fun r q => ?_)
    refine ok_ite (fun y => ?_) (fun _ => ?_)
    · have y1 : (0 : Int) ≤ r.toInt := i_le.mp y
      rcases q with ⟨_, q⟩ | ⟨_, q⟩ <;> omega
    · rcases q with ⟨q1, q⟩ | ⟨q1, q⟩
      · exact ok_some (Or.inl ⟨by omega, q⟩)
      · exact ok_some (Or.inr ⟨by omega, q⟩)
  · have z1 : ¬ (0 : Int) ≤ x1.toInt := fun y => z (i_le.mpr y)
    exact ok_some (Or.inl ⟨by omega, rfl⟩)
theorem jLan_n {j : Nat} (h : j < 4) : (jLan j).toInt = -1 := by
  unfold jLan
  rw [if_pos h]
  rfl
theorem e_refuses0 (x1 x2 x3 x4 : Int32) (sz : Nat → Int32) (h0 : 0 ≤ x1.toInt) (h1 : x1.toInt ≤ 3) : okP (f_X7_refuses x1 x2 x3 x4 jLan sz) (fun r => r.toInt = -11) := by
  refine ok_mono (s_X7_refuses x1 x2 x3 x4 jLan sz h0 h1) (fun u q => ?_)
  have e := jLan_n (j := x1.toNatClampNeg) (by rw [i_cl]; omega)
  rcases q with ⟨_, q⟩ | ⟨q, _⟩ | ⟨q, _⟩ | ⟨q, _⟩
  · exact q
  · omega
  · omega
  · omega
set_option maxHeartbeats 8000000 in
theorem v_X7_held (x1 : Int32) (x2 : Int32) (x3 : Int32) : okP (f_X7_held x1 x2 x3 0 0 0 0 0 0 0 0 0 jSet jFar7 (fun _ => 0) iCur (fun _ => 0) (fun _ => 0) (fun _ => 0) (fun _ => 0) (fun _ => 0) (fun _ => 0) (fun _ => 0) (fun _ => 0) (fun _ => 0) (fun _ => 0) (fun _ => 0) (fun _ => 0) (fun _ => 0) (fun _ => 0) jLan (fun _ => 0) (fun _ => 0)) (fun u => (¬ (0 ≤ x1.toInt ∧ x1.toInt < 4 ∧ 0 ≤ x2.toInt ∧ x2.toInt < 3) ∧ u.1.toInt = -1) ∨ ((0 ≤ x1.toInt ∧ x1.toInt < 4 ∧ 0 ≤ x2.toInt ∧ x2.toInt < 3) ∧ u.1.toInt = -11)) := by
  unfold f_X7_held
  refine ok_bd1 (s_X7_isSheet x1) (fun r q => ?_)
  replace q : (r.toInt = 1 ∧ 0 ≤ x1.toInt ∧ x1.toInt < 4) ∨ (r.toInt = 0 ∧ (x1.toInt < 0 ∨ 4 ≤ x1.toInt)) := q
  refine ok_ite (fun y => ?_) (fun y => ?_)
  · have y1 : r.toInt = (0 : Int) := i_eq.mp y
    exact ok_some (Or.inl ⟨by omega, rfl⟩)
  have y1 : ¬ r.toInt = (0 : Int) := fun w => y (i_eq.mpr w)
  refine ok_bd1 (s_X7_isLane x2) (fun r2 q2 => ?_)
  replace q2 : (r2.toInt = 1 ∧ 0 ≤ x2.toInt ∧ x2.toInt < 3) ∨ (r2.toInt = 0 ∧ (x2.toInt < 0 ∨ 3 ≤ x2.toInt)) := q2
  refine ok_ite (fun z => ?_) (fun z => ?_)
  · have z1 : r2.toInt = (0 : Int) := i_eq.mp z
    exact ok_some (Or.inl ⟨by omega, rfl⟩)
  have z1 : ¬ r2.toInt = (0 : Int) := fun w => z (i_eq.mpr w)
  refine ok_bd1 (e_refuses0 x1 x2 x3 _ _ (by omega) (by omega)) (fun r3 q3 => ?_)
  replace q3 : r3.toInt = -11 := q3
  refine ok_ite (fun w => ?_) (fun _ => ?_)
  · have w1 : (0 : Int) ≤ r3.toInt := i_le.mp w
    omega
  · exact ok_some (Or.inr ⟨by omega, q3⟩)
set_option maxHeartbeats 8000000 in
theorem v_X7_film (x1 : Int32) (x2 : Int32) (x3 : Int32) (x4 : Int32) : okP (f_X7_film x1 x2 x3 x4 0 0 0 0 jSet jFar7 (fun _ => 0) (fun _ => 0) (fun _ => 0) (fun _ => 0) (fun _ => 0) (fun _ => 0) (fun _ => 0) (fun _ => 0) (fun _ => 0) jLan (fun _ => 0) (fun _ => 0)) (fun u => (¬ (0 ≤ x1.toInt ∧ 0 ≤ x2.toInt ∧ x2.toInt < 4 ∧ 0 ≤ x3.toInt ∧ x3.toInt < 3) ∧ u.1.toInt = -1) ∨ ((0 ≤ x1.toInt ∧ 0 ≤ x2.toInt ∧ x2.toInt < 4 ∧ 0 ≤ x3.toInt ∧ x3.toInt < 3) ∧ u.1.toInt = -11)) := by
  unfold f_X7_film
  refine ok_ite (fun z => ?_) (fun z => ?_)
  · have z1 : x1.toInt < (0 : Int) := i_lt.mp z
    exact ok_some (Or.inl ⟨by omega, rfl⟩)
  have z0 : ¬ x1.toInt < (0 : Int) := fun y => z (i_lt.mpr y)
  refine ok_bd1 (s_X7_isSheet x2) (fun r q => ?_)
  replace q : (r.toInt = 1 ∧ 0 ≤ x2.toInt ∧ x2.toInt < 4) ∨ (r.toInt = 0 ∧ (x2.toInt < 0 ∨ 4 ≤ x2.toInt)) := q
  refine ok_ite (fun y => ?_) (fun y => ?_)
  · have y1 : r.toInt = (0 : Int) := i_eq.mp y
    exact ok_some (Or.inl ⟨by omega, rfl⟩)
  have y1 : ¬ r.toInt = (0 : Int) := fun w => y (i_eq.mpr w)
  refine ok_bd1 (s_X7_isLane x3) (fun r2 q2 => ?_)
  replace q2 : (r2.toInt = 1 ∧ 0 ≤ x3.toInt ∧ x3.toInt < 3) ∨ (r2.toInt = 0 ∧ (x3.toInt < 0 ∨ 3 ≤ x3.toInt)) := q2
  refine ok_ite (fun z => ?_) (fun z => ?_)
  · have z1 : r2.toInt = (0 : Int) := i_eq.mp z
    exact ok_some (Or.inl ⟨by omega, rfl⟩)
  have z1 : ¬ r2.toInt = (0 : Int) := fun w => z (i_eq.mpr w)
  refine ok_bd1 (e_refuses0 x2 x3 x4 _ _ (by omega) (by omega)) (fun r3 q3 => ?_)
  replace q3 : r3.toInt = -11 := q3
  refine ok_ite (fun w => ?_) (fun _ => ?_)
  · have w1 : (0 : Int) ≤ r3.toInt := i_le.mp w
    omega
  · exact ok_some (Or.inr ⟨by omega, q3⟩)
theorem iFar7_n {x : Int32} (h0 : 1 ≤ x.toInt) (h1 : x.toInt ≤ 6) : iFar7 x.toNatClampNeg = -1 := by
  unfold iFar7
  rw [if_pos (by rw [i_cl]; omega)]
def RgV (a b c : Int) : Prop := 1 ≤ a ∧ a ≤ 6 ∧ ((b = 0 ∧ -1 ≤ c ∧ c ≤ 40) ∨ (b = 1 ∧ 0 ≤ c ∧ c ≤ 2))
set_option maxHeartbeats 8000000 in
theorem v_X6_ring (x1 : Int32) (x2 : Int32) (x3 : Int32) : okP (f_X6_ring x1 x2 x3 1 1 iFar7 (fun _ => 0)) (fun u => (¬ RgV x1.toInt x2.toInt x3.toInt ∧ u.1.toInt = -1) ∨ (RgV x1.toInt x2.toInt x3.toInt ∧ x2.toInt = 0 ∧ u.1.toInt = 99) ∨ (RgV x1.toInt x2.toInt x3.toInt ∧ x2.toInt = 1 ∧ u.1.toInt = 100)) := by
  have hB : RgV x1.toInt x2.toInt x3.toInt → okP (f_X6_ring_B49 x1 x2 x3 1 1 iFar7 (fun _ => 0)) (fun u => (¬ RgV x1.toInt x2.toInt x3.toInt ∧ u.1.toInt = -1) ∨ (RgV x1.toInt x2.toInt x3.toInt ∧ x2.toInt = 0 ∧ u.1.toInt = 99) ∨ (RgV x1.toInt x2.toInt x3.toInt ∧ x2.toInt = 1 ∧ u.1.toInt = 100)) := by
    intro hV
    have hV2 := hV
    unfold RgV at hV2
    have hx : ¬ (x1 < 0 ∨ 7 ≤ x1.toNatClampNeg) := ix (by omega) (by omega)
    unfold f_X6_ring_B49
    refine ok_ite (fun z => ?_) (fun z => ?_)
    · have z1 : x2.toInt = (0 : Int) := i_eq.mp z
      refine ok_chk hx ?_
      rw [iFar7_n (by omega) (by omega)]
      refine ok_nmx (fun a ha => ?_)
      subst ha
      refine ok_chk hx ?_
      refine ok_bd2 (s_X6_waysChanged 1 1) (fun a b _ => ?_)
      exact ok_some (Or.inr (Or.inl ⟨hV, z1, show (100 + (-1) : Int32).toInt = 99 by decide⟩))
    · have z1 : ¬ x2.toInt = (0 : Int) := fun w => z (i_eq.mpr w)
      refine ok_chk hx ?_
      refine ok_nmx (fun a ha => ?_)
      subst ha
      refine ok_chk hx ?_
      refine ok_bd2 (s_X6_waysChanged 1 1) (fun a b _ => ?_)
      exact ok_some (Or.inr (Or.inr ⟨hV, by omega, show (100 + 0 : Int32).toInt = 100 by decide⟩))
  unfold f_X6_ring
  refine ok_bd1 (s_X6_within x1 1 6) (fun r q => ?_)
  replace q : (r.toInt = 1 ∧ (1 : Int) ≤ x1.toInt ∧ x1.toInt ≤ (6 : Int)) ∨ (r.toInt = 0 ∧ (x1.toInt < (1 : Int) ∨ (6 : Int) < x1.toInt)) := q
  refine ok_ite (fun y => ?_) (fun y => ?_)
  · have y1 : r.toInt = (0 : Int) := i_eq.mp y
    exact ok_some (Or.inl ⟨by unfold RgV; omega, rfl⟩)
  have y1 : ¬ r.toInt = (0 : Int) := fun w => y (i_eq.mpr w)
  refine ok_bd1 (s_X6_within x2 0 1) (fun r2 q2 => ?_)
  replace q2 : (r2.toInt = 1 ∧ (0 : Int) ≤ x2.toInt ∧ x2.toInt ≤ (1 : Int)) ∨ (r2.toInt = 0 ∧ (x2.toInt < (0 : Int) ∨ (1 : Int) < x2.toInt)) := q2
  refine ok_ite (fun z => ?_) (fun z => ?_)
  · have z1 : r2.toInt = (0 : Int) := i_eq.mp z
    exact ok_some (Or.inl ⟨by unfold RgV; omega, rfl⟩)
  have z1 : ¬ r2.toInt = (0 : Int) := fun w => z (i_eq.mpr w)
  refine ok_ite (fun a => ?_) (fun a => ?_)
  · have a1 : x2.toInt = (0 : Int) := i_eq.mp a
    refine ok_bd1 (s_X6_within x3 (-1) 40) (fun r3 q3 => ?_)
    replace q3 : (r3.toInt = 1 ∧ (-1 : Int) ≤ x3.toInt ∧ x3.toInt ≤ (40 : Int)) ∨ (r3.toInt = 0 ∧ (x3.toInt < (-1 : Int) ∨ (40 : Int) < x3.toInt)) := q3
    refine ok_ite (fun b => ?_) (fun b => ?_)
    · have b1 : r3.toInt = (0 : Int) := i_eq.mp b
      exact ok_some (Or.inl ⟨by unfold RgV; omega, rfl⟩)
    · have b1 : ¬ r3.toInt = (0 : Int) := fun w => b (i_eq.mpr w)
      exact hB (by unfold RgV; omega)
  · have a1 : ¬ x2.toInt = (0 : Int) := fun w => a (i_eq.mpr w)
    refine ok_bd1 (s_X6_within x3 0 2) (fun r3 q3 => ?_)
    replace q3 : (r3.toInt = 1 ∧ (0 : Int) ≤ x3.toInt ∧ x3.toInt ≤ (2 : Int)) ∨ (r3.toInt = 0 ∧ (x3.toInt < (0 : Int) ∨ (2 : Int) < x3.toInt)) := q3
    refine ok_ite (fun b => ?_) (fun b => ?_)
    · have b1 : r3.toInt = (0 : Int) := i_eq.mp b
      exact ok_some (Or.inl ⟨by unfold RgV; omega, rfl⟩)
    · have b1 : ¬ r3.toInt = (0 : Int) := fun w => b (i_eq.mpr w)
      exact hB (by unfold RgV; omega)
set_option maxHeartbeats 8000000 in
theorem v_X7_ring (x1 : Int32) (x2 : Int32) (x3 : Int32) : okP (f_X7_ring x1 x2 x3 jFar7 (fun _ => 0)) (fun u => (¬ RgV x1.toInt x2.toInt x3.toInt ∧ u.1.toInt = -1) ∨ (RgV x1.toInt x2.toInt x3.toInt ∧ x2.toInt = 0 ∧ u.1.toInt = 99) ∨ (RgV x1.toInt x2.toInt x3.toInt ∧ x2.toInt = 1 ∧ u.1.toInt = 100)) := by
  have hB : ∀ y0 y1 : Int64, 1 ≤ x1.toInt → x1.toInt ≤ 6 → (RgV x1.toInt x2.toInt x3.toInt ↔ (y1.toInt ≤ x3.toInt ∧ x3.toInt ≤ y0.toInt)) → (x2.toInt = 0 ∨ x2.toInt = 1) → okP (f_X7_ring_B48 x1 x2 x3 y0 y1 x3.toInt64 jFar7 (fun _ => 0)) (fun u => (¬ RgV x1.toInt x2.toInt x3.toInt ∧ u.1.toInt = -1) ∨ (RgV x1.toInt x2.toInt x3.toInt ∧ x2.toInt = 0 ∧ u.1.toInt = 99) ∨ (RgV x1.toInt x2.toInt x3.toInt ∧ x2.toInt = 1 ∧ u.1.toInt = 100)) := by
    intro y0 y1 h1 h6 hV h01
    have hx : ¬ (x1 < 0 ∨ 7 ≤ x1.toNatClampNeg) := ix (by omega) (by omega)
    unfold f_X7_ring_B48
    refine ok_bd1 (s_X7_in x3.toInt64 y1 y0) (fun r q => ?_)
    replace q : (r.toInt = 1 ∧ y1.toInt ≤ x3.toInt64.toInt ∧ x3.toInt64.toInt ≤ y0.toInt) ∨ (r.toInt = 0 ∧ (x3.toInt64.toInt < y1.toInt ∨ y0.toInt < x3.toInt64.toInt)) := q
    rw [j_i2l] at q
    refine ok_ite (fun z => ?_) (fun z => ?_)
    · have z1 : r.toInt = (0 : Int) := i_eq.mp z
      exact ok_some (Or.inl ⟨fun w => by have := hV.mp w; omega, rfl⟩)
    have z1 : ¬ r.toInt = (0 : Int) := fun w => z (i_eq.mpr w)
    have hv : RgV x1.toInt x2.toInt x3.toInt := hV.mpr (by omega)
    refine ok_ite (fun a => ?_) (fun a => ?_)
    · have a1 : x2.toInt = (0 : Int) := i_eq.mp a
      refine ok_chk hx ?_
      rw [show jFar7 x1.toNatClampNeg = -1 from iFar7_n h1 h6]
      unfold f_X7_ring_B75
      refine ok_ite (fun _ => ?_) (fun w => absurd a w)
      refine ok_chk hx ?_
      exact ok_some (Or.inr (Or.inl ⟨hv, a1, show (100 + (-1) : Int32).toInt = 99 by decide⟩))
    · have a1 : ¬ x2.toInt = (0 : Int) := fun w => a (i_eq.mpr w)
      refine ok_chk hx ?_
      unfold f_X7_ring_B75
      refine ok_ite (fun w => absurd w a) (fun _ => ?_)
      refine ok_chk hx ?_
      exact ok_some (Or.inr (Or.inr ⟨hv, by omega, show (100 + 0 : Int32).toInt = 100 by decide⟩))
  unfold f_X7_ring
  refine ok_bd1 (s_X7_in x1.toInt64 1 6) (fun r q => ?_)
  replace q : (r.toInt = 1 ∧ (1 : Int) ≤ x1.toInt64.toInt ∧ x1.toInt64.toInt ≤ (6 : Int)) ∨ (r.toInt = 0 ∧ (x1.toInt64.toInt < (1 : Int) ∨ (6 : Int) < x1.toInt64.toInt)) := q
  rw [j_i2l] at q
  refine ok_ite (fun y => ?_) (fun y => ?_)
  · have y1 : r.toInt = (0 : Int) := i_eq.mp y
    exact ok_some (Or.inl ⟨by unfold RgV; omega, rfl⟩)
  have y1 : ¬ r.toInt = (0 : Int) := fun w => y (i_eq.mpr w)
  refine ok_bd1 (s_X7_in x2.toInt64 0 1) (fun r2 q2 => ?_)
  replace q2 : (r2.toInt = 1 ∧ (0 : Int) ≤ x2.toInt64.toInt ∧ x2.toInt64.toInt ≤ (1 : Int)) ∨ (r2.toInt = 0 ∧ (x2.toInt64.toInt < (0 : Int) ∨ (1 : Int) < x2.toInt64.toInt)) := q2
  rw [j_i2l] at q2
  refine ok_ite (fun z => ?_) (fun z => ?_)
  · have z1 : r2.toInt = (0 : Int) := i_eq.mp z
    exact ok_some (Or.inl ⟨by unfold RgV; omega, rfl⟩)
  have z1 : ¬ r2.toInt = (0 : Int) := fun w => z (i_eq.mpr w)
  have em : (-1 : Int64).toInt = -1 := rfl
  have e40 : (40 : Int64).toInt = 40 := rfl
  have e0 : (0 : Int64).toInt = 0 := rfl
  have e2 : (2 : Int64).toInt = 2 := rfl
  refine ok_ite (fun a => ?_) (fun a => ?_)
  · have a1 : x2.toInt = (0 : Int) := i_eq.mp a
    unfold f_X7_ring_B35
    refine ok_ite (fun _ => ?_) (fun w => absurd a w)
    exact hB 40 (-1) (by omega) (by omega) (by unfold RgV; omega) (by omega)
  · have a1 : ¬ x2.toInt = (0 : Int) := fun w => a (i_eq.mpr w)
    unfold f_X7_ring_B35
    refine ok_ite (fun w => absurd w a) (fun _ => ?_)
    exact hB 2 0 (by omega) (by omega) (by unfold RgV; omega) (by omega)
theorem v_X6_rings : okP (f_X6_rings 1 1 iFar7 (fun _ => 0) 0 0 (fun _ => 0) (fun _ => 0) (fun _ => 0)) (fun u => u.1 = -20) := ok_map1 (by decide +kernel)
theorem v_X7_rings : okP (f_X7_rings 0 0 0 jFar7 (fun _ => 0) (fun _ => 0) (fun _ => 0) (fun _ => 0)) (fun u => u.1 = -20) := ok_map1 (by decide +kernel)
