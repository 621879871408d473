/-! What moves and what moves most: the model. -/
theorem th_tab : ∀ c : Nat, c < 100 → (f_X7_thousandths (ETL.getD c 0) 2152).isSome = true := by decide +kernel
def thV (c : Nat) : Int32 := (f_X7_thousandths (ENf c) 2152).getD 0
theorem th_is {c : Nat} (hc : c < 100) : okP (f_X7_thousandths (ENf c) 2152) (fun r => r = thV c) := by
  have h := th_tab c hc
  rw [← EN_tab c hc] at h
  unfold thV
  cases hx : f_X7_thousandths (ENf c) 2152 with
  | none =>
    rw [hx] at h
    exact absurd h (by decide)
  | some a => exact ⟨a, rfl, rfl⟩
set_option maxHeartbeats 8000000 in
theorem e_m193 : ∀ (f : Nat) (v3 : Int32) (v4 : Int32) (o_level : Int32) (o_noRings : Int32) (o_noTones : Int32) (o_noFuel : Int32) (o_noPieces : Int32) (o_noDrags : Int32) (o_currents : Nat → Int32) (o_warmths : Nat → Int32) (o_code : Nat → Int32) (o_cellAt : Nat → Int32) (o_courseAt : Nat → Int32) (o_paceAt : Nat → Int32) (o_turnsAt : Nat → Int32) (o_slowAt : Nat → Int32) (o_fuelAt : Nat → Int32) (o_ringAt : Nat → Int32) (o_pieceParts : Nat → Int32) (o_dragCell : Nat → Int32) (o_dragBy : Nat → Int32) (o_shares : Nat → Int32), 0 ≤ v4.toInt → v4.toInt ≤ 100 → (100 - v4.toInt).toNat < f → v3 = 0 → (∀ j : Nat, j < 100 → o_shares j = thV j) → okP (f_X7_moved_L193 f v3 v4 o_level o_noRings o_noTones o_noFuel 0 0 2152 o_noPieces o_noDrags jSet jFar7 (fun _ => 0) o_currents o_warmths o_code o_cellAt o_courseAt o_paceAt o_turnsAt o_slowAt o_fuelAt o_ringAt o_pieceParts o_dragCell o_dragBy ENf o_shares) (fun u => u.1.toInt = 0 ∧ Hi0 u.2.2.2.2.2.2.2.2.2.2.2.2.2.2.2.2.1) := by
  intro f
  induction f with
  | zero =>
    intro v3 v4 o_level o_noRings o_noTones o_noFuel o_noPieces o_noDrags o_currents o_warmths o_code o_cellAt o_courseAt o_paceAt o_turnsAt o_slowAt o_fuelAt o_ringAt o_pieceParts o_dragCell o_dragBy o_shares _ _ hm
    exact absurd hm (Nat.not_lt_zero _)
  | succ f ih =>
    intro v3 v4 o_level o_noRings o_noTones o_noFuel o_noPieces o_noDrags o_currents o_warmths o_code o_cellAt o_courseAt o_paceAt o_turnsAt o_slowAt o_fuelAt o_ringAt o_pieceParts o_dragCell o_dragBy o_shares r0 r1 hm hv hs
    show okP (f_X7_moved_L193b (f_X7_moved_L193 f) v3 v4 o_level o_noRings o_noTones o_noFuel 0 0 2152 o_noPieces o_noDrags jSet jFar7 (fun _ => 0) o_currents o_warmths o_code o_cellAt o_courseAt o_paceAt o_turnsAt o_slowAt o_fuelAt o_ringAt o_pieceParts o_dragCell o_dragBy ENf o_shares) _
    unfold f_X7_moved_L193b
    refine ok_ite (fun z => ?_) (fun z => ?_)
    · exact ok_some ⟨by show v3.toInt = 0; rw [hv]; rfl, Hi0_EN⟩
    have z1 : ¬ (100 : Int) ≤ v4.toInt := fun y => z (i_le.mpr y)
    have f4 : (v4 + 1).toInt = v4.toInt + (1 : Int) := i_add2 rfl rfl (by omega) (by omega)
    have hx : ¬ (v4 < 0 ∨ 100 ≤ v4.toNatClampNeg) := ix (by omega) (by omega)
    have c4 : v4.toNatClampNeg < 100 := by
      rw [i_cl]
      omega
    refine ok_chk hx ?_
    refine ok_bd1 (th_is c4) (fun r q => ?_)
    replace q : r = thV v4.toNatClampNeg := q
    refine ok_chk hx ?_
    rw [hs _ c4, q, Int32.sub_self]
    refine ok_nmx (fun d hd => ?_)
    subst hd
    refine ok_ite (fun _ => ?_) (fun w => absurd (by decide) w)
    unfold f_X7_moved_B235
    refine ok_nmx (fun y hy => ?_)
    refine ok_nmi (fun x hx2 kx => ?_)
    refine ih y x o_level o_noRings o_noTones o_noFuel o_noPieces o_noDrags o_currents o_warmths o_code o_cellAt o_courseAt o_paceAt o_turnsAt o_slowAt o_fuelAt o_ringAt o_pieceParts o_dragCell o_dragBy o_shares (by omega) (by omega) (by omega) ?_ hs
    rw [hy, hv]
    decide
set_option maxHeartbeats 8000000 in
theorem e_m142 (y0 : Int32) (o_level : Int32) (o_noRings : Int32) (o_noTones : Int32) (o_noFuel : Int32) (o_all : Int64) (o_noPieces : Int32) (o_noDrags : Int32) (o_currents : Nat → Int32) (o_warmths : Nat → Int32) (o_code : Nat → Int32) (o_cellAt : Nat → Int32) (o_courseAt : Nat → Int32) (o_paceAt : Nat → Int32) (o_turnsAt : Nat → Int32) (o_slowAt : Nat → Int32) (o_fuelAt : Nat → Int32) (o_ringAt : Nat → Int32) (o_pieceParts : Nat → Int32) (o_dragCell : Nat → Int32) (o_dragBy : Nat → Int32) (o_sums : Nat → Int64) (o_shares : Nat → Int32) (hy : y0 = 0 ∨ y0 = 1) (hs : Hi0 o_sums) (hh : ∀ j : Nat, j < 100 → o_shares j = thV j) : okP (f_X7_moved_B142 1 y0 o_level o_noRings o_noTones o_noFuel 0 0 o_all o_noPieces o_noDrags jSet jFar7 (fun _ => 0) o_currents o_warmths o_code o_cellAt o_courseAt o_paceAt o_turnsAt o_slowAt o_fuelAt o_ringAt o_pieceParts o_dragCell o_dragBy o_sums o_shares) (fun u => u.1.toInt = 0 ∧ Hi0 u.2.2.2.2.2.2.2.2.2.2.2.2.2.2.2.2.1) := by
  unfold f_X7_moved_B142
  refine ok_chk hy ?_
  refine ok_bd11 (e_endsM o_level o_noRings o_noTones o_noFuel o_noPieces y0 o_all jFar7 (fun _ => 0) o_currents o_warmths o_code o_cellAt o_courseAt o_paceAt o_turnsAt o_slowAt o_fuelAt o_ringAt o_pieceParts o_dragCell o_dragBy o_sums MOK_j hs) (fun g1 g2 g3 g4 g5 g6 g7 g8 g9 g10 g11 q => ?_)
  obtain ⟨q1, q2⟩ := q
  have q1 : g2 = tot ENf 100 := q1
  have q2 : g11 = ENf := q2
  rw [TOT_is] at q1
  subst q1
  subst q2
  refine ok_ite (fun w => absurd w (by decide)) (fun _ => ?_)
  refine ok_ite (fun w => absurd (j_eq.mp ((lg_cmp_eq _ _).mp w)) n2152) (fun _ => ?_)
  exact e_m193 FU 0 0 g1 o_noRings o_noTones o_noFuel o_noPieces y0 o_currents o_warmths g3 g4 g5 g6 g7 g8 g9 g10 o_pieceParts o_dragCell o_dragBy o_shares (by decide) (by decide) (FU_gt (by decide)) rfl hh
set_option maxHeartbeats 8000000 in
theorem e_m127 (v1 : Int32) (y0 : Int32) (o_level : Int32) (o_noRings : Int32) (o_noTones : Int32) (o_noFuel : Int32) (o_all : Int64) (o_noPieces : Int32) (o_noDrags : Int32) (o_currents : Nat → Int32) (o_warmths : Nat → Int32) (o_code : Nat → Int32) (o_cellAt : Nat → Int32) (o_courseAt : Nat → Int32) (o_paceAt : Nat → Int32) (o_turnsAt : Nat → Int32) (o_slowAt : Nat → Int32) (o_fuelAt : Nat → Int32) (o_ringAt : Nat → Int32) (o_pieceParts : Nat → Int32) (o_dragCell : Nat → Int32) (o_dragBy : Nat → Int32) (o_sums : Nat → Int64) (o_shares : Nat → Int32) (hs : Hi0 o_sums) (hh : ∀ j : Nat, j < 100 → o_shares j = thV j) : okP (f_X7_moved_B127 v1 1 y0 o_level o_noRings o_noTones o_noFuel 0 0 o_all o_noPieces o_noDrags jSet jFar7 (fun _ => 0) o_currents o_warmths o_code o_cellAt o_courseAt o_paceAt o_turnsAt o_slowAt o_fuelAt o_ringAt o_pieceParts o_dragCell o_dragBy o_sums o_shares) (fun u => u.1.toInt = 0 ∧ Hi0 u.2.2.2.2.2.2.2.2.2.2.2.2.2.2.2.2.1) := by
  unfold f_X7_moved_B127
  refine ok_ite (fun _ => ?_) (fun _ => ?_)
  · exact e_m142 1 o_level o_noRings o_noTones o_noFuel o_all y0 o_noDrags o_currents o_warmths o_code o_cellAt o_courseAt o_paceAt o_turnsAt o_slowAt o_fuelAt o_ringAt o_pieceParts o_dragCell o_dragBy o_sums o_shares (Or.inr rfl) hs hh
  · exact e_m142 0 o_level o_noRings o_noTones o_noFuel o_all y0 o_noDrags o_currents o_warmths o_code o_cellAt o_courseAt o_paceAt o_turnsAt o_slowAt o_fuelAt o_ringAt o_pieceParts o_dragCell o_dragBy o_sums o_shares (Or.inl rfl) hs hh
set_option maxHeartbeats 8000000 in
theorem e_m101 (v1 : Int32) (y0 : Int32) (o_level : Int32) (o_noRings : Int32) (o_noTones : Int32) (o_noFuel : Int32) (o_all : Int64) (o_noPieces : Int32) (o_noDrags : Int32) (o_currents : Nat → Int32) (o_warmths : Nat → Int32) (o_code : Nat → Int32) (o_cellAt : Nat → Int32) (o_courseAt : Nat → Int32) (o_paceAt : Nat → Int32) (o_turnsAt : Nat → Int32) (o_slowAt : Nat → Int32) (o_fuelAt : Nat → Int32) (o_ringAt : Nat → Int32) (o_pieceParts : Nat → Int32) (o_dragCell : Nat → Int32) (o_dragBy : Nat → Int32) (o_sums : Nat → Int64) (o_shares : Nat → Int32) (hy : y0 = 0 ∨ y0 = 1) (hs : Hi0 o_sums) (hh : ∀ j : Nat, j < 100 → o_shares j = thV j) : okP (f_X7_moved_B101 v1 1 y0 o_level o_noRings o_noTones o_noFuel 0 0 o_all o_noPieces o_noDrags jSet jFar7 (fun _ => 0) o_currents o_warmths o_code o_cellAt o_courseAt o_paceAt o_turnsAt o_slowAt o_fuelAt o_ringAt o_pieceParts o_dragCell o_dragBy o_sums o_shares) (fun u => u.1.toInt = 0 ∧ Hi0 u.2.2.2.2.2.2.2.2.2.2.2.2.2.2.2.2.1) := by
  unfold f_X7_moved_B101
  refine ok_chk hy ?_
  refine ok_ite (fun _ => ?_) (fun _ => ?_)
  · unfold f_X7_moved_B126
    exact e_m127 v1 0 o_level o_noRings o_noTones y0 o_all o_noPieces o_noDrags o_currents o_warmths o_code o_cellAt o_courseAt o_paceAt o_turnsAt o_slowAt o_fuelAt o_ringAt o_pieceParts o_dragCell o_dragBy o_sums o_shares hs hh
  refine ok_ite (fun _ => ?_) (fun _ => ?_)
  · unfold f_X7_moved_B126
    exact e_m127 v1 0 o_level o_noRings o_noTones y0 o_all o_noPieces o_noDrags o_currents o_warmths o_code o_cellAt o_courseAt o_paceAt o_turnsAt o_slowAt o_fuelAt o_ringAt o_pieceParts o_dragCell o_dragBy o_sums o_shares hs hh
  · exact e_m127 v1 (1 <<< ((v1 - 8) &&& 31)) o_level o_noRings o_noTones y0 o_all o_noPieces o_noDrags o_currents o_warmths o_code o_cellAt o_courseAt o_paceAt o_turnsAt o_slowAt o_fuelAt o_ringAt o_pieceParts o_dragCell o_dragBy o_sums o_shares hs hh
set_option maxHeartbeats 8000000 in
theorem e_m86 (v1 : Int32) (y0 : Int32) (o_level : Int32) (o_noRings : Int32) (o_noTones : Int32) (o_noFuel : Int32) (o_all : Int64) (o_noPieces : Int32) (o_noDrags : Int32) (o_currents : Nat → Int32) (o_warmths : Nat → Int32) (o_code : Nat → Int32) (o_cellAt : Nat → Int32) (o_courseAt : Nat → Int32) (o_paceAt : Nat → Int32) (o_turnsAt : Nat → Int32) (o_slowAt : Nat → Int32) (o_fuelAt : Nat → Int32) (o_ringAt : Nat → Int32) (o_pieceParts : Nat → Int32) (o_dragCell : Nat → Int32) (o_dragBy : Nat → Int32) (o_sums : Nat → Int64) (o_shares : Nat → Int32) (hy : y0 = 0 ∨ y0 = 1) (hs : Hi0 o_sums) (hh : ∀ j : Nat, j < 100 → o_shares j = thV j) : okP (f_X7_moved_B86 v1 1 y0 o_level o_noRings o_noTones o_noFuel 0 0 o_all o_noPieces o_noDrags jSet jFar7 (fun _ => 0) o_currents o_warmths o_code o_cellAt o_courseAt o_paceAt o_turnsAt o_slowAt o_fuelAt o_ringAt o_pieceParts o_dragCell o_dragBy o_sums o_shares) (fun u => u.1.toInt = 0 ∧ Hi0 u.2.2.2.2.2.2.2.2.2.2.2.2.2.2.2.2.1) := by
  unfold f_X7_moved_B86
  refine ok_chk hy ?_
  refine ok_ite (fun _ => ?_) (fun _ => ?_)
  · exact e_m101 v1 1 o_level o_noRings y0 o_noFuel o_all o_noPieces o_noDrags o_currents o_warmths o_code o_cellAt o_courseAt o_paceAt o_turnsAt o_slowAt o_fuelAt o_ringAt o_pieceParts o_dragCell o_dragBy o_sums o_shares (Or.inr rfl) hs hh
  · exact e_m101 v1 0 o_level o_noRings y0 o_noFuel o_all o_noPieces o_noDrags o_currents o_warmths o_code o_cellAt o_courseAt o_paceAt o_turnsAt o_slowAt o_fuelAt o_ringAt o_pieceParts o_dragCell o_dragBy o_sums o_shares (Or.inl rfl) hs hh
set_option maxHeartbeats 8000000 in
theorem e_m71 (v1 : Int32) (y0 : Int32) (o_level : Int32) (o_noRings : Int32) (o_noTones : Int32) (o_noFuel : Int32) (o_all : Int64) (o_noPieces : Int32) (o_noDrags : Int32) (o_currents : Nat → Int32) (o_warmths : Nat → Int32) (o_code : Nat → Int32) (o_cellAt : Nat → Int32) (o_courseAt : Nat → Int32) (o_paceAt : Nat → Int32) (o_turnsAt : Nat → Int32) (o_slowAt : Nat → Int32) (o_fuelAt : Nat → Int32) (o_ringAt : Nat → Int32) (o_pieceParts : Nat → Int32) (o_dragCell : Nat → Int32) (o_dragBy : Nat → Int32) (o_sums : Nat → Int64) (o_shares : Nat → Int32) (hs : Hi0 o_sums) (hh : ∀ j : Nat, j < 100 → o_shares j = thV j) : okP (f_X7_moved_B71 v1 1 y0 o_level o_noRings o_noTones o_noFuel 0 0 o_all o_noPieces o_noDrags jSet jFar7 (fun _ => 0) o_currents o_warmths o_code o_cellAt o_courseAt o_paceAt o_turnsAt o_slowAt o_fuelAt o_ringAt o_pieceParts o_dragCell o_dragBy o_sums o_shares) (fun u => u.1.toInt = 0 ∧ Hi0 u.2.2.2.2.2.2.2.2.2.2.2.2.2.2.2.2.1) := by
  unfold f_X7_moved_B71
  refine ok_ite (fun _ => ?_) (fun _ => ?_)
  · exact e_m86 v1 1 o_level y0 o_noTones o_noFuel o_all o_noPieces o_noDrags o_currents o_warmths o_code o_cellAt o_courseAt o_paceAt o_turnsAt o_slowAt o_fuelAt o_ringAt o_pieceParts o_dragCell o_dragBy o_sums o_shares (Or.inr rfl) hs hh
  · exact e_m86 v1 0 o_level y0 o_noTones o_noFuel o_all o_noPieces o_noDrags o_currents o_warmths o_code o_cellAt o_courseAt o_paceAt o_turnsAt o_slowAt o_fuelAt o_ringAt o_pieceParts o_dragCell o_dragBy o_sums o_shares (Or.inl rfl) hs hh
set_option maxHeartbeats 8000000 in
theorem e_m21 : ∀ (f : Nat) (v1 : Int32) (v3 : Int32) (o_level : Int32) (o_noRings : Int32) (o_noTones : Int32) (o_noFuel : Int32) (o_noPieces : Int32) (o_noDrags : Int32) (o_currents : Nat → Int32) (o_warmths : Nat → Int32) (o_code : Nat → Int32) (o_cellAt : Nat → Int32) (o_courseAt : Nat → Int32) (o_paceAt : Nat → Int32) (o_turnsAt : Nat → Int32) (o_slowAt : Nat → Int32) (o_fuelAt : Nat → Int32) (o_ringAt : Nat → Int32) (o_pieceParts : Nat → Int32) (o_dragCell : Nat → Int32) (o_dragBy : Nat → Int32) (o_shares : Nat → Int32), 0 ≤ v3.toInt → v3.toInt ≤ 100 → (100 - v3.toInt).toNat < f → (∀ j : Nat, (j : Int) < v3.toInt → o_shares j = thV j) → okP (f_X7_moved_L21 f v1 1 v3 o_level o_noRings o_noTones o_noFuel 0 0 2152 o_noPieces o_noDrags jSet jFar7 (fun _ => 0) o_currents o_warmths o_code o_cellAt o_courseAt o_paceAt o_turnsAt o_slowAt o_fuelAt o_ringAt o_pieceParts o_dragCell o_dragBy ENf o_shares) (fun u => u.1.toInt = 0 ∧ Hi0 u.2.2.2.2.2.2.2.2.2.2.2.2.2.2.2.2.1) := by
  intro f
  induction f with
  | zero =>
    intro v1 v3 o_level o_noRings o_noTones o_noFuel o_noPieces o_noDrags o_currents o_warmths o_code o_cellAt o_courseAt o_paceAt o_turnsAt o_slowAt o_fuelAt o_ringAt o_pieceParts o_dragCell o_dragBy o_shares _ _ hm
    exact absurd hm (Nat.not_lt_zero _)
  | succ f ih =>
    intro v1 v3 o_level o_noRings o_noTones o_noFuel o_noPieces o_noDrags o_currents o_warmths o_code o_cellAt o_courseAt o_paceAt o_turnsAt o_slowAt o_fuelAt o_ringAt o_pieceParts o_dragCell o_dragBy o_shares r0 r1 hm hs
    show okP (f_X7_moved_L21b (f_X7_moved_L21 f) v1 1 v3 o_level o_noRings o_noTones o_noFuel 0 0 2152 o_noPieces o_noDrags jSet jFar7 (fun _ => 0) o_currents o_warmths o_code o_cellAt o_courseAt o_paceAt o_turnsAt o_slowAt o_fuelAt o_ringAt o_pieceParts o_dragCell o_dragBy ENf o_shares) _
    unfold f_X7_moved_L21b
    refine ok_ite (fun z => ?_) (fun z => ?_)
    · have z1 : (100 : Int) ≤ v3.toInt := i_le.mp z
      have hh : ∀ j : Nat, j < 100 → o_shares j = thV j := fun j hj => hs j (by omega)
      refine ok_ite (fun _ => ?_) (fun _ => ?_)
      · exact e_m71 v1 0 o_level o_noRings o_noTones o_noFuel 2152 o_noPieces o_noDrags o_currents o_warmths o_code o_cellAt o_courseAt o_paceAt o_turnsAt o_slowAt o_fuelAt o_ringAt o_pieceParts o_dragCell o_dragBy ENf o_shares Hi0_EN hh
      · exact e_m71 v1 (2 <<< (v1 &&& 31)) o_level o_noRings o_noTones o_noFuel 2152 o_noPieces o_noDrags o_currents o_warmths o_code o_cellAt o_courseAt o_paceAt o_turnsAt o_slowAt o_fuelAt o_ringAt o_pieceParts o_dragCell o_dragBy ENf o_shares Hi0_EN hh
    have z1 : ¬ (100 : Int) ≤ v3.toInt := fun y => z (i_le.mpr y)
    have f3 : (v3 + 1).toInt = v3.toInt + (1 : Int) := i_add2 rfl rfl (by omega) (by omega)
    have hx : ¬ (v3 < 0 ∨ 100 ≤ v3.toNatClampNeg) := ix (by omega) (by omega)
    have cv : (v3.toNatClampNeg : Int) = v3.toInt := clI r0
    refine ok_ite (fun w => absurd w (by decide)) (fun _ => ?_)
    refine ok_chk hx ?_
    refine ok_bd1 (th_is (c := v3.toNatClampNeg) (by omega)) (fun r q => ?_)
    replace q : r = thV v3.toNatClampNeg := q
    unfold f_X7_moved_B50
    refine ok_chk hx ?_
    refine ok_nmi (fun x hx2 kx => ?_)
    refine ih v1 x o_level o_noRings o_noTones o_noFuel o_noPieces o_noDrags o_currents o_warmths o_code o_cellAt o_courseAt o_paceAt o_turnsAt o_slowAt o_fuelAt o_ringAt o_pieceParts o_dragCell o_dragBy _ (by omega) (by omega) (by omega) (fun j hj => ?_)
    by_cases hk : j = v3.toNatClampNeg
    · rw [hk, upd_is, q]
    · rw [upd_no hk]
      exact hs j (by omega)
set_option maxHeartbeats 8000000 in
theorem e_moved7 (x1 : Int32) (o_level : Int32) (o_noRings : Int32) (o_noTones : Int32) (o_noFuel : Int32) (o_all : Int64) (o_noPieces : Int32) (o_noDrags : Int32) (o_currents : Nat → Int32) (o_warmths : Nat → Int32) (o_code : Nat → Int32) (o_cellAt : Nat → Int32) (o_courseAt : Nat → Int32) (o_paceAt : Nat → Int32) (o_turnsAt : Nat → Int32) (o_slowAt : Nat → Int32) (o_fuelAt : Nat → Int32) (o_ringAt : Nat → Int32) (o_pieceParts : Nat → Int32) (o_dragCell : Nat → Int32) (o_dragBy : Nat → Int32) (o_sums : Nat → Int64) (o_shares : Nat → Int32) (hs : Hi0 o_sums) : okP (f_X7_moved x1 o_level o_noRings o_noTones o_noFuel 0 0 o_all o_noPieces o_noDrags jSet jFar7 (fun _ => 0) o_currents o_warmths o_code o_cellAt o_courseAt o_paceAt o_turnsAt o_slowAt o_fuelAt o_ringAt o_pieceParts o_dragCell o_dragBy o_sums o_shares) (fun u => u.1.toInt = 0 ∧ Hi0 u.2.2.2.2.2.2.2.2.2.2.2.2.2.2.2.2.1) := by
  unfold f_X7_moved
  refine ok_bd16 (v_endsT o_level o_noRings o_noTones o_noFuel o_all o_noPieces o_noDrags o_currents o_warmths o_code o_cellAt o_courseAt o_paceAt o_turnsAt o_slowAt o_fuelAt o_ringAt o_pieceParts o_dragCell o_dragBy o_sums hs) (fun w1 w2 w3 w4 w5 w6 w7 w8 w9 w10 w11 w12 w13 w14 w15 w16 q => ?_)
  obtain ⟨e1, e2⟩ := q
  have e1 : w5 = 2152 := e1
  have e2 : w16 = ENf := e2
  subst e1
  subst e2
  refine ok_ite (fun w => absurd (j_le.mp ((lg_cmp_le _ _).mp w)) (by decide)) (fun _ => ?_)
  unfold f_X7_moved_B18
  exact e_m21 FU x1 0 w1 w2 w3 w4 w6 w7 o_currents o_warmths w8 w9 w10 w11 w12 w13 w14 w15 o_pieceParts o_dragCell o_dragBy o_shares (by decide) (by decide) (FU_gt (by decide)) (fun j hj => by have : (0 : Int32).toInt = 0 := rfl; omega)
theorem e_isAss (x1 : Int32) : okP (f_X7_isAssumption x1 0) (fun r => ((0 ≤ x1.toInt ∧ x1.toInt < 8 ∨ x1.toInt = 12) ∧ r = 1) ∨ (¬ (0 ≤ x1.toInt ∧ x1.toInt < 8 ∨ x1.toInt = 12) ∧ r = 0)) := by
  unfold f_X7_isAssumption
  refine ok_bd1 (s_X7_in x1.toInt64 0 12) (fun r q => ?_)
  replace q : (r.toInt = 1 ∧ (0 : Int) ≤ x1.toInt64.toInt ∧ x1.toInt64.toInt ≤ (12 : Int)) ∨ (r.toInt = 0 ∧ (x1.toInt64.toInt < (0 : Int) ∨ (12 : Int) < x1.toInt64.toInt)) := q
  rw [j_i2l] at q
  refine ok_ite (fun y => ?_) (fun y => ?_)
  · have y1 : r.toInt = (0 : Int) := i_eq.mp y
    exact ok_some (Or.inr ⟨by omega, rfl⟩)
  have y1 : ¬ r.toInt = (0 : Int) := fun w => y (i_eq.mpr w)
  refine ok_ite (fun z => ?_) (fun z => ?_)
  · have z1 : x1.toInt < (8 : Int) := i_lt.mp z
    exact ok_some (Or.inl ⟨by omega, rfl⟩)
  have z1 : ¬ x1.toInt < (8 : Int) := fun w => z (i_lt.mpr w)
  refine ok_ite (fun z => ?_) (fun z => ?_)
  · have z2 : x1.toInt = (12 : Int) := i_eq.mp z
    exact ok_some (Or.inl ⟨by omega, rfl⟩)
  have z2 : ¬ x1.toInt = (12 : Int) := fun w => z (i_eq.mpr w)
  have f8 : (x1 - 8).toInt = x1.toInt - (8 : Int) := i_sub2 rfl rfl (by omega) (by omega)
  refine ok_ite (fun _ => ?_) (fun w => ?_)
  · exact ok_some (Or.inr ⟨by omega, rfl⟩)
  · have w1 : ¬ (0 : Int) ≤ (x1 - 8).toInt := fun a => w (i_le.mpr a)
    omega
set_option maxHeartbeats 8000000 in
theorem v_X7_moves (x1 : Int32) : okP (f_X7_moves x1 0 0 0 0 0 0 0 0 0 jSet jFar7 (fun _ => 0) iCur (fun _ => 0) (fun _ => 0) (fun _ => 0) (fun _ => 0) (fun _ => 0) (fun _ => 0) (fun _ => 0) (fun _ => 0) (fun _ => 0) (fun _ => 0) (fun _ => 0) (fun _ => 0) (fun _ => 0) (fun _ => 0)) (fun u => ((0 ≤ x1.toInt ∧ x1.toInt < 8 ∨ x1.toInt = 12) ∧ u.1.toInt = 0) ∨ (¬ (0 ≤ x1.toInt ∧ x1.toInt < 8 ∨ x1.toInt = 12) ∧ u.1.toInt = -1)) := by
  unfold f_X7_moves
  refine ok_bd1 (e_isAss x1) (fun r q => ?_)
  rcases q with ⟨q1, q2⟩ | ⟨q1, q2⟩
  · refine ok_ite (fun y => ?_) (fun _ => ?_)
    · rw [q2] at y
      exact absurd y (by decide)
    refine ok_bd18 (e_moved7 x1 0 0 0 0 0 0 0 iCur (fun _ => 0) (fun _ => 0) (fun _ => 0) (fun _ => 0) (fun _ => 0) (fun _ => 0) (fun _ => 0) (fun _ => 0) (fun _ => 0) (fun _ => 0) (fun _ => 0) (fun _ => 0) (fun _ => 0) (fun _ => 0) (fun _ _ => rfl)) (fun r2 m2 m3 m4 m5 m6 m7 m8 m9 m10 m11 m12 m13 m14 m15 m16 m17 m18 q => ?_)
    exact ok_some (Or.inl ⟨q1, q.1⟩)
  · refine ok_ite (fun _ => ?_) (fun y => absurd q2 y)
    exact ok_some (Or.inr ⟨q1, rfl⟩)
set_option maxHeartbeats 8000000 in
theorem e_most7 : ∀ (f : Nat) (v1 : Int32) (v2 : Int32) (v3 : Int32) (o_level : Int32) (o_noRings : Int32) (o_noTones : Int32) (o_noFuel : Int32) (o_all : Int64) (o_noPieces : Int32) (o_noDrags : Int32) (o_currents : Nat → Int32) (o_warmths : Nat → Int32) (o_code : Nat → Int32) (o_cellAt : Nat → Int32) (o_courseAt : Nat → Int32) (o_paceAt : Nat → Int32) (o_turnsAt : Nat → Int32) (o_slowAt : Nat → Int32) (o_fuelAt : Nat → Int32) (o_ringAt : Nat → Int32) (o_pieceParts : Nat → Int32) (o_dragCell : Nat → Int32) (o_dragBy : Nat → Int32) (o_sums : Nat → Int64) (o_shares : Nat → Int32), 0 ≤ v3.toInt → v3.toInt ≤ 13 → (13 - v3.toInt).toNat < f → v1 = 0 → (v3.toInt = 0 ∧ v2.toInt = -1 ∨ 1 ≤ v3.toInt ∧ v2.toInt = 0) → Hi0 o_sums → okP (f_X7_most_L6 f v1 v2 v3 o_level o_noRings o_noTones o_noFuel 0 0 o_all o_noPieces o_noDrags jSet jFar7 (fun _ => 0) o_currents o_warmths o_code o_cellAt o_courseAt o_paceAt o_turnsAt o_slowAt o_fuelAt o_ringAt o_pieceParts o_dragCell o_dragBy o_sums o_shares) (fun u => u.1 = 0) := by
  intro f
  induction f with
  | zero =>
    intro v1 v2 v3 o_level o_noRings o_noTones o_noFuel o_all o_noPieces o_noDrags o_currents o_warmths o_code o_cellAt o_courseAt o_paceAt o_turnsAt o_slowAt o_fuelAt o_ringAt o_pieceParts o_dragCell o_dragBy o_sums o_shares _ _ hm
    exact absurd hm (Nat.not_lt_zero _)
  | succ f ih =>
    intro v1 v2 v3 o_level o_noRings o_noTones o_noFuel o_all o_noPieces o_noDrags o_currents o_warmths o_code o_cellAt o_courseAt o_paceAt o_turnsAt o_slowAt o_fuelAt o_ringAt o_pieceParts o_dragCell o_dragBy o_sums o_shares r0 r1 hm hv h2 hs
    show okP (f_X7_most_L6b (f_X7_most_L6 f) v1 v2 v3 o_level o_noRings o_noTones o_noFuel 0 0 o_all o_noPieces o_noDrags jSet jFar7 (fun _ => 0) o_currents o_warmths o_code o_cellAt o_courseAt o_paceAt o_turnsAt o_slowAt o_fuelAt o_ringAt o_pieceParts o_dragCell o_dragBy o_sums o_shares) _
    unfold f_X7_most_L6b
    refine ok_ite (fun z => ok_some hv) (fun z => ?_)
    have z1 : ¬ (13 : Int) ≤ v3.toInt := fun y => z (i_le.mpr y)
    have f3 : (v3 + 1).toInt = v3.toInt + (1 : Int) := i_add2 rfl rfl (by omega) (by omega)
    have z0 : (0 : Int32).toInt = 0 := rfl
    refine ok_bd1 (e_isAss v3) (fun r q => ?_)
    rcases q with ⟨q1, q2⟩ | ⟨q1, q2⟩
    · refine ok_ite (fun y => ?_) (fun _ => ?_)
      · rw [q2] at y
        exact absurd y (by decide)
      refine ok_bd18 (e_moved7 v3 o_level o_noRings o_noTones o_noFuel o_all o_noPieces o_noDrags o_currents o_warmths o_code o_cellAt o_courseAt o_paceAt o_turnsAt o_slowAt o_fuelAt o_ringAt o_pieceParts o_dragCell o_dragBy o_sums o_shares hs) (fun r2 m2 m3 m4 m5 m6 m7 m8 m9 m10 m11 m12 m13 m14 m15 m16 m17 m18 q => ?_)
      obtain ⟨p1, p2⟩ := q
      have p1 : r2.toInt = 0 := p1
      unfold f_X7_most_B29
      refine ok_ite (fun y => ?_) (fun y => ?_)
      · have y1 : r2.toInt ≤ v2.toInt := i_le.mp y
        unfold f_X7_most_B42
        refine ok_ite (fun _ => ?_) (fun w => absurd y w)
        unfold f_X7_most_B55
        refine ok_nmi (fun x hx kx => ?_)
        exact ih v1 v2 x m2 m3 m4 m5 m6 m7 m8 o_currents o_warmths m9 m10 m11 m12 m13 m14 m15 m16 o_pieceParts o_dragCell o_dragBy m17 m18 (by omega) (by omega) (by omega) hv (by omega) p2
      · have y1 : ¬ r2.toInt ≤ v2.toInt := fun w => y (i_le.mpr w)
        unfold f_X7_most_B42
        refine ok_ite (fun w => absurd w y) (fun _ => ?_)
        unfold f_X7_most_B55
        refine ok_nmi (fun x hx kx => ?_)
        exact ih v3 r2 x m2 m3 m4 m5 m6 m7 m8 o_currents o_warmths m9 m10 m11 m12 m13 m14 m15 m16 o_pieceParts o_dragCell o_dragBy m17 m18 (by omega) (by omega) (by omega) (i_eq.mpr (by omega)) (by omega) p2
    · refine ok_ite (fun _ => ?_) (fun y => absurd q2 y)
      have zm : (-1 : Int32).toInt = -1 := rfl
      unfold f_X7_most_B29
      refine ok_ite (fun y => ?_) (fun y => ?_)
      · unfold f_X7_most_B42
        refine ok_ite (fun _ => ?_) (fun w => absurd y w)
        unfold f_X7_most_B55
        refine ok_nmi (fun x hx kx => ?_)
        exact ih v1 v2 x o_level o_noRings o_noTones o_noFuel o_all o_noPieces o_noDrags o_currents o_warmths o_code o_cellAt o_courseAt o_paceAt o_turnsAt o_slowAt o_fuelAt o_ringAt o_pieceParts o_dragCell o_dragBy o_sums o_shares (by omega) (by omega) (by omega) hv (by omega) hs
      · have y1 : ¬ (-1 : Int) ≤ v2.toInt := fun w => y (i_le.mpr w)
        omega
set_option maxHeartbeats 8000000 in
theorem v_X7_most : okP (f_X7_most 0 0 0 0 0 0 0 0 0 jSet jFar7 (fun _ => 0) iCur (fun _ => 0) (fun _ => 0) (fun _ => 0) (fun _ => 0) (fun _ => 0) (fun _ => 0) (fun _ => 0) (fun _ => 0) (fun _ => 0) (fun _ => 0) (fun _ => 0) (fun _ => 0) (fun _ => 0) (fun _ => 0)) (fun u => u.1 = 0) := by
  unfold f_X7_most
  exact e_most7 FU 0 (-1) 0 0 0 0 0 0 0 0 iCur (fun _ => 0) (fun _ => 0) (fun _ => 0) (fun _ => 0) (fun _ => 0) (fun _ => 0) (fun _ => 0) (fun _ => 0) (fun _ => 0) (fun _ => 0) (fun _ => 0) (fun _ => 0) (fun _ => 0) (fun _ => 0) (by decide) (by decide) (FU_gt (by decide)) rfl (Or.inl ⟨rfl, rfl⟩) (fun _ _ => rfl)
