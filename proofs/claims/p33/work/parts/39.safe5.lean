set_option maxRecDepth 100000 in
set_option maxHeartbeats 4000000 in
theorem s_X7_ways (o_level : Int32) (o_noRings : Int32) (o_noTones : Int32) (o_noFuel : Int32) (o_sets : Nat → Int32) (o_ringFar : Nat → Int32) (o_ringTone : Nat → Int32) (o_code : Nat → Int32) (o_cellAt : Nat → Int32) (o_courseAt : Nat → Int32) (o_paceAt : Nat → Int32) (o_turnsAt : Nat → Int32) (o_slowAt : Nat → Int32) (o_fuelAt : Nat → Int32) (o_ringAt : Nat → Int32) (h0 : SetOK o_sets) : okP (f_X7_ways o_level o_noRings o_noTones o_noFuel o_sets o_ringFar o_ringTone o_code o_cellAt o_courseAt o_paceAt o_turnsAt o_slowAt o_fuelAt o_ringAt) (fun u => True) := by
  obtain ⟨s0a, s0b, s1a, s1b, s2a, s2b, s3a, s3b, s4a, s4b, s5a, s5b, s6a, s6b, s7a, s7b⟩ := id h0
  have l10 : ∀ (n : Nat) (v1 : Int32) (o_level : Int32) (o_noRings : Int32) (o_noTones : Int32) (o_noFuel : Int32) (o_code : Nat → Int32) (o_cellAt : Nat → Int32) (o_courseAt : Nat → Int32) (o_paceAt : Nat → Int32) (o_turnsAt : Nat → Int32) (o_slowAt : Nat → Int32) (o_fuelAt : Nat → Int32) (o_ringAt : Nat → Int32), wm o_level o_code < n → (WI o_level o_sets o_code o_cellAt) → okP (f_X7_ways_L10 n v1 o_level o_noRings o_noTones o_noFuel o_sets o_ringFar o_ringTone o_code o_cellAt o_courseAt o_paceAt o_turnsAt o_slowAt o_fuelAt o_ringAt) (fun u => True) := by
    intro n
    induction n with
    | zero =>
      intro v1 o_level o_noRings o_noTones o_noFuel o_code o_cellAt o_courseAt o_paceAt o_turnsAt o_slowAt o_fuelAt o_ringAt hm
      exact absurd hm (Nat.not_lt_zero _)
    | succ n10 ih10 =>
      intro v1 o_level o_noRings o_noTones o_noFuel o_code o_cellAt o_courseAt o_paceAt o_turnsAt o_slowAt o_fuelAt o_ringAt hm10 g10_0
      show okP (f_X7_ways_L10b (f_X7_ways_L10 n10) v1 o_level o_noRings o_noTones o_noFuel o_sets o_ringFar o_ringTone o_code o_cellAt o_courseAt o_paceAt o_turnsAt o_slowAt o_fuelAt o_ringAt) (fun u => True)
      unfold f_X7_ways_L10b
      refine ok_bd10 (s_X7_goesOn o_level o_noRings o_noTones o_noFuel o_sets o_ringFar o_ringTone o_code o_cellAt o_courseAt o_paceAt o_turnsAt o_slowAt o_fuelAt o_ringAt (by first | with_reducible assumption | with_reducible rfl | omega) (by first | with_reducible assumption | with_reducible rfl | omega)) (fun r_1 w_2 w_3 w_4 w_5 w_6 w_7 w_8 w_9 w_10 q_11 => ?_)
      obtain ⟨q_11_0, q_11_1, q_11_2⟩ : (r_1.toInt = 0 ∨ (r_1.toInt = 1 ∧ wm w_2 w_3 < wm o_level o_code)) ∧ (WI w_2 o_sets w_3 w_4) ∧ (r_1.toInt = 1 → w_2.toInt = (o_sets 2).toInt) := q_11
      refine ok_ite (fun c_12 => ?_) (fun c_12 => ?_)
      · skip
        have c_12 : r_1.toInt = (0 : Int) := i_eq.mp c_12
        exact ok_some trivial
      · skip
        have c_12 : ¬ r_1.toInt = (0 : Int) := fun z => c_12 (i_eq.mpr z)
        first | (have f_13 : (v1 + 1).toInt = v1.toInt + (1 : Int) := i_add2 rfl rfl (by omega) (by omega)) | skip
        refine ok_nmi (fun x_14 hx_14 kx_14 => ?_)
        exact ih10 x_14 w_2 o_noRings o_noTones o_noFuel w_3 w_4 w_5 w_6 w_7 w_8 w_9 w_10 (show wm w_2 w_3 < n10 by omega) (by first | with_reducible assumption | with_reducible rfl | omega)
  unfold f_X7_ways
  refine ok_bd3 (s_X7_asTold o_noRings o_noTones o_noFuel) (fun w_15 w_16 w_17 q_18 => ?_)
  refine ok_bd7 (s_X7_begins o_level o_sets o_code o_cellAt o_turnsAt o_slowAt o_fuelAt o_ringAt (by first | with_reducible assumption | with_reducible rfl | omega)) (fun w_19 w_20 w_21 w_22 w_23 w_24 w_25 q_26 => ?_)
  replace q_26 : WI w_19 o_sets w_20 w_21 := q_26
  exact l10 FU 0 w_19 w_15 w_16 w_17 w_20 w_21 o_courseAt o_paceAt w_22 w_23 w_24 w_25 (FU_gt (wm_lt (by assumption) (by omega))) (by first | with_reducible assumption | with_reducible rfl | omega)
set_option maxRecDepth 100000 in
set_option maxHeartbeats 4000000 in
theorem s_X7_weight (o_level : Int32) (o_noRings : Int32) (o_noTones : Int32) (o_noFuel : Int32) (o_sets : Nat → Int32) (o_ringFar : Nat → Int32) (o_ringTone : Nat → Int32) (o_code : Nat → Int32) (o_cellAt : Nat → Int32) (o_courseAt : Nat → Int32) (o_paceAt : Nat → Int32) (o_turnsAt : Nat → Int32) (o_slowAt : Nat → Int32) (o_fuelAt : Nat → Int32) (o_ringAt : Nat → Int32) (h0 : SetOK o_sets) : okP (f_X7_weight o_level o_noRings o_noTones o_noFuel o_sets o_ringFar o_ringTone o_code o_cellAt o_courseAt o_paceAt o_turnsAt o_slowAt o_fuelAt o_ringAt) (fun u => True) := by
  obtain ⟨s0a, s0b, s1a, s1b, s2a, s2b, s3a, s3b, s4a, s4b, s5a, s5b, s6a, s6b, s7a, s7b⟩ := id h0
  have l10 : ∀ (n : Nat) (v1 : Int64) (o_level : Int32) (o_noRings : Int32) (o_noTones : Int32) (o_noFuel : Int32) (o_code : Nat → Int32) (o_cellAt : Nat → Int32) (o_courseAt : Nat → Int32) (o_paceAt : Nat → Int32) (o_turnsAt : Nat → Int32) (o_slowAt : Nat → Int32) (o_fuelAt : Nat → Int32) (o_ringAt : Nat → Int32), wm o_level o_code < n → (WI o_level o_sets o_code o_cellAt) → okP (f_X7_weight_L10 n v1 o_level o_noRings o_noTones o_noFuel o_sets o_ringFar o_ringTone o_code o_cellAt o_courseAt o_paceAt o_turnsAt o_slowAt o_fuelAt o_ringAt) (fun u => True) := by
    intro n
    induction n with
    | zero =>
      intro v1 o_level o_noRings o_noTones o_noFuel o_code o_cellAt o_courseAt o_paceAt o_turnsAt o_slowAt o_fuelAt o_ringAt hm
      exact absurd hm (Nat.not_lt_zero _)
    | succ n10 ih10 =>
      intro v1 o_level o_noRings o_noTones o_noFuel o_code o_cellAt o_courseAt o_paceAt o_turnsAt o_slowAt o_fuelAt o_ringAt hm10 g10_0
      show okP (f_X7_weight_L10b (f_X7_weight_L10 n10) v1 o_level o_noRings o_noTones o_noFuel o_sets o_ringFar o_ringTone o_code o_cellAt o_courseAt o_paceAt o_turnsAt o_slowAt o_fuelAt o_ringAt) (fun u => True)
      unfold f_X7_weight_L10b
      refine ok_bd10 (s_X7_goesOn o_level o_noRings o_noTones o_noFuel o_sets o_ringFar o_ringTone o_code o_cellAt o_courseAt o_paceAt o_turnsAt o_slowAt o_fuelAt o_ringAt (by first | with_reducible assumption | with_reducible rfl | omega) (by first | with_reducible assumption | with_reducible rfl | omega)) (fun r_1 w_2 w_3 w_4 w_5 w_6 w_7 w_8 w_9 w_10 q_11 => ?_)
      obtain ⟨q_11_0, q_11_1, q_11_2⟩ : (r_1.toInt = 0 ∨ (r_1.toInt = 1 ∧ wm w_2 w_3 < wm o_level o_code)) ∧ (WI w_2 o_sets w_3 w_4) ∧ (r_1.toInt = 1 → w_2.toInt = (o_sets 2).toInt) := q_11
      refine ok_ite (fun c_12 => ?_) (fun c_12 => ?_)
      · skip
        have c_12 : r_1.toInt = (0 : Int) := i_eq.mp c_12
        exact ok_some trivial
      · skip
        have c_12 : ¬ r_1.toInt = (0 : Int) := fun z => c_12 (i_eq.mpr z)
        refine ok_bd1 (s_X7_heavy o_sets w_7 w_8 w_10 (by first | with_reducible assumption | with_reducible rfl | omega)) (fun r_13 q_14 => ?_)
        first | (have f_15 : (r_13.toInt64).toInt = r_13.toInt := j_i2l _) | skip
        first | (have f_16 : (v1 + r_13.toInt64).toInt = v1.toInt + (r_13.toInt64).toInt := j_add2 rfl rfl (by omega) (by omega)) | skip
        refine ok_nmj (fun x_17 hx_17 kx_17 => ?_)
        exact ih10 x_17 w_2 o_noRings o_noTones o_noFuel w_3 w_4 w_5 w_6 w_7 w_8 w_9 w_10 (show wm w_2 w_3 < n10 by omega) (by first | with_reducible assumption | with_reducible rfl | omega)
  unfold f_X7_weight
  refine ok_bd3 (s_X7_asTold o_noRings o_noTones o_noFuel) (fun w_18 w_19 w_20 q_21 => ?_)
  refine ok_bd7 (s_X7_begins o_level o_sets o_code o_cellAt o_turnsAt o_slowAt o_fuelAt o_ringAt (by first | with_reducible assumption | with_reducible rfl | omega)) (fun w_22 w_23 w_24 w_25 w_26 w_27 w_28 q_29 => ?_)
  replace q_29 : WI w_22 o_sets w_23 w_24 := q_29
  exact l10 FU 0 w_22 w_18 w_19 w_20 w_23 w_24 o_courseAt o_paceAt w_25 w_26 w_27 w_28 (FU_gt (wm_lt (by assumption) (by omega))) (by first | with_reducible assumption | with_reducible rfl | omega)
set_option maxRecDepth 100000 in
set_option maxHeartbeats 4000000 in
theorem s_X7_finds (x1 : Int32) (o_level : Int32) (o_noRings : Int32) (o_noTones : Int32) (o_noFuel : Int32) (o_sets : Nat → Int32) (o_ringFar : Nat → Int32) (o_ringTone : Nat → Int32) (o_code : Nat → Int32) (o_cellAt : Nat → Int32) (o_courseAt : Nat → Int32) (o_paceAt : Nat → Int32) (o_turnsAt : Nat → Int32) (o_slowAt : Nat → Int32) (o_fuelAt : Nat → Int32) (o_ringAt : Nat → Int32) (h0 : SetOK o_sets) : okP (f_X7_finds x1 o_level o_noRings o_noTones o_noFuel o_sets o_ringFar o_ringTone o_code o_cellAt o_courseAt o_paceAt o_turnsAt o_slowAt o_fuelAt o_ringAt) (fun u => (u.1.toInt = 0 ∨ u.1.toInt = 1)) := by
  obtain ⟨s0a, s0b, s1a, s1b, s2a, s2b, s3a, s3b, s4a, s4b, s5a, s5b, s6a, s6b, s7a, s7b⟩ := id h0
  have l15 : ∀ (n : Nat) (v1 : Int32) (v2 : Int32) (v3 : Int32) (o_level : Int32) (o_noRings : Int32) (o_noTones : Int32) (o_noFuel : Int32) (o_code : Nat → Int32) (o_cellAt : Nat → Int32) (o_courseAt : Nat → Int32) (o_paceAt : Nat → Int32) (o_turnsAt : Nat → Int32) (o_slowAt : Nat → Int32) (o_fuelAt : Nat → Int32) (o_ringAt : Nat → Int32), (v1.toInt - v3.toInt).toNat < n → (WI o_level o_sets o_code o_cellAt) → (v2.toInt = 0 ∨ v2.toInt = 1) → (0 ≤ v3.toInt) → okP (f_X7_finds_L15 n v1 v2 v3 o_level o_noRings o_noTones o_noFuel o_sets o_ringFar o_ringTone o_code o_cellAt o_courseAt o_paceAt o_turnsAt o_slowAt o_fuelAt o_ringAt) (fun u => (u.1.toInt = 0 ∨ u.1.toInt = 1)) := by
    intro n
    induction n with
    | zero =>
      intro v1 v2 v3 o_level o_noRings o_noTones o_noFuel o_code o_cellAt o_courseAt o_paceAt o_turnsAt o_slowAt o_fuelAt o_ringAt hm
      exact absurd hm (Nat.not_lt_zero _)
    | succ n15 ih15 =>
      intro v1 v2 v3 o_level o_noRings o_noTones o_noFuel o_code o_cellAt o_courseAt o_paceAt o_turnsAt o_slowAt o_fuelAt o_ringAt hm15 g15_0 g15_1 g15_2
      show okP (f_X7_finds_L15b (f_X7_finds_L15 n15) v1 v2 v3 o_level o_noRings o_noTones o_noFuel o_sets o_ringFar o_ringTone o_code o_cellAt o_courseAt o_paceAt o_turnsAt o_slowAt o_fuelAt o_ringAt) (fun u => (u.1.toInt = 0 ∨ u.1.toInt = 1))
      unfold f_X7_finds_L15b
      have hiv_v1 := i_hi v1
      refine ok_ite (fun c_1 => ?_) (fun c_1 => ?_)
      · skip
        have c_1 : v1.toInt ≤ v3.toInt := i_le.mp c_1
        refine ok_chk (b01 (show v2.toInt = 0 ∨ v2.toInt = 1 by omega)) ?_
        exact ok_some (show (v2.toInt = 0 ∨ v2.toInt = 1) from by omega)
      · skip
        have c_1 : ¬ v1.toInt ≤ v3.toInt := fun z => c_1 (i_le.mpr z)
        refine ok_ite (fun c_2 => ?_) (fun c_2 => ?_)
        · skip
          have c_2 : v2.toInt = (0 : Int) := i_eq.mp c_2
          refine ok_chk (b01 (show v2.toInt = 0 ∨ v2.toInt = 1 by omega)) ?_
          exact ok_some (show (v2.toInt = 0 ∨ v2.toInt = 1) from by omega)
        · skip
          have c_2 : ¬ v2.toInt = (0 : Int) := fun z => c_2 (i_eq.mpr z)
          refine ok_bd10 (s_X7_goesOn o_level o_noRings o_noTones o_noFuel o_sets o_ringFar o_ringTone o_code o_cellAt o_courseAt o_paceAt o_turnsAt o_slowAt o_fuelAt o_ringAt (by first | with_reducible assumption | with_reducible rfl | omega) (by first | with_reducible assumption | with_reducible rfl | omega)) (fun r_3 w_4 w_5 w_6 w_7 w_8 w_9 w_10 w_11 w_12 q_13 => ?_)
          obtain ⟨q_13_0, q_13_1, q_13_2⟩ : (r_3.toInt = 0 ∨ (r_3.toInt = 1 ∧ wm w_4 w_5 < wm o_level o_code)) ∧ (WI w_4 o_sets w_5 w_6) ∧ (r_3.toInt = 1 → w_4.toInt = (o_sets 2).toInt) := q_13
          first | (have f_14 : (v3 + 1).toInt = v3.toInt + (1 : Int) := i_add2 rfl rfl (by omega) (by omega)) | skip
          refine ok_nmi (fun x_15 hx_15 kx_15 => ?_)
          exact ih15 v1 r_3 x_15 w_4 o_noRings o_noTones o_noFuel w_5 w_6 w_7 w_8 w_9 w_10 w_11 w_12 (show (v1.toInt - x_15.toInt).toNat < n15 by omega) (by first | with_reducible assumption | with_reducible rfl | omega) (show r_3.toInt = 0 ∨ r_3.toInt = 1 by omega) (show 0 ≤ x_15.toInt by omega)
  unfold f_X7_finds
  refine ok_bd3 (s_X7_asTold o_noRings o_noTones o_noFuel) (fun w_16 w_17 w_18 q_19 => ?_)
  refine ok_bd7 (s_X7_begins o_level o_sets o_code o_cellAt o_turnsAt o_slowAt o_fuelAt o_ringAt (by first | with_reducible assumption | with_reducible rfl | omega)) (fun w_20 w_21 w_22 w_23 w_24 w_25 w_26 q_27 => ?_)
  replace q_27 : WI w_20 o_sets w_21 w_22 := q_27
  refine ok_bd10 (s_X7_goesOn w_20 w_16 w_17 w_18 o_sets o_ringFar o_ringTone w_21 w_22 o_courseAt o_paceAt w_23 w_24 w_25 w_26 (by first | with_reducible assumption | with_reducible rfl | omega) (by first | with_reducible assumption | with_reducible rfl | omega)) (fun r_28 w_29 w_30 w_31 w_32 w_33 w_34 w_35 w_36 w_37 q_38 => ?_)
  obtain ⟨q_38_0, q_38_1, q_38_2⟩ : (r_28.toInt = 0 ∨ (r_28.toInt = 1 ∧ wm w_29 w_30 < wm w_20 w_21)) ∧ (WI w_29 o_sets w_30 w_31) ∧ (r_28.toInt = 1 → w_29.toInt = (o_sets 2).toInt) := q_38
  have hiv := i_hi x1
  exact l15 FU x1 r_28 0 w_29 w_16 w_17 w_18 w_30 w_31 w_32 w_33 w_34 w_35 w_36 w_37 (FU_gt (show (x1.toInt - (0 : Int)).toNat < 1000000000000 by omega)) (by first | with_reducible assumption | with_reducible rfl | omega) (show r_28.toInt = 0 ∨ r_28.toInt = 1 by omega) (show 0 ≤ (0 : Int) by omega)
set_option maxRecDepth 100000 in
set_option maxHeartbeats 4000000 in
theorem s_X7_way (x1 : Int32) (x2 : Int32) (o_level : Int32) (o_noRings : Int32) (o_noTones : Int32) (o_noFuel : Int32) (o_sets : Nat → Int32) (o_ringFar : Nat → Int32) (o_ringTone : Nat → Int32) (o_code : Nat → Int32) (o_cellAt : Nat → Int32) (o_courseAt : Nat → Int32) (o_paceAt : Nat → Int32) (o_turnsAt : Nat → Int32) (o_slowAt : Nat → Int32) (o_fuelAt : Nat → Int32) (o_ringAt : Nat → Int32) (h0 : SetOK o_sets) : okP (f_X7_way x1 x2 o_level o_noRings o_noTones o_noFuel o_sets o_ringFar o_ringTone o_code o_cellAt o_courseAt o_paceAt o_turnsAt o_slowAt o_fuelAt o_ringAt) (fun u => True) := by
  obtain ⟨s0a, s0b, s1a, s1b, s2a, s2b, s3a, s3b, s4a, s4b, s5a, s5b, s6a, s6b, s7a, s7b⟩ := id h0
  unfold f_X7_way
  refine ok_ite (fun c_1 => ?_) (fun c_1 => ?_)
  · skip
    have c_1 : x1.toInt < (0 : Int) := i_lt.mp c_1
    exact ok_some trivial
  · skip
    have c_1 : ¬ x1.toInt < (0 : Int) := fun z => c_1 (i_lt.mpr z)
    first | (have f_2 : (x2.toInt64).toInt = x2.toInt := j_i2l _) | skip
    first | (have f_3 : ((o_sets 2).toInt64).toInt = (o_sets 2).toInt := j_i2l _) | skip
    refine ok_bd1 (s_X7_in x2.toInt64 (-3) ((o_sets 2).toInt64)) (fun r_4 q_5 => ?_)
    replace q_5 : (r_4.toInt = 1 ∧ (-3 : Int) ≤ x2.toInt64.toInt ∧ x2.toInt64.toInt ≤ ((o_sets 2).toInt64).toInt) ∨ (r_4.toInt = 0 ∧ (x2.toInt64.toInt < (-3 : Int) ∨ ((o_sets 2).toInt64).toInt < x2.toInt64.toInt)) := q_5
    refine ok_ite (fun c_6 => ?_) (fun c_6 => ?_)
    · skip
      have c_6 : r_4.toInt = (0 : Int) := i_eq.mp c_6
      replace q_5 : (x2.toInt64.toInt < (-3 : Int) ∨ ((o_sets 2).toInt64).toInt < x2.toInt64.toInt) := by omega
      exact ok_some trivial
    · skip
      have c_6 : ¬ r_4.toInt = (0 : Int) := fun z => c_6 (i_eq.mpr z)
      replace q_5 : (-3 : Int) ≤ x2.toInt64.toInt ∧ x2.toInt64.toInt ≤ ((o_sets 2).toInt64).toInt := by omega
      refine ok_bd13 (s_X7_finds x1 o_level o_noRings o_noTones o_noFuel o_sets o_ringFar o_ringTone o_code o_cellAt o_courseAt o_paceAt o_turnsAt o_slowAt o_fuelAt o_ringAt (by first | with_reducible assumption | with_reducible rfl | omega)) (fun r_7 w_8 w_9 w_10 w_11 w_12 w_13 w_14 w_15 w_16 w_17 w_18 w_19 q_20 => ?_)
      replace q_20 : r_7.toInt = 0 ∨ r_7.toInt = 1 := q_20
      refine ok_ite (fun c_21 => ?_) (fun c_21 => ?_)
      · skip
        have c_21 : r_7.toInt = (0 : Int) := i_eq.mp c_21
        exact ok_some trivial
      · skip
        have c_21 : ¬ r_7.toInt = (0 : Int) := fun z => c_21 (i_eq.mpr z)
        refine ok_ite (fun c_22 => ?_) (fun c_22 => ?_)
        · skip
          have c_22 : x2.toInt = (-1 : Int) := i_eq.mp c_22
          refine ok_bd1 (s_X7_heavy o_sets w_16 w_17 w_19 (by first | with_reducible assumption | with_reducible rfl | omega)) (fun r_23 q_24 => ?_)
          exact ok_some trivial
        · skip
          have c_22 : ¬ x2.toInt = (-1 : Int) := fun z => c_22 (i_eq.mpr z)
          refine ok_ite (fun c_25 => ?_) (fun c_25 => ?_)
          · skip
            have c_25 : x2.toInt = (-2 : Int) := i_eq.mp c_25
            have ix_26 : ¬ ((o_sets 2) < 0 ∨ 7 ≤ (o_sets 2).toNatClampNeg) := ix (show 0 ≤ (o_sets 2).toInt by omega) (show (o_sets 2).toInt < (7 : Nat) by omega)
            refine ok_chk ix_26 ?_
            exact ok_some trivial
          · skip
            have c_25 : ¬ x2.toInt = (-2 : Int) := fun z => c_25 (i_eq.mpr z)
            refine ok_ite (fun c_27 => ?_) (fun c_27 => ?_)
            · skip
              have c_27 : x2.toInt = (-3 : Int) := i_eq.mp c_27
              have ix_28 : ¬ ((o_sets 2) < 0 ∨ 7 ≤ (o_sets 2).toNatClampNeg) := ix (show 0 ≤ (o_sets 2).toInt by omega) (show (o_sets 2).toInt < (7 : Nat) by omega)
              refine ok_chk ix_28 ?_
              exact ok_some trivial
            · skip
              have c_27 : ¬ x2.toInt = (-3 : Int) := fun z => c_27 (i_eq.mpr z)
              have ix_29 : ¬ (x2 < 0 ∨ 7 ≤ x2.toNatClampNeg) := ix (show 0 ≤ x2.toInt by omega) (show x2.toInt < (7 : Nat) by omega)
              refine ok_chk ix_29 ?_
              exact ok_some trivial
set_option maxRecDepth 100000 in
set_option maxHeartbeats 4000000 in
theorem s_X7_may (x1 : Int32) (x2 : Int32) (o_level : Int32) (o_noRings : Int32) (o_noTones : Int32) (o_noFuel : Int32) (o_sets : Nat → Int32) (o_ringFar : Nat → Int32) (o_ringTone : Nat → Int32) (o_code : Nat → Int32) (o_cellAt : Nat → Int32) (o_courseAt : Nat → Int32) (o_paceAt : Nat → Int32) (o_turnsAt : Nat → Int32) (o_slowAt : Nat → Int32) (o_fuelAt : Nat → Int32) (o_ringAt : Nat → Int32) (h0 : SetOK o_sets) : okP (f_X7_may x1 x2 o_level o_noRings o_noTones o_noFuel o_sets o_ringFar o_ringTone o_code o_cellAt o_courseAt o_paceAt o_turnsAt o_slowAt o_fuelAt o_ringAt) (fun u => True) := by
  obtain ⟨s0a, s0b, s1a, s1b, s2a, s2b, s3a, s3b, s4a, s4b, s5a, s5b, s6a, s6b, s7a, s7b⟩ := id h0
  have l40 : ∀ (n : Nat) (v1 : Int32) (v2 : Int32) (v3 : Int32) (o_level : Int32) (o_noRings : Int32) (o_noTones : Int32) (o_noFuel : Int32) (o_code : Nat → Int32) (o_cellAt : Nat → Int32) (o_courseAt : Nat → Int32) (o_paceAt : Nat → Int32) (o_turnsAt : Nat → Int32) (o_slowAt : Nat → Int32) (o_fuelAt : Nat → Int32) (o_ringAt : Nat → Int32), wm o_level o_code < n → (WI o_level o_sets o_code o_cellAt) → (0 ≤ v1.toInt) → (v1.toInt ≤ 6) → okP (f_X7_may_L40 n v1 v2 v3 o_level o_noRings o_noTones o_noFuel o_sets o_ringFar o_ringTone o_code o_cellAt o_courseAt o_paceAt o_turnsAt o_slowAt o_fuelAt o_ringAt) (fun u => True) := by
    intro n
    induction n with
    | zero =>
      intro v1 v2 v3 o_level o_noRings o_noTones o_noFuel o_code o_cellAt o_courseAt o_paceAt o_turnsAt o_slowAt o_fuelAt o_ringAt hm
      exact absurd hm (Nat.not_lt_zero _)
    | succ n40 ih40 =>
      intro v1 v2 v3 o_level o_noRings o_noTones o_noFuel o_code o_cellAt o_courseAt o_paceAt o_turnsAt o_slowAt o_fuelAt o_ringAt hm40 g40_0 g40_1 g40_2
      show okP (f_X7_may_L40b (f_X7_may_L40 n40) v1 v2 v3 o_level o_noRings o_noTones o_noFuel o_sets o_ringFar o_ringTone o_code o_cellAt o_courseAt o_paceAt o_turnsAt o_slowAt o_fuelAt o_ringAt) (fun u => True)
      unfold f_X7_may_L40b
      refine ok_bd10 (s_X7_goesOn o_level o_noRings o_noTones o_noFuel o_sets o_ringFar o_ringTone o_code o_cellAt o_courseAt o_paceAt o_turnsAt o_slowAt o_fuelAt o_ringAt (by first | with_reducible assumption | with_reducible rfl | omega) (by first | with_reducible assumption | with_reducible rfl | omega)) (fun r_1 w_2 w_3 w_4 w_5 w_6 w_7 w_8 w_9 w_10 q_11 => ?_)
      obtain ⟨q_11_0, q_11_1, q_11_2⟩ : (r_1.toInt = 0 ∨ (r_1.toInt = 1 ∧ wm w_2 w_3 < wm o_level o_code)) ∧ (WI w_2 o_sets w_3 w_4) ∧ (r_1.toInt = 1 → w_2.toInt = (o_sets 2).toInt) := q_11
      refine ok_ite (fun c_12 => ?_) (fun c_12 => ?_)
      · skip
        have c_12 : r_1.toInt = (0 : Int) := i_eq.mp c_12
        exact ok_some trivial
      · skip
        have c_12 : ¬ r_1.toInt = (0 : Int) := fun z => c_12 (i_eq.mpr z)
        have ix_13 : ¬ (v1 < 0 ∨ 7 ≤ v1.toNatClampNeg) := ix (show 0 ≤ v1.toInt by omega) (show v1.toInt < (7 : Nat) by omega)
        refine ok_chk ix_13 ?_
        first | (have f_14 : ((w_4 v1.toNatClampNeg) / 10).toInt = (w_4 v1.toNatClampNeg).toInt / (10 : Int) := i_div2 rfl rfl (by omega) (by omega)) | skip
        refine ok_ite (fun c_15 => ?_) (fun c_15 => ?_)
        · skip
          have c_15 : ((w_4 v1.toNatClampNeg) / 10).toInt = v2.toInt := i_eq.mp c_15
          refine ok_chk ix_13 ?_
          first | (have f_16 : ((w_4 v1.toNatClampNeg) - (w_4 v1.toNatClampNeg) / 10 * 10).toInt = (w_4 v1.toNatClampNeg).toInt % (10 : Int) := i_rem2 rfl rfl (by omega) (by omega)) | skip
          unfold f_X7_may_B76
          first | (have o_17 : (v3 ||| (1 <<< (((w_4 v1.toNatClampNeg) - (w_4 v1.toNatClampNeg) / 10 * 10) &&& 31))).toInt = 0 ∨ (v3 ||| (1 <<< (((w_4 v1.toNatClampNeg) - (w_4 v1.toNatClampNeg) / 10 * 10) &&& 31))).toInt = 1 := or01 (show v3.toInt = 0 ∨ v3.toInt = 1 by omega) (show (1 <<< (((w_4 v1.toNatClampNeg) - (w_4 v1.toNatClampNeg) / 10 * 10) &&& 31)).toInt = 0 ∨ (1 <<< (((w_4 v1.toNatClampNeg) - (w_4 v1.toNatClampNeg) / 10 * 10) &&& 31)).toInt = 1 by omega)) | skip
          refine ok_nmx (fun x_18 hx_18 => ?_)
          exact ih40 v1 v2 x_18 w_2 o_noRings o_noTones o_noFuel w_3 w_4 w_5 w_6 w_7 w_8 w_9 w_10 (show wm w_2 w_3 < n40 by omega) (by first | with_reducible assumption | with_reducible rfl | omega) (show 0 ≤ v1.toInt by omega) (show v1.toInt ≤ 6 by omega)
        · skip
          have c_15 : ¬ ((w_4 v1.toNatClampNeg) / 10).toInt = v2.toInt := fun z => c_15 (i_eq.mpr z)
          unfold f_X7_may_B76
          first | (have o_19 : (v3 ||| 0).toInt = 0 ∨ (v3 ||| 0).toInt = 1 := or01 (show v3.toInt = 0 ∨ v3.toInt = 1 by omega) (show (0 : Int) = 0 ∨ (0 : Int) = 1 by omega)) | skip
          refine ok_nmi (fun x_20 hx_20 kx_20 => ?_)
          exact ih40 v1 v2 x_20 w_2 o_noRings o_noTones o_noFuel w_3 w_4 w_5 w_6 w_7 w_8 w_9 w_10 (show wm w_2 w_3 < n40 by omega) (by first | with_reducible assumption | with_reducible rfl | omega) (show 0 ≤ v1.toInt by omega) (show v1.toInt ≤ 6 by omega)
  unfold f_X7_may
  first | (have f_21 : (x1.toInt64).toInt = x1.toInt := j_i2l _) | skip
  first | (have f_22 : ((o_sets 2).toInt64).toInt = (o_sets 2).toInt := j_i2l _) | skip
  refine ok_bd1 (s_X7_in x1.toInt64 0 ((o_sets 2).toInt64)) (fun r_23 q_24 => ?_)
  replace q_24 : (r_23.toInt = 1 ∧ (0 : Int) ≤ x1.toInt64.toInt ∧ x1.toInt64.toInt ≤ ((o_sets 2).toInt64).toInt) ∨ (r_23.toInt = 0 ∧ (x1.toInt64.toInt < (0 : Int) ∨ ((o_sets 2).toInt64).toInt < x1.toInt64.toInt)) := q_24
  refine ok_ite (fun c_25 => ?_) (fun c_25 => ?_)
  · skip
    have c_25 : r_23.toInt = (0 : Int) := i_eq.mp c_25
    replace q_24 : (x1.toInt64.toInt < (0 : Int) ∨ ((o_sets 2).toInt64).toInt < x1.toInt64.toInt) := by omega
    exact ok_some trivial
  · skip
    have c_25 : ¬ r_23.toInt = (0 : Int) := fun z => c_25 (i_eq.mpr z)
    replace q_24 : (0 : Int) ≤ x1.toInt64.toInt ∧ x1.toInt64.toInt ≤ ((o_sets 2).toInt64).toInt := by omega
    first | (have f_26 : (x2.toInt64).toInt = x2.toInt := j_i2l _) | skip
    refine ok_bd1 (s_X7_in x2.toInt64 0 9) (fun r_27 q_28 => ?_)
    replace q_28 : (r_27.toInt = 1 ∧ (0 : Int) ≤ x2.toInt64.toInt ∧ x2.toInt64.toInt ≤ (9 : Int)) ∨ (r_27.toInt = 0 ∧ (x2.toInt64.toInt < (0 : Int) ∨ (9 : Int) < x2.toInt64.toInt)) := q_28
    refine ok_ite (fun c_29 => ?_) (fun c_29 => ?_)
    · skip
      have c_29 : r_27.toInt = (0 : Int) := i_eq.mp c_29
      replace q_28 : (x2.toInt64.toInt < (0 : Int) ∨ (9 : Int) < x2.toInt64.toInt) := by omega
      exact ok_some trivial
    · skip
      have c_29 : ¬ r_27.toInt = (0 : Int) := fun z => c_29 (i_eq.mpr z)
      replace q_28 : (0 : Int) ≤ x2.toInt64.toInt ∧ x2.toInt64.toInt ≤ (9 : Int) := by omega
      refine ok_bd3 (s_X7_asTold o_noRings o_noTones o_noFuel) (fun w_30 w_31 w_32 q_33 => ?_)
      refine ok_bd7 (s_X7_begins o_level o_sets o_code o_cellAt o_turnsAt o_slowAt o_fuelAt o_ringAt (by first | with_reducible assumption | with_reducible rfl | omega)) (fun w_34 w_35 w_36 w_37 w_38 w_39 w_40 q_41 => ?_)
      replace q_41 : WI w_34 o_sets w_35 w_36 := q_41
      exact l40 FU x1 x2 0 w_34 w_30 w_31 w_32 w_35 w_36 o_courseAt o_paceAt w_37 w_38 w_39 w_40 (FU_gt (wm_lt (by assumption) (by omega))) (by first | with_reducible assumption | with_reducible rfl | omega) (show 0 ≤ x1.toInt by omega) (show x1.toInt ≤ 6 by omega)
set_option maxRecDepth 100000 in
set_option maxHeartbeats 4000000 in
theorem s_X7_ends (o_level : Int32) (o_noRings : Int32) (o_noTones : Int32) (o_noFuel : Int32) (o_pieces : Int32) (o_drags : Int32) (o_all : Int64) (o_noPieces : Int32) (o_noDrags : Int32) (o_sets : Nat → Int32) (o_ringFar : Nat → Int32) (o_ringTone : Nat → Int32) (o_currents : Nat → Int32) (o_warmths : Nat → Int32) (o_code : Nat → Int32) (o_cellAt : Nat → Int32) (o_courseAt : Nat → Int32) (o_paceAt : Nat → Int32) (o_turnsAt : Nat → Int32) (o_slowAt : Nat → Int32) (o_fuelAt : Nat → Int32) (o_ringAt : Nat → Int32) (o_pieceParts : Nat → Int32) (o_dragCell : Nat → Int32) (o_dragBy : Nat → Int32) (o_sums : Nat → Int64) (h0 : SetOK o_sets) (h1 : 0 ≤ (o_pieces).toInt) (h2 : (o_pieces).toInt ≤ 4) (h3 : 0 ≤ (o_drags).toInt) (h4 : (o_drags).toInt ≤ 4) : okP (f_X7_ends o_level o_noRings o_noTones o_noFuel o_pieces o_drags o_all o_noPieces o_noDrags o_sets o_ringFar o_ringTone o_currents o_warmths o_code o_cellAt o_courseAt o_paceAt o_turnsAt o_slowAt o_fuelAt o_ringAt o_pieceParts o_dragCell o_dragBy o_sums) (fun u => True) := by
  obtain ⟨s0a, s0b, s1a, s1b, s2a, s2b, s3a, s3b, s4a, s4b, s5a, s5b, s6a, s6b, s7a, s7b⟩ := id h0
  have l130 : ∀ (n : Nat) (v1 : Int32) (o_level : Int32) (o_all : Int64) (o_code : Nat → Int32) (o_cellAt : Nat → Int32) (o_courseAt : Nat → Int32) (o_paceAt : Nat → Int32) (o_turnsAt : Nat → Int32) (o_slowAt : Nat → Int32) (o_fuelAt : Nat → Int32) (o_ringAt : Nat → Int32) (o_sums : Nat → Int64), (100 - v1.toInt).toNat < n → (0 ≤ v1.toInt) → (v1.toInt ≤ 100) → okP (f_X7_ends_L130 n v1 o_level o_noRings o_noTones o_noFuel o_pieces o_drags o_all o_noPieces o_noDrags o_sets o_ringFar o_ringTone o_currents o_warmths o_code o_cellAt o_courseAt o_paceAt o_turnsAt o_slowAt o_fuelAt o_ringAt o_pieceParts o_dragCell o_dragBy o_sums) (fun u => True) := by
    intro n
    induction n with
    | zero =>
      intro v1 o_level o_all o_code o_cellAt o_courseAt o_paceAt o_turnsAt o_slowAt o_fuelAt o_ringAt o_sums hm
      exact absurd hm (Nat.not_lt_zero _)
    | succ n130 ih130 =>
      have l197 : ∀ (n : Nat) (v1 : Int32) (v2 : Int32) (o_level : Int32) (o_all : Int64) (o_code : Nat → Int32) (o_cellAt : Nat → Int32) (o_courseAt : Nat → Int32) (o_paceAt : Nat → Int32) (o_turnsAt : Nat → Int32) (o_slowAt : Nat → Int32) (o_fuelAt : Nat → Int32) (o_ringAt : Nat → Int32) (o_sums : Nat → Int64), (4 - v2.toInt).toNat < n → (0 ≤ (v1).toInt) → ((v1).toInt ≤ 99) → (0 ≤ (v2).toInt) → ((v2).toInt ≤ 4) → ((100 - v1.toInt).toNat < n130 + 1) → okP (f_X7_ends_L197 (f_X7_ends_L130 n130) n v1 v2 o_level o_noRings o_noTones o_noFuel o_pieces o_drags o_all o_noPieces o_noDrags o_sets o_ringFar o_ringTone o_currents o_warmths o_code o_cellAt o_courseAt o_paceAt o_turnsAt o_slowAt o_fuelAt o_ringAt o_pieceParts o_dragCell o_dragBy o_sums) (fun u => True) := by
        intro n
        induction n with
        | zero =>
          intro v1 v2 o_level o_all o_code o_cellAt o_courseAt o_paceAt o_turnsAt o_slowAt o_fuelAt o_ringAt o_sums hm
          exact absurd hm (Nat.not_lt_zero _)
        | succ n197 ih197 =>
          intro v1 v2 o_level o_all o_code o_cellAt o_courseAt o_paceAt o_turnsAt o_slowAt o_fuelAt o_ringAt o_sums hm197 g197_0 g197_1 g197_2 g197_3 g197_4
          show okP (f_X7_ends_L197b (f_X7_ends_L130 n130) (f_X7_ends_L197 (f_X7_ends_L130 n130) n197) v1 v2 o_level o_noRings o_noTones o_noFuel o_pieces o_drags o_all o_noPieces o_noDrags o_sets o_ringFar o_ringTone o_currents o_warmths o_code o_cellAt o_courseAt o_paceAt o_turnsAt o_slowAt o_fuelAt o_ringAt o_pieceParts o_dragCell o_dragBy o_sums) (fun u => True)
          unfold f_X7_ends_L197b
          refine ok_ite (fun c_1 => ?_) (fun c_1 => ?_)
          · skip
            have c_1 : o_drags.toInt ≤ v2.toInt := i_le.mp c_1
            unfold f_X7_ends_B253
            have ix_2 : ¬ (v1 < 0 ∨ 100 ≤ v1.toNatClampNeg) := ix (show 0 ≤ v1.toInt by omega) (show v1.toInt < (100 : Nat) by omega)
            refine ok_chk ix_2 ?_
            first | (have f_3 : (o_all + (o_sums v1.toNatClampNeg)).toInt = o_all.toInt + (o_sums v1.toNatClampNeg).toInt := j_add2 rfl rfl (by omega) (by omega)) | skip
            refine ok_nmj (fun x_4 hx_4 kx_4 => ?_)
            first | (have f_5 : (v1 + 1).toInt = v1.toInt + (1 : Int) := i_add2 rfl rfl (by omega) (by omega)) | skip
            refine ok_nmi (fun x_6 hx_6 kx_6 => ?_)
            exact ih130 x_6 o_level x_4 o_code o_cellAt o_courseAt o_paceAt o_turnsAt o_slowAt o_fuelAt o_ringAt o_sums (show (100 - x_6.toInt).toNat < n130 by omega) (show 0 ≤ x_6.toInt by omega) (show x_6.toInt ≤ 100 by omega)
          · skip
            have c_1 : ¬ o_drags.toInt ≤ v2.toInt := fun z => c_1 (i_le.mpr z)
            refine ok_ite (fun c_7 => ?_) (fun c_7 => ?_)
            · skip
              have c_7 : o_noDrags.toInt = (0 : Int) := i_eq.mp c_7
              have ix_8 : ¬ (v1 < 0 ∨ 100 ≤ v1.toNatClampNeg) := ix (show 0 ≤ v1.toInt by omega) (show v1.toInt < (100 : Nat) by omega)
              refine ok_chk ix_8 ?_
              have ix_9 : ¬ (v2 < 0 ∨ 6 ≤ v2.toNatClampNeg) := ix (show 0 ≤ v2.toInt by omega) (show v2.toInt < (6 : Nat) by omega)
              refine ok_chk ix_9 ?_
              refine ok_ite (fun c_10 => ?_) (fun c_10 => ?_)
              · skip
                have c_10 : (o_dragCell v2.toNatClampNeg).toInt = v1.toInt := i_eq.mp c_10
                refine ok_chk ix_9 ?_
                first | (have f_11 : (8 - (o_dragBy v2.toNatClampNeg)).toInt = (8 : Int) - (o_dragBy v2.toNatClampNeg).toInt := i_sub2 rfl rfl (by omega) (by omega)) | skip
                first | (have f_12 : ((8 - (o_dragBy v2.toNatClampNeg)).toInt64).toInt = (8 - (o_dragBy v2.toNatClampNeg)).toInt := j_i2l _) | skip
                unfold f_X7_ends_B245
                refine ok_nmj (fun x_13 hx_13 kx_13 => ?_)
                refine ok_chk ix_8 ?_
                first | (have f_14 : (v2 + 1).toInt = v2.toInt + (1 : Int) := i_add2 rfl rfl (by omega) (by omega)) | skip
                refine ok_nmi (fun x_15 hx_15 kx_15 => ?_)
                exact ih197 v1 x_15 o_level o_all o_code o_cellAt o_courseAt o_paceAt o_turnsAt o_slowAt o_fuelAt o_ringAt (vp_updL o_sums v1.toNatClampNeg x_13) (show (4 - x_15.toInt).toNat < n197 by omega) (show 0 ≤ (v1).toInt by omega) (show (v1).toInt ≤ 99 by omega) (show 0 ≤ (x_15).toInt by omega) (show (x_15).toInt ≤ 4 by omega) (show (100 - v1.toInt).toNat < n130 + 1 by omega)
              · skip
                have c_10 : ¬ (o_dragCell v2.toNatClampNeg).toInt = v1.toInt := fun z => c_10 (i_eq.mpr z)
                unfold f_X7_ends_B245
                first | (have f_16 : ((o_sums v1.toNatClampNeg) * 8).toInt = (o_sums v1.toNatClampNeg).toInt * (8 : Int) := j_mul2 rfl rfl (by omega) (by omega)) | skip
                refine ok_nmj (fun x_17 hx_17 kx_17 => ?_)
                refine ok_chk ix_8 ?_
                first | (have f_18 : (v2 + 1).toInt = v2.toInt + (1 : Int) := i_add2 rfl rfl (by omega) (by omega)) | skip
                refine ok_nmi (fun x_19 hx_19 kx_19 => ?_)
                exact ih197 v1 x_19 o_level o_all o_code o_cellAt o_courseAt o_paceAt o_turnsAt o_slowAt o_fuelAt o_ringAt (vp_updL o_sums v1.toNatClampNeg x_17) (show (4 - x_19.toInt).toNat < n197 by omega) (show 0 ≤ (v1).toInt by omega) (show (v1).toInt ≤ 99 by omega) (show 0 ≤ (x_19).toInt by omega) (show (x_19).toInt ≤ 4 by omega) (show (100 - v1.toInt).toNat < n130 + 1 by omega)
            · skip
              have c_7 : ¬ o_noDrags.toInt = (0 : Int) := fun z => c_7 (i_eq.mpr z)
              unfold f_X7_ends_B253
              have ix_20 : ¬ (v1 < 0 ∨ 100 ≤ v1.toNatClampNeg) := ix (show 0 ≤ v1.toInt by omega) (show v1.toInt < (100 : Nat) by omega)
              refine ok_chk ix_20 ?_
              first | (have f_21 : (o_all + (o_sums v1.toNatClampNeg)).toInt = o_all.toInt + (o_sums v1.toNatClampNeg).toInt := j_add2 rfl rfl (by omega) (by omega)) | skip
              refine ok_nmj (fun x_22 hx_22 kx_22 => ?_)
              first | (have f_23 : (v1 + 1).toInt = v1.toInt + (1 : Int) := i_add2 rfl rfl (by omega) (by omega)) | skip
              refine ok_nmi (fun x_24 hx_24 kx_24 => ?_)
              exact ih130 x_24 o_level x_22 o_code o_cellAt o_courseAt o_paceAt o_turnsAt o_slowAt o_fuelAt o_ringAt o_sums (show (100 - x_24.toInt).toNat < n130 by omega) (show 0 ≤ x_24.toInt by omega) (show x_24.toInt ≤ 100 by omega)
      have l138 : ∀ (n : Nat) (v1 : Int32) (v2 : Int32) (o_level : Int32) (o_all : Int64) (o_code : Nat → Int32) (o_cellAt : Nat → Int32) (o_courseAt : Nat → Int32) (o_paceAt : Nat → Int32) (o_turnsAt : Nat → Int32) (o_slowAt : Nat → Int32) (o_fuelAt : Nat → Int32) (o_ringAt : Nat → Int32) (o_sums : Nat → Int64), (4 - v2.toInt).toNat < n → (0 ≤ (v1).toInt) → ((v1).toInt ≤ 99) → (0 ≤ (v2).toInt) → ((v2).toInt ≤ 4) → ((100 - v1.toInt).toNat < n130 + 1) → okP (f_X7_ends_L138 (f_X7_ends_L130 n130) n v1 v2 o_level o_noRings o_noTones o_noFuel o_pieces o_drags o_all o_noPieces o_noDrags o_sets o_ringFar o_ringTone o_currents o_warmths o_code o_cellAt o_courseAt o_paceAt o_turnsAt o_slowAt o_fuelAt o_ringAt o_pieceParts o_dragCell o_dragBy o_sums) (fun u => True) := by
        intro n
        induction n with
        | zero =>
          intro v1 v2 o_level o_all o_code o_cellAt o_courseAt o_paceAt o_turnsAt o_slowAt o_fuelAt o_ringAt o_sums hm
          exact absurd hm (Nat.not_lt_zero _)
        | succ n138 ih138 =>
          intro v1 v2 o_level o_all o_code o_cellAt o_courseAt o_paceAt o_turnsAt o_slowAt o_fuelAt o_ringAt o_sums hm138 g138_0 g138_1 g138_2 g138_3 g138_4
          show okP (f_X7_ends_L138b (f_X7_ends_L130 n130) (f_X7_ends_L138 (f_X7_ends_L130 n130) n138) v1 v2 o_level o_noRings o_noTones o_noFuel o_pieces o_drags o_all o_noPieces o_noDrags o_sets o_ringFar o_ringTone o_currents o_warmths o_code o_cellAt o_courseAt o_paceAt o_turnsAt o_slowAt o_fuelAt o_ringAt o_pieceParts o_dragCell o_dragBy o_sums) (fun u => True)
          unfold f_X7_ends_L138b
          refine ok_ite (fun c_25 => ?_) (fun c_25 => ?_)
          · skip
            have c_25 : o_pieces.toInt ≤ v2.toInt := i_le.mp c_25
            exact l197 FU v1 0 o_level o_all o_code o_cellAt o_courseAt o_paceAt o_turnsAt o_slowAt o_fuelAt o_ringAt o_sums (FU_gt (show (4 - (0 : Int)).toNat < 1000000000000 by omega)) (show 0 ≤ (v1).toInt by omega) (show (v1).toInt ≤ 99 by omega) (show 0 ≤ (0 : Int) by omega) (show (0 : Int) ≤ 4 by omega) (show (100 - v1.toInt).toNat < n130 + 1 by omega)
          · skip
            have c_25 : ¬ o_pieces.toInt ≤ v2.toInt := fun z => c_25 (i_le.mpr z)
            have ix_26 : ¬ (v1 < 0 ∨ 100 ≤ v1.toNatClampNeg) := ix (show 0 ≤ v1.toInt by omega) (show v1.toInt < (100 : Nat) by omega)
            refine ok_chk ix_26 ?_
            refine ok_chk ix_26 ?_
            refine ok_ite (fun c_27 => ?_) (fun c_27 => ?_)
            · skip
              have c_27 : (o_sums v1.toNatClampNeg).toInt = (0 : Int) := j_eq.mp ((lg_cmp_eq _ _).mp c_27)
              unfold f_X7_ends_B176
              unfold f_X7_ends_B187
              first | (have f_28 : ((o_sums v1.toNatClampNeg) * 1).toInt = (o_sums v1.toNatClampNeg).toInt * (1 : Int) := j_mul2 rfl rfl (by omega) (by omega)) | skip
              refine ok_nmj (fun x_29 hx_29 kx_29 => ?_)
              refine ok_chk ix_26 ?_
              first | (have f_30 : (v2 + 1).toInt = v2.toInt + (1 : Int) := i_add2 rfl rfl (by omega) (by omega)) | skip
              refine ok_nmi (fun x_31 hx_31 kx_31 => ?_)
              exact ih138 v1 x_31 o_level o_all o_code o_cellAt o_courseAt o_paceAt o_turnsAt o_slowAt o_fuelAt o_ringAt (vp_updL o_sums v1.toNatClampNeg x_29) (show (4 - x_31.toInt).toNat < n138 by omega) (show 0 ≤ (v1).toInt by omega) (show (v1).toInt ≤ 99 by omega) (show 0 ≤ (x_31).toInt by omega) (show (x_31).toInt ≤ 4 by omega) (show (100 - v1.toInt).toNat < n130 + 1 by omega)
            · skip
              have c_27 : ¬ (o_sums v1.toNatClampNeg).toInt = (0 : Int) := fun z => c_27 ((lg_cmp_eq _ _).mpr (j_eq.mpr z))
              refine ok_ite (fun c_32 => ?_) (fun c_32 => ?_)
              · skip
                unfold f_X7_ends_B176
                unfold f_X7_ends_B187
                first | (have f_33 : ((o_sums v1.toNatClampNeg) * 1).toInt = (o_sums v1.toNatClampNeg).toInt * (1 : Int) := j_mul2 rfl rfl (by omega) (by omega)) | skip
                refine ok_nmj (fun x_34 hx_34 kx_34 => ?_)
                refine ok_chk ix_26 ?_
                first | (have f_35 : (v2 + 1).toInt = v2.toInt + (1 : Int) := i_add2 rfl rfl (by omega) (by omega)) | skip
                refine ok_nmi (fun x_36 hx_36 kx_36 => ?_)
                exact ih138 v1 x_36 o_level o_all o_code o_cellAt o_courseAt o_paceAt o_turnsAt o_slowAt o_fuelAt o_ringAt (vp_updL o_sums v1.toNatClampNeg x_34) (show (4 - x_36.toInt).toNat < n138 by omega) (show 0 ≤ (v1).toInt by omega) (show (v1).toInt ≤ 99 by omega) (show 0 ≤ (x_36).toInt by omega) (show (x_36).toInt ≤ 4 by omega) (show (100 - v1.toInt).toNat < n130 + 1 by omega)
              · skip
                refine ok_bd1 (s_X7_fit v2 v1 o_sets o_currents o_warmths o_pieceParts (show 0 ≤ (v2).toInt by omega) (show (v2).toInt ≤ 3 by omega) (show 0 ≤ (v1).toInt by omega) (show (v1).toInt ≤ 99 by omega)) (fun r_37 q_38 => ?_)
                first | (have f_39 : (r_37.toInt64).toInt = r_37.toInt := j_i2l _) | skip
                unfold f_X7_ends_B187
                refine ok_nmj (fun x_40 hx_40 kx_40 => ?_)
                refine ok_chk ix_26 ?_
                first | (have f_41 : (v2 + 1).toInt = v2.toInt + (1 : Int) := i_add2 rfl rfl (by omega) (by omega)) | skip
                refine ok_nmi (fun x_42 hx_42 kx_42 => ?_)
                exact ih138 v1 x_42 o_level o_all o_code o_cellAt o_courseAt o_paceAt o_turnsAt o_slowAt o_fuelAt o_ringAt (vp_updL o_sums v1.toNatClampNeg x_40) (show (4 - x_42.toInt).toNat < n138 by omega) (show 0 ≤ (v1).toInt by omega) (show (v1).toInt ≤ 99 by omega) (show 0 ≤ (x_42).toInt by omega) (show (x_42).toInt ≤ 4 by omega) (show (100 - v1.toInt).toNat < n130 + 1 by omega)
      intro v1 o_level o_all o_code o_cellAt o_courseAt o_paceAt o_turnsAt o_slowAt o_fuelAt o_ringAt o_sums hm130 g130_0 g130_1
      show okP (f_X7_ends_L130b (f_X7_ends_L130 n130) v1 o_level o_noRings o_noTones o_noFuel o_pieces o_drags o_all o_noPieces o_noDrags o_sets o_ringFar o_ringTone o_currents o_warmths o_code o_cellAt o_courseAt o_paceAt o_turnsAt o_slowAt o_fuelAt o_ringAt o_pieceParts o_dragCell o_dragBy o_sums) (fun u => True)
      unfold f_X7_ends_L130b
      refine ok_ite (fun c_43 => ?_) (fun c_43 => ?_)
      · skip
        have c_43 : (100 : Int) ≤ v1.toInt := i_le.mp c_43
        exact ok_some trivial
      · skip
        have c_43 : ¬ (100 : Int) ≤ v1.toInt := fun z => c_43 (i_le.mpr z)
        exact l138 FU v1 0 o_level o_all o_code o_cellAt o_courseAt o_paceAt o_turnsAt o_slowAt o_fuelAt o_ringAt o_sums (FU_gt (show (4 - (0 : Int)).toNat < 1000000000000 by omega)) (show 0 ≤ (v1).toInt by omega) (show (v1).toInt ≤ 99 by omega) (show 0 ≤ (0 : Int) by omega) (show (0 : Int) ≤ 4 by omega) (show (100 - v1.toInt).toNat < n130 + 1 by omega)
  have l25 : ∀ (n : Nat) (o_level : Int32) (o_all : Int64) (o_code : Nat → Int32) (o_cellAt : Nat → Int32) (o_courseAt : Nat → Int32) (o_paceAt : Nat → Int32) (o_turnsAt : Nat → Int32) (o_slowAt : Nat → Int32) (o_fuelAt : Nat → Int32) (o_ringAt : Nat → Int32) (o_sums : Nat → Int64), wm o_level o_code < n → (WI o_level o_sets o_code o_cellAt) → okP (f_X7_ends_L25 n o_level o_noRings o_noTones o_noFuel o_pieces o_drags o_all o_noPieces o_noDrags o_sets o_ringFar o_ringTone o_currents o_warmths o_code o_cellAt o_courseAt o_paceAt o_turnsAt o_slowAt o_fuelAt o_ringAt o_pieceParts o_dragCell o_dragBy o_sums) (fun u => True) := by
    intro n
    induction n with
    | zero =>
      intro o_level o_all o_code o_cellAt o_courseAt o_paceAt o_turnsAt o_slowAt o_fuelAt o_ringAt o_sums hm
      exact absurd hm (Nat.not_lt_zero _)
    | succ n25 ih25 =>
      have l66 : ∀ (n : Nat) (v1 : Int32) (v2 : Int32) (v3 : Int32) (o_level : Int32) (o_all : Int64) (o_code : Nat → Int32) (o_cellAt : Nat → Int32) (o_courseAt : Nat → Int32) (o_paceAt : Nat → Int32) (o_turnsAt : Nat → Int32) (o_slowAt : Nat → Int32) (o_fuelAt : Nat → Int32) (o_ringAt : Nat → Int32) (o_sums : Nat → Int64), (4 - v3.toInt).toNat < n → (WI o_level o_sets o_code o_cellAt) → (o_level.toInt = (o_sets 2).toInt) → (wm o_level o_code < n25) → (1 ≤ v3.toInt) → (v3.toInt ≤ 4) → (v1.toInt = (o_sets 2).toInt) → okP (f_X7_ends_L66 (f_X7_ends_L25 n25) n v1 v2 v3 o_level o_noRings o_noTones o_noFuel o_pieces o_drags o_all o_noPieces o_noDrags o_sets o_ringFar o_ringTone o_currents o_warmths o_code o_cellAt o_courseAt o_paceAt o_turnsAt o_slowAt o_fuelAt o_ringAt o_pieceParts o_dragCell o_dragBy o_sums) (fun u => True) := by
        intro n
        induction n with
        | zero =>
          intro v1 v2 v3 o_level o_all o_code o_cellAt o_courseAt o_paceAt o_turnsAt o_slowAt o_fuelAt o_ringAt o_sums hm
          exact absurd hm (Nat.not_lt_zero _)
        | succ n66 ih66 =>
          intro v1 v2 v3 o_level o_all o_code o_cellAt o_courseAt o_paceAt o_turnsAt o_slowAt o_fuelAt o_ringAt o_sums hm66 g66_0 g66_1 g66_2 g66_3 g66_4 g66_5
          show okP (f_X7_ends_L66b (f_X7_ends_L25 n25) (f_X7_ends_L66 (f_X7_ends_L25 n25) n66) v1 v2 v3 o_level o_noRings o_noTones o_noFuel o_pieces o_drags o_all o_noPieces o_noDrags o_sets o_ringFar o_ringTone o_currents o_warmths o_code o_cellAt o_courseAt o_paceAt o_turnsAt o_slowAt o_fuelAt o_ringAt o_pieceParts o_dragCell o_dragBy o_sums) (fun u => True)
          unfold f_X7_ends_L66b
          refine ok_ite (fun c_44 => ?_) (fun c_44 => ?_)
          · skip
            have c_44 : (o_sets 6).toInt < v3.toInt := i_lt.mp c_44
            exact ih25 o_level o_all o_code o_cellAt o_courseAt o_paceAt o_turnsAt o_slowAt o_fuelAt o_ringAt o_sums (show wm o_level o_code < n25 by omega) (by first | with_reducible assumption | with_reducible rfl | omega)
          · skip
            have c_44 : ¬ (o_sets 6).toInt < v3.toInt := fun z => c_44 (i_lt.mpr z)
            have ix_45 : ¬ (v1 < 0 ∨ 7 ≤ v1.toNatClampNeg) := ix (show 0 ≤ v1.toInt by omega) (show v1.toInt < (7 : Nat) by omega)
            refine ok_chk ix_45 ?_
            first | (obtain ⟨ld_46a, ld_46b⟩ := WI_cell (cellAt := o_cellAt) (by assumption) (by omega) v1.toNatClampNeg (by rw [i_cl]; omega)) | skip
            first | (have f_47 : (v1 - 1).toInt = v1.toInt - (1 : Int) := i_sub2 rfl rfl (by omega) (by omega)) | skip
            have ix_48 : ¬ ((v1 - 1) < 0 ∨ 7 ≤ (v1 - 1).toNatClampNeg) := ix (show 0 ≤ (v1 - 1).toInt by omega) (show (v1 - 1).toInt < (7 : Nat) by omega)
            refine ok_chk ix_48 ?_
            refine ok_bd1 (s_X7_gone (o_cellAt v1.toNatClampNeg) (o_courseAt (v1 - 1).toNatClampNeg) v3) (fun r_49 q_50 => ?_)
            replace q_50 : r_49.toInt = -4 ∨ (0 ≤ r_49.toInt ∧ r_49.toInt ≤ 99) := q_50
            refine ok_ite (fun c_51 => ?_) (fun c_51 => ?_)
            · skip
              have c_51 : r_49.toInt < (0 : Int) := i_lt.mp c_51
              unfold f_X7_ends_B114
              first | (have f_52 : (v3 + 1).toInt = v3.toInt + (1 : Int) := i_add2 rfl rfl (by omega) (by omega)) | skip
              refine ok_nmi (fun x_53 hx_53 kx_53 => ?_)
              exact ih66 v1 v2 x_53 o_level o_all o_code o_cellAt o_courseAt o_paceAt o_turnsAt o_slowAt o_fuelAt o_ringAt o_sums (show (4 - x_53.toInt).toNat < n66 by omega) (by first | with_reducible assumption | with_reducible rfl | omega) (show o_level.toInt = (o_sets 2).toInt by omega) (show wm o_level o_code < n25 by omega) (show 1 ≤ x_53.toInt by omega) (show x_53.toInt ≤ 4 by omega) (show v1.toInt = (o_sets 2).toInt by omega)
            · skip
              have c_51 : ¬ r_49.toInt < (0 : Int) := fun z => c_51 (i_lt.mpr z)
              have ix_54 : ¬ (r_49 < 0 ∨ 100 ≤ r_49.toNatClampNeg) := ix (show 0 ≤ r_49.toInt by omega) (show r_49.toInt < (100 : Nat) by omega)
              refine ok_chk ix_54 ?_
              first | (have f_55 : (v2.toInt64).toInt = v2.toInt := j_i2l _) | skip
              first | (have f_56 : ((o_sums r_49.toNatClampNeg) + v2.toInt64).toInt = (o_sums r_49.toNatClampNeg).toInt + (v2.toInt64).toInt := j_add2 rfl rfl (by omega) (by omega)) | skip
              refine ok_nmj (fun x_57 hx_57 kx_57 => ?_)
              refine ok_chk ix_54 ?_
              unfold f_X7_ends_B114
              first | (have f_58 : (v3 + 1).toInt = v3.toInt + (1 : Int) := i_add2 rfl rfl (by omega) (by omega)) | skip
              refine ok_nmi (fun x_59 hx_59 kx_59 => ?_)
              exact ih66 v1 v2 x_59 o_level o_all o_code o_cellAt o_courseAt o_paceAt o_turnsAt o_slowAt o_fuelAt o_ringAt (vp_updL o_sums r_49.toNatClampNeg x_57) (show (4 - x_59.toInt).toNat < n66 by omega) (by first | with_reducible assumption | with_reducible rfl | omega) (show o_level.toInt = (o_sets 2).toInt by omega) (show wm o_level o_code < n25 by omega) (show 1 ≤ x_59.toInt by omega) (show x_59.toInt ≤ 4 by omega) (show v1.toInt = (o_sets 2).toInt by omega)
      intro o_level o_all o_code o_cellAt o_courseAt o_paceAt o_turnsAt o_slowAt o_fuelAt o_ringAt o_sums hm25 g25_0
      show okP (f_X7_ends_L25b (f_X7_ends_L25 n25) o_level o_noRings o_noTones o_noFuel o_pieces o_drags o_all o_noPieces o_noDrags o_sets o_ringFar o_ringTone o_currents o_warmths o_code o_cellAt o_courseAt o_paceAt o_turnsAt o_slowAt o_fuelAt o_ringAt o_pieceParts o_dragCell o_dragBy o_sums) (fun u => True)
      unfold f_X7_ends_L25b
      refine ok_bd10 (s_X7_goesOn o_level o_noRings o_noTones o_noFuel o_sets o_ringFar o_ringTone o_code o_cellAt o_courseAt o_paceAt o_turnsAt o_slowAt o_fuelAt o_ringAt (by first | with_reducible assumption | with_reducible rfl | omega) (by first | with_reducible assumption | with_reducible rfl | omega)) (fun r_60 w_61 w_62 w_63 w_64 w_65 w_66 w_67 w_68 w_69 q_70 => ?_)
      obtain ⟨q_70_0, q_70_1, q_70_2⟩ : (r_60.toInt = 0 ∨ (r_60.toInt = 1 ∧ wm w_61 w_62 < wm o_level o_code)) ∧ (WI w_61 o_sets w_62 w_63) ∧ (r_60.toInt = 1 → w_61.toInt = (o_sets 2).toInt) := q_70
      refine ok_ite (fun c_71 => ?_) (fun c_71 => ?_)
      · skip
        have c_71 : r_60.toInt = (0 : Int) := i_eq.mp c_71
        exact l130 FU 0 w_61 0 w_62 w_63 w_64 w_65 w_66 w_67 w_68 w_69 o_sums (FU_gt (show (100 - (0 : Int)).toNat < 1000000000000 by omega)) (show 0 ≤ (0 : Int) by omega) (show (0 : Int) ≤ 100 by omega)
      · skip
        have c_71 : ¬ r_60.toInt = (0 : Int) := fun z => c_71 (i_eq.mpr z)
        refine ok_nmi (fun x_72 hx_72 kx_72 => ?_)
        refine ok_bd1 (s_X7_heavy o_sets w_66 w_67 w_69 (by first | with_reducible assumption | with_reducible rfl | omega)) (fun r_73 q_74 => ?_)
        have ix_75 : ¬ (x_72 < 0 ∨ 7 ≤ x_72.toNatClampNeg) := ix (show 0 ≤ x_72.toInt by omega) (show x_72.toInt < (7 : Nat) by omega)
        refine ok_chk ix_75 ?_
        first | (obtain ⟨ld_76a, ld_76b⟩ := WI_cell (cellAt := w_63) (by assumption) (by omega) x_72.toNatClampNeg (by rw [i_cl]; omega)) | skip
        refine ok_nmi (fun x_77 hx_77 kx_77 => ?_)
        have ix_78 : ¬ (x_77 < 0 ∨ 100 ≤ x_77.toNatClampNeg) := ix (show 0 ≤ x_77.toInt by omega) (show x_77.toInt < (100 : Nat) by omega)
        refine ok_chk ix_78 ?_
        first | (have f_79 : (r_73.toInt64).toInt = r_73.toInt := j_i2l _) | skip
        first | (have f_80 : (2 * r_73.toInt64).toInt = (2 : Int) * (r_73.toInt64).toInt := j_mul2 rfl rfl (by omega) (by omega)) | skip
        first | (have f_81 : ((o_sums x_77.toNatClampNeg) + (2 * r_73.toInt64)).toInt = (o_sums x_77.toNatClampNeg).toInt + (2 * r_73.toInt64).toInt := j_add2 rfl rfl (by omega) (by omega)) | skip
        refine ok_nmj (fun x_82 hx_82 kx_82 => ?_)
        refine ok_chk ix_78 ?_
        exact l66 FU x_72 r_73 1 w_61 o_all w_62 w_63 w_64 w_65 w_66 w_67 w_68 w_69 (vp_updL o_sums x_77.toNatClampNeg x_82) (FU_gt (show (4 - (1 : Int)).toNat < 1000000000000 by omega)) (by first | with_reducible assumption | with_reducible rfl | omega) (show w_61.toInt = (o_sets 2).toInt by omega) (show wm w_61 w_62 < n25 by omega) (show 1 ≤ (1 : Int) by omega) (show (1 : Int) ≤ 4 by omega) (show x_72.toInt = (o_sets 2).toInt by omega)
  have l2 : ∀ (n : Nat) (v1 : Int32) (o_level : Int32) (o_all : Int64) (o_code : Nat → Int32) (o_cellAt : Nat → Int32) (o_courseAt : Nat → Int32) (o_paceAt : Nat → Int32) (o_turnsAt : Nat → Int32) (o_slowAt : Nat → Int32) (o_fuelAt : Nat → Int32) (o_ringAt : Nat → Int32) (o_sums : Nat → Int64), (100 - v1.toInt).toNat < n → (0 ≤ v1.toInt) → (v1.toInt ≤ 100) → okP (f_X7_ends_L2 n v1 o_level o_noRings o_noTones o_noFuel o_pieces o_drags o_all o_noPieces o_noDrags o_sets o_ringFar o_ringTone o_currents o_warmths o_code o_cellAt o_courseAt o_paceAt o_turnsAt o_slowAt o_fuelAt o_ringAt o_pieceParts o_dragCell o_dragBy o_sums) (fun u => True) := by
    intro n
    induction n with
    | zero =>
      intro v1 o_level o_all o_code o_cellAt o_courseAt o_paceAt o_turnsAt o_slowAt o_fuelAt o_ringAt o_sums hm
      exact absurd hm (Nat.not_lt_zero _)
    | succ n2 ih2 =>
      intro v1 o_level o_all o_code o_cellAt o_courseAt o_paceAt o_turnsAt o_slowAt o_fuelAt o_ringAt o_sums hm2 g2_0 g2_1
      show okP (f_X7_ends_L2b (f_X7_ends_L2 n2) v1 o_level o_noRings o_noTones o_noFuel o_pieces o_drags o_all o_noPieces o_noDrags o_sets o_ringFar o_ringTone o_currents o_warmths o_code o_cellAt o_courseAt o_paceAt o_turnsAt o_slowAt o_fuelAt o_ringAt o_pieceParts o_dragCell o_dragBy o_sums) (fun u => True)
      unfold f_X7_ends_L2b
      refine ok_ite (fun c_83 => ?_) (fun c_83 => ?_)
      · skip
        have c_83 : (100 : Int) ≤ v1.toInt := i_le.mp c_83
        refine ok_bd7 (s_X7_begins o_level o_sets o_code o_cellAt o_turnsAt o_slowAt o_fuelAt o_ringAt (by first | with_reducible assumption | with_reducible rfl | omega)) (fun w_84 w_85 w_86 w_87 w_88 w_89 w_90 q_91 => ?_)
        replace q_91 : WI w_84 o_sets w_85 w_86 := q_91
        exact l25 FU w_84 o_all w_85 w_86 o_courseAt o_paceAt w_87 w_88 w_89 w_90 o_sums (FU_gt (wm_lt (by assumption) (by omega))) (by first | with_reducible assumption | with_reducible rfl | omega)
      · skip
        have c_83 : ¬ (100 : Int) ≤ v1.toInt := fun z => c_83 (i_le.mpr z)
        have ix_92 : ¬ (v1 < 0 ∨ 100 ≤ v1.toNatClampNeg) := ix (show 0 ≤ v1.toInt by omega) (show v1.toInt < (100 : Nat) by omega)
        refine ok_chk ix_92 ?_
        first | (have f_93 : (v1 + 1).toInt = v1.toInt + (1 : Int) := i_add2 rfl rfl (by omega) (by omega)) | skip
        refine ok_nmi (fun x_94 hx_94 kx_94 => ?_)
        exact ih2 x_94 o_level o_all o_code o_cellAt o_courseAt o_paceAt o_turnsAt o_slowAt o_fuelAt o_ringAt (vp_updL o_sums v1.toNatClampNeg 0) (show (100 - x_94.toInt).toNat < n2 by omega) (show 0 ≤ x_94.toInt by omega) (show x_94.toInt ≤ 100 by omega)
  unfold f_X7_ends
  exact l2 FU 0 o_level o_all o_code o_cellAt o_courseAt o_paceAt o_turnsAt o_slowAt o_fuelAt o_ringAt o_sums (FU_gt (show (100 - (0 : Int)).toNat < 1000000000000 by omega)) (show 0 ≤ (0 : Int) by omega) (show (0 : Int) ≤ 100 by omega)
set_option maxRecDepth 100000 in
set_option maxHeartbeats 4000000 in
theorem s_X7_endsAsTold (o_level : Int32) (o_noRings : Int32) (o_noTones : Int32) (o_noFuel : Int32) (o_pieces : Int32) (o_drags : Int32) (o_all : Int64) (o_noPieces : Int32) (o_noDrags : Int32) (o_sets : Nat → Int32) (o_ringFar : Nat → Int32) (o_ringTone : Nat → Int32) (o_currents : Nat → Int32) (o_warmths : Nat → Int32) (o_code : Nat → Int32) (o_cellAt : Nat → Int32) (o_courseAt : Nat → Int32) (o_paceAt : Nat → Int32) (o_turnsAt : Nat → Int32) (o_slowAt : Nat → Int32) (o_fuelAt : Nat → Int32) (o_ringAt : Nat → Int32) (o_pieceParts : Nat → Int32) (o_dragCell : Nat → Int32) (o_dragBy : Nat → Int32) (o_sums : Nat → Int64) (h0 : SetOK o_sets) (h1 : 0 ≤ (o_pieces).toInt) (h2 : (o_pieces).toInt ≤ 4) (h3 : 0 ≤ (o_drags).toInt) (h4 : (o_drags).toInt ≤ 4) : okP (f_X7_endsAsTold o_level o_noRings o_noTones o_noFuel o_pieces o_drags o_all o_noPieces o_noDrags o_sets o_ringFar o_ringTone o_currents o_warmths o_code o_cellAt o_courseAt o_paceAt o_turnsAt o_slowAt o_fuelAt o_ringAt o_pieceParts o_dragCell o_dragBy o_sums) (fun u => True) := by
  unfold f_X7_endsAsTold
  refine ok_bd3 (s_X7_asTold o_noRings o_noTones o_noFuel) (fun w_1 w_2 w_3 q_4 => ?_)
  refine ok_bd11 (s_X7_ends o_level w_1 w_2 w_3 o_pieces o_drags o_all 0 0 o_sets o_ringFar o_ringTone o_currents o_warmths o_code o_cellAt o_courseAt o_paceAt o_turnsAt o_slowAt o_fuelAt o_ringAt o_pieceParts o_dragCell o_dragBy o_sums (by first | with_reducible assumption | with_reducible rfl | omega) (show 0 ≤ (o_pieces).toInt by omega) (show (o_pieces).toInt ≤ 4 by omega) (show 0 ≤ (o_drags).toInt by omega) (show (o_drags).toInt ≤ 4 by omega)) (fun w_5 w_6 w_7 w_8 w_9 w_10 w_11 w_12 w_13 w_14 w_15 q_16 => ?_)
  exact ok_some trivial
set_option maxRecDepth 100000 in
set_option maxHeartbeats 4000000 in
theorem s_X7_odds (x1 : Int32) (x2 : Int32) (o_level : Int32) (o_noRings : Int32) (o_noTones : Int32) (o_noFuel : Int32) (o_pieces : Int32) (o_drags : Int32) (o_all : Int64) (o_noPieces : Int32) (o_noDrags : Int32) (o_sets : Nat → Int32) (o_ringFar : Nat → Int32) (o_ringTone : Nat → Int32) (o_currents : Nat → Int32) (o_warmths : Nat → Int32) (o_code : Nat → Int32) (o_cellAt : Nat → Int32) (o_courseAt : Nat → Int32) (o_paceAt : Nat → Int32) (o_turnsAt : Nat → Int32) (o_slowAt : Nat → Int32) (o_fuelAt : Nat → Int32) (o_ringAt : Nat → Int32) (o_pieceParts : Nat → Int32) (o_dragCell : Nat → Int32) (o_dragBy : Nat → Int32) (o_sums : Nat → Int64) (h0 : SetOK o_sets) (h1 : 0 ≤ (o_pieces).toInt) (h2 : (o_pieces).toInt ≤ 4) (h3 : 0 ≤ (o_drags).toInt) (h4 : (o_drags).toInt ≤ 4) : okP (f_X7_odds x1 x2 o_level o_noRings o_noTones o_noFuel o_pieces o_drags o_all o_noPieces o_noDrags o_sets o_ringFar o_ringTone o_currents o_warmths o_code o_cellAt o_courseAt o_paceAt o_turnsAt o_slowAt o_fuelAt o_ringAt o_pieceParts o_dragCell o_dragBy o_sums) (fun u => True) := by
  unfold f_X7_odds
  refine ok_bd1 (s_X7_isCell x1) (fun r_1 q_2 => ?_)
  replace q_2 : (r_1.toInt = 1 ∧ 0 ≤ x1.toInt ∧ x1.toInt < 100) ∨ (r_1.toInt = 0 ∧ (x1.toInt < 0 ∨ 100 ≤ x1.toInt)) := q_2
  refine ok_ite (fun c_3 => ?_) (fun c_3 => ?_)
  · skip
    have c_3 : r_1.toInt = (0 : Int) := i_eq.mp c_3
    replace q_2 : (x1.toInt < 0 ∨ 100 ≤ x1.toInt) := by omega
    exact ok_some trivial
  · skip
    have c_3 : ¬ r_1.toInt = (0 : Int) := fun z => c_3 (i_eq.mpr z)
    replace q_2 : 0 ≤ x1.toInt ∧ x1.toInt < 100 := by omega
    first | (have f_4 : (x2.toInt64).toInt = x2.toInt := j_i2l _) | skip
    refine ok_bd1 (s_X7_in x2.toInt64 0 1) (fun r_5 q_6 => ?_)
    replace q_6 : (r_5.toInt = 1 ∧ (0 : Int) ≤ x2.toInt64.toInt ∧ x2.toInt64.toInt ≤ (1 : Int)) ∨ (r_5.toInt = 0 ∧ (x2.toInt64.toInt < (0 : Int) ∨ (1 : Int) < x2.toInt64.toInt)) := q_6
    refine ok_ite (fun c_7 => ?_) (fun c_7 => ?_)
    · skip
      have c_7 : r_5.toInt = (0 : Int) := i_eq.mp c_7
      replace q_6 : (x2.toInt64.toInt < (0 : Int) ∨ (1 : Int) < x2.toInt64.toInt) := by omega
      exact ok_some trivial
    · skip
      have c_7 : ¬ r_5.toInt = (0 : Int) := fun z => c_7 (i_eq.mpr z)
      replace q_6 : (0 : Int) ≤ x2.toInt64.toInt ∧ x2.toInt64.toInt ≤ (1 : Int) := by omega
      refine ok_bd16 (s_X7_endsAsTold o_level o_noRings o_noTones o_noFuel o_pieces o_drags o_all o_noPieces o_noDrags o_sets o_ringFar o_ringTone o_currents o_warmths o_code o_cellAt o_courseAt o_paceAt o_turnsAt o_slowAt o_fuelAt o_ringAt o_pieceParts o_dragCell o_dragBy o_sums (by first | with_reducible assumption | with_reducible rfl | omega) (show 0 ≤ (o_pieces).toInt by omega) (show (o_pieces).toInt ≤ 4 by omega) (show 0 ≤ (o_drags).toInt by omega) (show (o_drags).toInt ≤ 4 by omega)) (fun w_8 w_9 w_10 w_11 w_12 w_13 w_14 w_15 w_16 w_17 w_18 w_19 w_20 w_21 w_22 w_23 q_24 => ?_)
      refine ok_ite (fun c_25 => ?_) (fun c_25 => ?_)
      · skip
        have c_25 : w_12.toInt = (0 : Int) := j_eq.mp ((lg_cmp_eq _ _).mp c_25)
        exact ok_some trivial
      · skip
        have c_25 : ¬ w_12.toInt = (0 : Int) := fun z => c_25 ((lg_cmp_eq _ _).mpr (j_eq.mpr z))
        have ix_26 : ¬ (x1 < 0 ∨ 100 ≤ x1.toNatClampNeg) := ix (show 0 ≤ x1.toInt by omega) (show x1.toInt < (100 : Nat) by omega)
        refine ok_chk ix_26 ?_
        refine ok_bd1 (s_X7_lowest (w_23 x1.toNatClampNeg) w_12 x2 (show ¬ w_12.toInt = 0 by omega)) (fun r_27 q_28 => ?_)
        exact ok_some trivial
set_option maxRecDepth 100000 in
set_option maxHeartbeats 4000000 in
theorem s_X7_where (x1 : Int32) (o_level : Int32) (o_noRings : Int32) (o_noTones : Int32) (o_noFuel : Int32) (o_pieces : Int32) (o_drags : Int32) (o_all : Int64) (o_noPieces : Int32) (o_noDrags : Int32) (o_sets : Nat → Int32) (o_ringFar : Nat → Int32) (o_ringTone : Nat → Int32) (o_currents : Nat → Int32) (o_warmths : Nat → Int32) (o_code : Nat → Int32) (o_cellAt : Nat → Int32) (o_courseAt : Nat → Int32) (o_paceAt : Nat → Int32) (o_turnsAt : Nat → Int32) (o_slowAt : Nat → Int32) (o_fuelAt : Nat → Int32) (o_ringAt : Nat → Int32) (o_pieceParts : Nat → Int32) (o_dragCell : Nat → Int32) (o_dragBy : Nat → Int32) (o_sums : Nat → Int64) (h0 : SetOK o_sets) (h1 : 0 ≤ (o_pieces).toInt) (h2 : (o_pieces).toInt ≤ 4) (h3 : 0 ≤ (o_drags).toInt) (h4 : (o_drags).toInt ≤ 4) : okP (f_X7_where x1 o_level o_noRings o_noTones o_noFuel o_pieces o_drags o_all o_noPieces o_noDrags o_sets o_ringFar o_ringTone o_currents o_warmths o_code o_cellAt o_courseAt o_paceAt o_turnsAt o_slowAt o_fuelAt o_ringAt o_pieceParts o_dragCell o_dragBy o_sums) (fun u => True) := by
  have l22 : ∀ (n : Nat) (v1 : Int32) (v2 : Int32) (v3 : Int32) (o_level : Int32) (o_noRings : Int32) (o_noTones : Int32) (o_noFuel : Int32) (o_all : Int64) (o_noPieces : Int32) (o_noDrags : Int32) (o_code : Nat → Int32) (o_cellAt : Nat → Int32) (o_courseAt : Nat → Int32) (o_paceAt : Nat → Int32) (o_turnsAt : Nat → Int32) (o_slowAt : Nat → Int32) (o_fuelAt : Nat → Int32) (o_ringAt : Nat → Int32) (o_sums : Nat → Int64), (10 - v3.toInt).toNat < n → (0 ≤ (v1).toInt) → ((v1).toInt ≤ 9) → (0 ≤ (v3).toInt) → ((v3).toInt ≤ 10) → okP (f_X7_where_L22 n v1 v2 v3 o_level o_noRings o_noTones o_noFuel o_pieces o_drags o_all o_noPieces o_noDrags o_sets o_ringFar o_ringTone o_currents o_warmths o_code o_cellAt o_courseAt o_paceAt o_turnsAt o_slowAt o_fuelAt o_ringAt o_pieceParts o_dragCell o_dragBy o_sums) (fun u => True) := by
    intro n
    induction n with
    | zero =>
      intro v1 v2 v3 o_level o_noRings o_noTones o_noFuel o_all o_noPieces o_noDrags o_code o_cellAt o_courseAt o_paceAt o_turnsAt o_slowAt o_fuelAt o_ringAt o_sums hm
      exact absurd hm (Nat.not_lt_zero _)
    | succ n22 ih22 =>
      intro v1 v2 v3 o_level o_noRings o_noTones o_noFuel o_all o_noPieces o_noDrags o_code o_cellAt o_courseAt o_paceAt o_turnsAt o_slowAt o_fuelAt o_ringAt o_sums hm22 g22_0 g22_1 g22_2 g22_3
      show okP (f_X7_where_L22b (f_X7_where_L22 n22) v1 v2 v3 o_level o_noRings o_noTones o_noFuel o_pieces o_drags o_all o_noPieces o_noDrags o_sets o_ringFar o_ringTone o_currents o_warmths o_code o_cellAt o_courseAt o_paceAt o_turnsAt o_slowAt o_fuelAt o_ringAt o_pieceParts o_dragCell o_dragBy o_sums) (fun u => True)
      unfold f_X7_where_L22b
      refine ok_ite (fun c_1 => ?_) (fun c_1 => ?_)
      · skip
        have c_1 : (10 : Int) ≤ v3.toInt := i_le.mp c_1
        exact ok_some trivial
      · skip
        have c_1 : ¬ (10 : Int) ≤ v3.toInt := fun z => c_1 (i_le.mpr z)
        first | (have f_2 : (10 * v1).toInt = (10 : Int) * v1.toInt := i_mul2 rfl rfl (by omega) (by omega)) | skip
        first | (have f_3 : ((10 * v1) + v3).toInt = (10 * v1).toInt + v3.toInt := i_add2 rfl rfl (by omega) (by omega)) | skip
        have ix_4 : ¬ (((10 * v1) + v3) < 0 ∨ 100 ≤ ((10 * v1) + v3).toNatClampNeg) := ix (show 0 ≤ ((10 * v1) + v3).toInt by omega) (show ((10 * v1) + v3).toInt < (100 : Nat) by omega)
        refine ok_chk ix_4 ?_
        refine ok_ite (fun c_5 => ?_) (fun c_5 => ?_)
        · skip
          have c_5 : (o_sums ((10 * v1) + v3).toNatClampNeg).toInt ≤ (0 : Int) := j_le.mp ((lg_cmp_le _ _).mp c_5)
          unfold f_X7_where_B52
          first | (have o_6 : (v2 ||| 0).toInt = 0 ∨ (v2 ||| 0).toInt = 1 := or01 (show v2.toInt = 0 ∨ v2.toInt = 1 by omega) (show (0 : Int) = 0 ∨ (0 : Int) = 1 by omega)) | skip
          refine ok_nmi (fun x_7 hx_7 kx_7 => ?_)
          first | (have f_8 : (v3 + 1).toInt = v3.toInt + (1 : Int) := i_add2 rfl rfl (by omega) (by omega)) | skip
          refine ok_nmi (fun x_9 hx_9 kx_9 => ?_)
          exact ih22 v1 x_7 x_9 o_level o_noRings o_noTones o_noFuel o_all o_noPieces o_noDrags o_code o_cellAt o_courseAt o_paceAt o_turnsAt o_slowAt o_fuelAt o_ringAt o_sums (show (10 - x_9.toInt).toNat < n22 by omega) (show 0 ≤ (v1).toInt by omega) (show (v1).toInt ≤ 9 by omega) (show 0 ≤ (x_9).toInt by omega) (show (x_9).toInt ≤ 10 by omega)
        · skip
          have c_5 : ¬ (o_sums ((10 * v1) + v3).toNatClampNeg).toInt ≤ (0 : Int) := fun z => c_5 ((lg_cmp_le _ _).mpr (j_le.mpr z))
          unfold f_X7_where_B52
          first | (have o_10 : (v2 ||| (1 <<< (v3 &&& 31))).toInt = 0 ∨ (v2 ||| (1 <<< (v3 &&& 31))).toInt = 1 := or01 (show v2.toInt = 0 ∨ v2.toInt = 1 by omega) (show (1 <<< (v3 &&& 31)).toInt = 0 ∨ (1 <<< (v3 &&& 31)).toInt = 1 by omega)) | skip
          refine ok_nmx (fun x_11 hx_11 => ?_)
          first | (have f_12 : (v3 + 1).toInt = v3.toInt + (1 : Int) := i_add2 rfl rfl (by omega) (by omega)) | skip
          refine ok_nmi (fun x_13 hx_13 kx_13 => ?_)
          exact ih22 v1 x_11 x_13 o_level o_noRings o_noTones o_noFuel o_all o_noPieces o_noDrags o_code o_cellAt o_courseAt o_paceAt o_turnsAt o_slowAt o_fuelAt o_ringAt o_sums (show (10 - x_13.toInt).toNat < n22 by omega) (show 0 ≤ (v1).toInt by omega) (show (v1).toInt ≤ 9 by omega) (show 0 ≤ (x_13).toInt by omega) (show (x_13).toInt ≤ 10 by omega)
  unfold f_X7_where
  first | (have f_14 : (x1.toInt64).toInt = x1.toInt := j_i2l _) | skip
  refine ok_bd1 (s_X7_in x1.toInt64 0 9) (fun r_15 q_16 => ?_)
  replace q_16 : (r_15.toInt = 1 ∧ (0 : Int) ≤ x1.toInt64.toInt ∧ x1.toInt64.toInt ≤ (9 : Int)) ∨ (r_15.toInt = 0 ∧ (x1.toInt64.toInt < (0 : Int) ∨ (9 : Int) < x1.toInt64.toInt)) := q_16
  refine ok_ite (fun c_17 => ?_) (fun c_17 => ?_)
  · skip
    have c_17 : r_15.toInt = (0 : Int) := i_eq.mp c_17
    replace q_16 : (x1.toInt64.toInt < (0 : Int) ∨ (9 : Int) < x1.toInt64.toInt) := by omega
    exact ok_some trivial
  · skip
    have c_17 : ¬ r_15.toInt = (0 : Int) := fun z => c_17 (i_eq.mpr z)
    replace q_16 : (0 : Int) ≤ x1.toInt64.toInt ∧ x1.toInt64.toInt ≤ (9 : Int) := by omega
    refine ok_bd16 (s_X7_endsAsTold o_level o_noRings o_noTones o_noFuel o_pieces o_drags o_all o_noPieces o_noDrags o_sets o_ringFar o_ringTone o_currents o_warmths o_code o_cellAt o_courseAt o_paceAt o_turnsAt o_slowAt o_fuelAt o_ringAt o_pieceParts o_dragCell o_dragBy o_sums (by first | with_reducible assumption | with_reducible rfl | omega) (show 0 ≤ (o_pieces).toInt by omega) (show (o_pieces).toInt ≤ 4 by omega) (show 0 ≤ (o_drags).toInt by omega) (show (o_drags).toInt ≤ 4 by omega)) (fun w_18 w_19 w_20 w_21 w_22 w_23 w_24 w_25 w_26 w_27 w_28 w_29 w_30 w_31 w_32 w_33 q_34 => ?_)
    exact l22 FU x1 0 0 w_18 w_19 w_20 w_21 w_22 w_23 w_24 w_25 w_26 w_27 w_28 w_29 w_30 w_31 w_32 w_33 (FU_gt (show (10 - (0 : Int)).toNat < 1000000000000 by omega)) (show 0 ≤ (x1).toInt by omega) (show (x1).toInt ≤ 9 by omega) (show 0 ≤ (0 : Int) by omega) (show (0 : Int) ≤ 10 by omega)
set_option maxRecDepth 100000 in
set_option maxHeartbeats 4000000 in
theorem s_X7_count (x1 : Int32) (o_level : Int32) (o_noRings : Int32) (o_noTones : Int32) (o_noFuel : Int32) (o_pieces : Int32) (o_drags : Int32) (o_all : Int64) (o_noPieces : Int32) (o_noDrags : Int32) (o_sets : Nat → Int32) (o_ringFar : Nat → Int32) (o_ringTone : Nat → Int32) (o_currents : Nat → Int32) (o_warmths : Nat → Int32) (o_code : Nat → Int32) (o_cellAt : Nat → Int32) (o_courseAt : Nat → Int32) (o_paceAt : Nat → Int32) (o_turnsAt : Nat → Int32) (o_slowAt : Nat → Int32) (o_fuelAt : Nat → Int32) (o_ringAt : Nat → Int32) (o_pieceParts : Nat → Int32) (o_dragCell : Nat → Int32) (o_dragBy : Nat → Int32) (o_sums : Nat → Int64) (h0 : SetOK o_sets) (h1 : 0 ≤ (o_pieces).toInt) (h2 : (o_pieces).toInt ≤ 4) (h3 : 0 ≤ (o_drags).toInt) (h4 : (o_drags).toInt ≤ 4) : okP (f_X7_count x1 o_level o_noRings o_noTones o_noFuel o_pieces o_drags o_all o_noPieces o_noDrags o_sets o_ringFar o_ringTone o_currents o_warmths o_code o_cellAt o_courseAt o_paceAt o_turnsAt o_slowAt o_fuelAt o_ringAt o_pieceParts o_dragCell o_dragBy o_sums) (fun u => True) := by
  have l81 : ∀ (n : Nat) (v1 : Int32) (v2 : Int32) (v3 : Int32) (o_level : Int32) (o_noRings : Int32) (o_noTones : Int32) (o_noFuel : Int32) (o_all : Int64) (o_noPieces : Int32) (o_noDrags : Int32) (o_code : Nat → Int32) (o_cellAt : Nat → Int32) (o_courseAt : Nat → Int32) (o_paceAt : Nat → Int32) (o_turnsAt : Nat → Int32) (o_slowAt : Nat → Int32) (o_fuelAt : Nat → Int32) (o_ringAt : Nat → Int32) (o_sums : Nat → Int64), (100 - v3.toInt).toNat < n → (0 ≤ v3.toInt) → (v3.toInt ≤ 100) → okP (f_X7_count_L81 n v1 v2 v3 o_level o_noRings o_noTones o_noFuel o_pieces o_drags o_all o_noPieces o_noDrags o_sets o_ringFar o_ringTone o_currents o_warmths o_code o_cellAt o_courseAt o_paceAt o_turnsAt o_slowAt o_fuelAt o_ringAt o_pieceParts o_dragCell o_dragBy o_sums) (fun u => True) := by
    intro n
    induction n with
    | zero =>
      intro v1 v2 v3 o_level o_noRings o_noTones o_noFuel o_all o_noPieces o_noDrags o_code o_cellAt o_courseAt o_paceAt o_turnsAt o_slowAt o_fuelAt o_ringAt o_sums hm
      exact absurd hm (Nat.not_lt_zero _)
    | succ n81 ih81 =>
      intro v1 v2 v3 o_level o_noRings o_noTones o_noFuel o_all o_noPieces o_noDrags o_code o_cellAt o_courseAt o_paceAt o_turnsAt o_slowAt o_fuelAt o_ringAt o_sums hm81 g81_0 g81_1
      show okP (f_X7_count_L81b (f_X7_count_L81 n81) v1 v2 v3 o_level o_noRings o_noTones o_noFuel o_pieces o_drags o_all o_noPieces o_noDrags o_sets o_ringFar o_ringTone o_currents o_warmths o_code o_cellAt o_courseAt o_paceAt o_turnsAt o_slowAt o_fuelAt o_ringAt o_pieceParts o_dragCell o_dragBy o_sums) (fun u => True)
      unfold f_X7_count_L81b
      refine ok_ite (fun c_1 => ?_) (fun c_1 => ?_)
      · skip
        have c_1 : (100 : Int) ≤ v3.toInt := i_le.mp c_1
        unfold f_X7_count_B112
        refine ok_ite (fun c_2 => ?_) (fun c_2 => ?_)
        · skip
          have c_2 : v1.toInt = (2 : Int) := i_eq.mp c_2
          exact ok_some trivial
        · skip
          have c_2 : ¬ v1.toInt = (2 : Int) := fun z => c_2 (i_eq.mpr z)
          refine ok_ite (fun c_3 => ?_) (fun c_3 => ?_)
          · skip
            have c_3 : v1.toInt = (3 : Int) := i_eq.mp c_3
            exact ok_some trivial
          · skip
            have c_3 : ¬ v1.toInt = (3 : Int) := fun z => c_3 (i_eq.mpr z)
            exact ok_some trivial
      · skip
        have c_1 : ¬ (100 : Int) ≤ v3.toInt := fun z => c_1 (i_le.mpr z)
        have ix_4 : ¬ (v3 < 0 ∨ 100 ≤ v3.toNatClampNeg) := ix (show 0 ≤ v3.toInt by omega) (show v3.toInt < (100 : Nat) by omega)
        refine ok_chk ix_4 ?_
        refine ok_ite (fun c_5 => ?_) (fun c_5 => ?_)
        · skip
          have c_5 : (o_sums v3.toNatClampNeg).toInt ≤ (0 : Int) := j_le.mp ((lg_cmp_le _ _).mp c_5)
          unfold f_X7_count_B104
          first | (have f_6 : (v2 + 0).toInt = v2.toInt + (0 : Int) := i_add2 rfl rfl (by omega) (by omega)) | skip
          refine ok_nmi (fun x_7 hx_7 kx_7 => ?_)
          first | (have f_8 : (v3 + 1).toInt = v3.toInt + (1 : Int) := i_add2 rfl rfl (by omega) (by omega)) | skip
          refine ok_nmi (fun x_9 hx_9 kx_9 => ?_)
          exact ih81 v1 x_7 x_9 o_level o_noRings o_noTones o_noFuel o_all o_noPieces o_noDrags o_code o_cellAt o_courseAt o_paceAt o_turnsAt o_slowAt o_fuelAt o_ringAt o_sums (show (100 - x_9.toInt).toNat < n81 by omega) (show 0 ≤ x_9.toInt by omega) (show x_9.toInt ≤ 100 by omega)
        · skip
          have c_5 : ¬ (o_sums v3.toNatClampNeg).toInt ≤ (0 : Int) := fun z => c_5 ((lg_cmp_le _ _).mpr (j_le.mpr z))
          unfold f_X7_count_B104
          first | (have f_10 : (v2 + 1).toInt = v2.toInt + (1 : Int) := i_add2 rfl rfl (by omega) (by omega)) | skip
          refine ok_nmi (fun x_11 hx_11 kx_11 => ?_)
          first | (have f_12 : (v3 + 1).toInt = v3.toInt + (1 : Int) := i_add2 rfl rfl (by omega) (by omega)) | skip
          refine ok_nmi (fun x_13 hx_13 kx_13 => ?_)
          exact ih81 v1 x_11 x_13 o_level o_noRings o_noTones o_noFuel o_all o_noPieces o_noDrags o_code o_cellAt o_courseAt o_paceAt o_turnsAt o_slowAt o_fuelAt o_ringAt o_sums (show (100 - x_13.toInt).toNat < n81 by omega) (show 0 ≤ x_13.toInt by omega) (show x_13.toInt ≤ 100 by omega)
  have l18 : ∀ (n : Nat) (v1 : Int32) (v2 : Int32) (v3 : Int32) (o_level : Int32) (o_noRings : Int32) (o_noTones : Int32) (o_noFuel : Int32) (o_all : Int64) (o_noPieces : Int32) (o_noDrags : Int32) (o_code : Nat → Int32) (o_cellAt : Nat → Int32) (o_courseAt : Nat → Int32) (o_paceAt : Nat → Int32) (o_turnsAt : Nat → Int32) (o_slowAt : Nat → Int32) (o_fuelAt : Nat → Int32) (o_ringAt : Nat → Int32) (o_sums : Nat → Int64), (7 - v3.toInt).toNat < n → (1 ≤ v3.toInt) → (v3.toInt ≤ 7) → okP (f_X7_count_L18 n v1 v2 v3 o_level o_noRings o_noTones o_noFuel o_pieces o_drags o_all o_noPieces o_noDrags o_sets o_ringFar o_ringTone o_currents o_warmths o_code o_cellAt o_courseAt o_paceAt o_turnsAt o_slowAt o_fuelAt o_ringAt o_pieceParts o_dragCell o_dragBy o_sums) (fun u => True) := by
    intro n
    induction n with
    | zero =>
      intro v1 v2 v3 o_level o_noRings o_noTones o_noFuel o_all o_noPieces o_noDrags o_code o_cellAt o_courseAt o_paceAt o_turnsAt o_slowAt o_fuelAt o_ringAt o_sums hm
      exact absurd hm (Nat.not_lt_zero _)
    | succ n18 ih18 =>
      intro v1 v2 v3 o_level o_noRings o_noTones o_noFuel o_all o_noPieces o_noDrags o_code o_cellAt o_courseAt o_paceAt o_turnsAt o_slowAt o_fuelAt o_ringAt o_sums hm18 g18_0 g18_1
      show okP (f_X7_count_L18b (f_X7_count_L18 n18) v1 v2 v3 o_level o_noRings o_noTones o_noFuel o_pieces o_drags o_all o_noPieces o_noDrags o_sets o_ringFar o_ringTone o_currents o_warmths o_code o_cellAt o_courseAt o_paceAt o_turnsAt o_slowAt o_fuelAt o_ringAt o_pieceParts o_dragCell o_dragBy o_sums) (fun u => True)
      unfold f_X7_count_L18b
      refine ok_ite (fun c_14 => ?_) (fun c_14 => ?_)
      · skip
        have c_14 : (7 : Int) ≤ v3.toInt := i_le.mp c_14
        unfold f_X7_count_B70
        refine ok_ite (fun c_15 => ?_) (fun c_15 => ?_)
        · skip
          have c_15 : v1.toInt = (4 : Int) := i_eq.mp c_15
          refine ok_bd16 (s_X7_endsAsTold o_level o_noRings o_noTones o_noFuel o_pieces o_drags o_all o_noPieces o_noDrags o_sets o_ringFar o_ringTone o_currents o_warmths o_code o_cellAt o_courseAt o_paceAt o_turnsAt o_slowAt o_fuelAt o_ringAt o_pieceParts o_dragCell o_dragBy o_sums (by first | with_reducible assumption | with_reducible rfl | omega) (show 0 ≤ (o_pieces).toInt by omega) (show (o_pieces).toInt ≤ 4 by omega) (show 0 ≤ (o_drags).toInt by omega) (show (o_drags).toInt ≤ 4 by omega)) (fun w_16 w_17 w_18 w_19 w_20 w_21 w_22 w_23 w_24 w_25 w_26 w_27 w_28 w_29 w_30 w_31 q_32 => ?_)
          exact l81 FU v1 v2 0 w_16 w_17 w_18 w_19 w_20 w_21 w_22 w_23 w_24 w_25 w_26 w_27 w_28 w_29 w_30 w_31 (FU_gt (show (100 - (0 : Int)).toNat < 1000000000000 by omega)) (show 0 ≤ (0 : Int) by omega) (show (0 : Int) ≤ 100 by omega)
        · skip
          have c_15 : ¬ v1.toInt = (4 : Int) := fun z => c_15 (i_eq.mpr z)
          unfold f_X7_count_B112
          refine ok_ite (fun c_33 => ?_) (fun c_33 => ?_)
          · skip
            have c_33 : v1.toInt = (2 : Int) := i_eq.mp c_33
            exact ok_some trivial
          · skip
            have c_33 : ¬ v1.toInt = (2 : Int) := fun z => c_33 (i_eq.mpr z)
            refine ok_ite (fun c_34 => ?_) (fun c_34 => ?_)
            · skip
              have c_34 : v1.toInt = (3 : Int) := i_eq.mp c_34
              exact ok_some trivial
            · skip
              have c_34 : ¬ v1.toInt = (3 : Int) := fun z => c_34 (i_eq.mpr z)
              exact ok_some trivial
      · skip
        have c_14 : ¬ (7 : Int) ≤ v3.toInt := fun z => c_14 (i_le.mpr z)
        refine ok_ite (fun c_35 => ?_) (fun c_35 => ?_)
        · skip
          have c_35 : (2 : Int) ≤ v1.toInt := i_le.mp c_35
          unfold f_X7_count_B70
          refine ok_ite (fun c_36 => ?_) (fun c_36 => ?_)
          · skip
            have c_36 : v1.toInt = (4 : Int) := i_eq.mp c_36
            refine ok_bd16 (s_X7_endsAsTold o_level o_noRings o_noTones o_noFuel o_pieces o_drags o_all o_noPieces o_noDrags o_sets o_ringFar o_ringTone o_currents o_warmths o_code o_cellAt o_courseAt o_paceAt o_turnsAt o_slowAt o_fuelAt o_ringAt o_pieceParts o_dragCell o_dragBy o_sums (by first | with_reducible assumption | with_reducible rfl | omega) (show 0 ≤ (o_pieces).toInt by omega) (show (o_pieces).toInt ≤ 4 by omega) (show 0 ≤ (o_drags).toInt by omega) (show (o_drags).toInt ≤ 4 by omega)) (fun w_37 w_38 w_39 w_40 w_41 w_42 w_43 w_44 w_45 w_46 w_47 w_48 w_49 w_50 w_51 w_52 q_53 => ?_)
            exact l81 FU v1 v2 0 w_37 w_38 w_39 w_40 w_41 w_42 w_43 w_44 w_45 w_46 w_47 w_48 w_49 w_50 w_51 w_52 (FU_gt (show (100 - (0 : Int)).toNat < 1000000000000 by omega)) (show 0 ≤ (0 : Int) by omega) (show (0 : Int) ≤ 100 by omega)
          · skip
            have c_36 : ¬ v1.toInt = (4 : Int) := fun z => c_36 (i_eq.mpr z)
            unfold f_X7_count_B112
            refine ok_ite (fun c_54 => ?_) (fun c_54 => ?_)
            · skip
              have c_54 : v1.toInt = (2 : Int) := i_eq.mp c_54
              exact ok_some trivial
            · skip
              have c_54 : ¬ v1.toInt = (2 : Int) := fun z => c_54 (i_eq.mpr z)
              refine ok_ite (fun c_55 => ?_) (fun c_55 => ?_)
              · skip
                have c_55 : v1.toInt = (3 : Int) := i_eq.mp c_55
                exact ok_some trivial
              · skip
                have c_55 : ¬ v1.toInt = (3 : Int) := fun z => c_55 (i_eq.mpr z)
                exact ok_some trivial
        · skip
          have c_35 : ¬ (2 : Int) ≤ v1.toInt := fun z => c_35 (i_le.mpr z)
          refine ok_ite (fun c_56 => ?_) (fun c_56 => ?_)
          · skip
            have c_56 : v1.toInt = (0 : Int) := i_eq.mp c_56
            have ix_57 : ¬ (v3 < 0 ∨ 7 ≤ v3.toNatClampNeg) := ix (show 0 ≤ v3.toInt by omega) (show v3.toInt < (7 : Nat) by omega)
            refine ok_chk ix_57 ?_
            refine ok_ite (fun c_58 => ?_) (fun c_58 => ?_)
            · skip
              have c_58 : (0 : Int) ≤ (o_ringFar v3.toNatClampNeg).toInt := i_le.mp c_58
              unfold f_X7_count_B57
              unfold f_X7_count_B62
              first | (have f_59 : (v2 + 1).toInt = v2.toInt + (1 : Int) := i_add2 rfl rfl (by omega) (by omega)) | skip
              refine ok_nmi (fun x_60 hx_60 kx_60 => ?_)
              first | (have f_61 : (v3 + 1).toInt = v3.toInt + (1 : Int) := i_add2 rfl rfl (by omega) (by omega)) | skip
              refine ok_nmi (fun x_62 hx_62 kx_62 => ?_)
              exact ih18 v1 x_60 x_62 o_level o_noRings o_noTones o_noFuel o_all o_noPieces o_noDrags o_code o_cellAt o_courseAt o_paceAt o_turnsAt o_slowAt o_fuelAt o_ringAt o_sums (show (7 - x_62.toInt).toNat < n18 by omega) (show 1 ≤ x_62.toInt by omega) (show x_62.toInt ≤ 7 by omega)
            · skip
              have c_58 : ¬ (0 : Int) ≤ (o_ringFar v3.toNatClampNeg).toInt := fun z => c_58 (i_le.mpr z)
              unfold f_X7_count_B43
              refine ok_ite (fun c_63 => ?_) (fun c_63 => ?_)
              · skip
                have c_63 : v1.toInt = (1 : Int) := i_eq.mp c_63
                refine ok_chk ix_57 ?_
                refine ok_ite (fun c_64 => ?_) (fun c_64 => ?_)
                · skip
                  have c_64 : (o_ringTone v3.toNatClampNeg).toInt ≤ (0 : Int) := i_le.mp c_64
                  unfold f_X7_count_B61
                  unfold f_X7_count_B62
                  first | (have f_65 : (v2 + 0).toInt = v2.toInt + (0 : Int) := i_add2 rfl rfl (by omega) (by omega)) | skip
                  refine ok_nmi (fun x_66 hx_66 kx_66 => ?_)
                  first | (have f_67 : (v3 + 1).toInt = v3.toInt + (1 : Int) := i_add2 rfl rfl (by omega) (by omega)) | skip
                  refine ok_nmi (fun x_68 hx_68 kx_68 => ?_)
                  exact ih18 v1 x_66 x_68 o_level o_noRings o_noTones o_noFuel o_all o_noPieces o_noDrags o_code o_cellAt o_courseAt o_paceAt o_turnsAt o_slowAt o_fuelAt o_ringAt o_sums (show (7 - x_68.toInt).toNat < n18 by omega) (show 1 ≤ x_68.toInt by omega) (show x_68.toInt ≤ 7 by omega)
                · skip
                  have c_64 : ¬ (o_ringTone v3.toNatClampNeg).toInt ≤ (0 : Int) := fun z => c_64 (i_le.mpr z)
                  unfold f_X7_count_B57
                  unfold f_X7_count_B62
                  first | (have f_69 : (v2 + 1).toInt = v2.toInt + (1 : Int) := i_add2 rfl rfl (by omega) (by omega)) | skip
                  refine ok_nmi (fun x_70 hx_70 kx_70 => ?_)
                  first | (have f_71 : (v3 + 1).toInt = v3.toInt + (1 : Int) := i_add2 rfl rfl (by omega) (by omega)) | skip
                  refine ok_nmi (fun x_72 hx_72 kx_72 => ?_)
                  exact ih18 v1 x_70 x_72 o_level o_noRings o_noTones o_noFuel o_all o_noPieces o_noDrags o_code o_cellAt o_courseAt o_paceAt o_turnsAt o_slowAt o_fuelAt o_ringAt o_sums (show (7 - x_72.toInt).toNat < n18 by omega) (show 1 ≤ x_72.toInt by omega) (show x_72.toInt ≤ 7 by omega)
              · skip
                have c_63 : ¬ v1.toInt = (1 : Int) := fun z => c_63 (i_eq.mpr z)
                unfold f_X7_count_B61
                unfold f_X7_count_B62
                first | (have f_73 : (v2 + 0).toInt = v2.toInt + (0 : Int) := i_add2 rfl rfl (by omega) (by omega)) | skip
                refine ok_nmi (fun x_74 hx_74 kx_74 => ?_)
                first | (have f_75 : (v3 + 1).toInt = v3.toInt + (1 : Int) := i_add2 rfl rfl (by omega) (by omega)) | skip
                refine ok_nmi (fun x_76 hx_76 kx_76 => ?_)
                exact ih18 v1 x_74 x_76 o_level o_noRings o_noTones o_noFuel o_all o_noPieces o_noDrags o_code o_cellAt o_courseAt o_paceAt o_turnsAt o_slowAt o_fuelAt o_ringAt o_sums (show (7 - x_76.toInt).toNat < n18 by omega) (show 1 ≤ x_76.toInt by omega) (show x_76.toInt ≤ 7 by omega)
          · skip
            have c_56 : ¬ v1.toInt = (0 : Int) := fun z => c_56 (i_eq.mpr z)
            unfold f_X7_count_B43
            refine ok_ite (fun c_77 => ?_) (fun c_77 => ?_)
            · skip
              have c_77 : v1.toInt = (1 : Int) := i_eq.mp c_77
              have ix_78 : ¬ (v3 < 0 ∨ 7 ≤ v3.toNatClampNeg) := ix (show 0 ≤ v3.toInt by omega) (show v3.toInt < (7 : Nat) by omega)
              refine ok_chk ix_78 ?_
              refine ok_ite (fun c_79 => ?_) (fun c_79 => ?_)
              · skip
                have c_79 : (o_ringTone v3.toNatClampNeg).toInt ≤ (0 : Int) := i_le.mp c_79
                unfold f_X7_count_B61
                unfold f_X7_count_B62
                first | (have f_80 : (v2 + 0).toInt = v2.toInt + (0 : Int) := i_add2 rfl rfl (by omega) (by omega)) | skip
                refine ok_nmi (fun x_81 hx_81 kx_81 => ?_)
                first | (have f_82 : (v3 + 1).toInt = v3.toInt + (1 : Int) := i_add2 rfl rfl (by omega) (by omega)) | skip
                refine ok_nmi (fun x_83 hx_83 kx_83 => ?_)
                exact ih18 v1 x_81 x_83 o_level o_noRings o_noTones o_noFuel o_all o_noPieces o_noDrags o_code o_cellAt o_courseAt o_paceAt o_turnsAt o_slowAt o_fuelAt o_ringAt o_sums (show (7 - x_83.toInt).toNat < n18 by omega) (show 1 ≤ x_83.toInt by omega) (show x_83.toInt ≤ 7 by omega)
              · skip
                have c_79 : ¬ (o_ringTone v3.toNatClampNeg).toInt ≤ (0 : Int) := fun z => c_79 (i_le.mpr z)
                unfold f_X7_count_B57
                unfold f_X7_count_B62
                first | (have f_84 : (v2 + 1).toInt = v2.toInt + (1 : Int) := i_add2 rfl rfl (by omega) (by omega)) | skip
                refine ok_nmi (fun x_85 hx_85 kx_85 => ?_)
                first | (have f_86 : (v3 + 1).toInt = v3.toInt + (1 : Int) := i_add2 rfl rfl (by omega) (by omega)) | skip
                refine ok_nmi (fun x_87 hx_87 kx_87 => ?_)
                exact ih18 v1 x_85 x_87 o_level o_noRings o_noTones o_noFuel o_all o_noPieces o_noDrags o_code o_cellAt o_courseAt o_paceAt o_turnsAt o_slowAt o_fuelAt o_ringAt o_sums (show (7 - x_87.toInt).toNat < n18 by omega) (show 1 ≤ x_87.toInt by omega) (show x_87.toInt ≤ 7 by omega)
            · skip
              have c_77 : ¬ v1.toInt = (1 : Int) := fun z => c_77 (i_eq.mpr z)
              unfold f_X7_count_B61
              unfold f_X7_count_B62
              first | (have f_88 : (v2 + 0).toInt = v2.toInt + (0 : Int) := i_add2 rfl rfl (by omega) (by omega)) | skip
              refine ok_nmi (fun x_89 hx_89 kx_89 => ?_)
              first | (have f_90 : (v3 + 1).toInt = v3.toInt + (1 : Int) := i_add2 rfl rfl (by omega) (by omega)) | skip
              refine ok_nmi (fun x_91 hx_91 kx_91 => ?_)
              exact ih18 v1 x_89 x_91 o_level o_noRings o_noTones o_noFuel o_all o_noPieces o_noDrags o_code o_cellAt o_courseAt o_paceAt o_turnsAt o_slowAt o_fuelAt o_ringAt o_sums (show (7 - x_91.toInt).toNat < n18 by omega) (show 1 ≤ x_91.toInt by omega) (show x_91.toInt ≤ 7 by omega)
  unfold f_X7_count
  first | (have f_92 : (x1.toInt64).toInt = x1.toInt := j_i2l _) | skip
  refine ok_bd1 (s_X7_in x1.toInt64 0 4) (fun r_93 q_94 => ?_)
  replace q_94 : (r_93.toInt = 1 ∧ (0 : Int) ≤ x1.toInt64.toInt ∧ x1.toInt64.toInt ≤ (4 : Int)) ∨ (r_93.toInt = 0 ∧ (x1.toInt64.toInt < (0 : Int) ∨ (4 : Int) < x1.toInt64.toInt)) := q_94
  refine ok_ite (fun c_95 => ?_) (fun c_95 => ?_)
  · skip
    have c_95 : r_93.toInt = (0 : Int) := i_eq.mp c_95
    replace q_94 : (x1.toInt64.toInt < (0 : Int) ∨ (4 : Int) < x1.toInt64.toInt) := by omega
    exact ok_some trivial
  · skip
    have c_95 : ¬ r_93.toInt = (0 : Int) := fun z => c_95 (i_eq.mpr z)
    replace q_94 : (0 : Int) ≤ x1.toInt64.toInt ∧ x1.toInt64.toInt ≤ (4 : Int) := by omega
    exact l18 FU x1 0 1 o_level o_noRings o_noTones o_noFuel o_all o_noPieces o_noDrags o_code o_cellAt o_courseAt o_paceAt o_turnsAt o_slowAt o_fuelAt o_ringAt o_sums (FU_gt (show (7 - (1 : Int)).toNat < 1000000000000 by omega)) (show 1 ≤ (1 : Int) by omega) (show (1 : Int) ≤ 7 by omega)
set_option maxRecDepth 100000 in
set_option maxHeartbeats 4000000 in
theorem s_X7_moved (x1 : Int32) (o_level : Int32) (o_noRings : Int32) (o_noTones : Int32) (o_noFuel : Int32) (o_pieces : Int32) (o_drags : Int32) (o_all : Int64) (o_noPieces : Int32) (o_noDrags : Int32) (o_sets : Nat → Int32) (o_ringFar : Nat → Int32) (o_ringTone : Nat → Int32) (o_currents : Nat → Int32) (o_warmths : Nat → Int32) (o_code : Nat → Int32) (o_cellAt : Nat → Int32) (o_courseAt : Nat → Int32) (o_paceAt : Nat → Int32) (o_turnsAt : Nat → Int32) (o_slowAt : Nat → Int32) (o_fuelAt : Nat → Int32) (o_ringAt : Nat → Int32) (o_pieceParts : Nat → Int32) (o_dragCell : Nat → Int32) (o_dragBy : Nat → Int32) (o_sums : Nat → Int64) (o_shares : Nat → Int32) (h0 : SetOK o_sets) (h1 : 0 ≤ (o_pieces).toInt) (h2 : (o_pieces).toInt ≤ 4) (h3 : 0 ≤ (o_drags).toInt) (h4 : (o_drags).toInt ≤ 4) : okP (f_X7_moved x1 o_level o_noRings o_noTones o_noFuel o_pieces o_drags o_all o_noPieces o_noDrags o_sets o_ringFar o_ringTone o_currents o_warmths o_code o_cellAt o_courseAt o_paceAt o_turnsAt o_slowAt o_fuelAt o_ringAt o_pieceParts o_dragCell o_dragBy o_sums o_shares) (fun u => True) := by
  have l193 : ∀ (n : Nat) (v3 : Int32) (v4 : Int32) (o_level : Int32) (o_noRings : Int32) (o_noTones : Int32) (o_noFuel : Int32) (o_all : Int64) (o_noPieces : Int32) (o_noDrags : Int32) (o_code : Nat → Int32) (o_cellAt : Nat → Int32) (o_courseAt : Nat → Int32) (o_paceAt : Nat → Int32) (o_turnsAt : Nat → Int32) (o_slowAt : Nat → Int32) (o_fuelAt : Nat → Int32) (o_ringAt : Nat → Int32) (o_sums : Nat → Int64) (o_shares : Nat → Int32), (100 - v4.toInt).toNat < n → (0 ≤ v4.toInt) → (v4.toInt ≤ 100) → (¬ o_all.toInt = 0) → okP (f_X7_moved_L193 n v3 v4 o_level o_noRings o_noTones o_noFuel o_pieces o_drags o_all o_noPieces o_noDrags o_sets o_ringFar o_ringTone o_currents o_warmths o_code o_cellAt o_courseAt o_paceAt o_turnsAt o_slowAt o_fuelAt o_ringAt o_pieceParts o_dragCell o_dragBy o_sums o_shares) (fun u => True) := by
    intro n
    induction n with
    | zero =>
      intro v3 v4 o_level o_noRings o_noTones o_noFuel o_all o_noPieces o_noDrags o_code o_cellAt o_courseAt o_paceAt o_turnsAt o_slowAt o_fuelAt o_ringAt o_sums o_shares hm
      exact absurd hm (Nat.not_lt_zero _)
    | succ n193 ih193 =>
      intro v3 v4 o_level o_noRings o_noTones o_noFuel o_all o_noPieces o_noDrags o_code o_cellAt o_courseAt o_paceAt o_turnsAt o_slowAt o_fuelAt o_ringAt o_sums o_shares hm193 g193_0 g193_1 g193_2
      show okP (f_X7_moved_L193b (f_X7_moved_L193 n193) v3 v4 o_level o_noRings o_noTones o_noFuel o_pieces o_drags o_all o_noPieces o_noDrags o_sets o_ringFar o_ringTone o_currents o_warmths o_code o_cellAt o_courseAt o_paceAt o_turnsAt o_slowAt o_fuelAt o_ringAt o_pieceParts o_dragCell o_dragBy o_sums o_shares) (fun u => True)
      unfold f_X7_moved_L193b
      refine ok_ite (fun c_1 => ?_) (fun c_1 => ?_)
      · skip
        have c_1 : (100 : Int) ≤ v4.toInt := i_le.mp c_1
        exact ok_some trivial
      · skip
        have c_1 : ¬ (100 : Int) ≤ v4.toInt := fun z => c_1 (i_le.mpr z)
        have ix_2 : ¬ (v4 < 0 ∨ 100 ≤ v4.toNatClampNeg) := ix (show 0 ≤ v4.toInt by omega) (show v4.toInt < (100 : Nat) by omega)
        refine ok_chk ix_2 ?_
        refine ok_bd1 (s_X7_thousandths (o_sums v4.toNatClampNeg) o_all (show ¬ o_all.toInt = 0 by omega)) (fun r_3 q_4 => ?_)
        refine ok_chk ix_2 ?_
        first | (have f_5 : (r_3 - (o_shares v4.toNatClampNeg)).toInt = r_3.toInt - (o_shares v4.toNatClampNeg).toInt := i_sub2 rfl rfl (by omega) (by omega)) | skip
        refine ok_nmi (fun x_6 hx_6 kx_6 => ?_)
        refine ok_ite (fun c_7 => ?_) (fun c_7 => ?_)
        · skip
          have c_7 : (0 : Int) ≤ x_6.toInt := i_le.mp c_7
          unfold f_X7_moved_B235
          first | (have f_8 : (v3 + x_6).toInt = v3.toInt + x_6.toInt := i_add2 rfl rfl (by omega) (by omega)) | skip
          refine ok_nmi (fun x_9 hx_9 kx_9 => ?_)
          first | (have f_10 : (v4 + 1).toInt = v4.toInt + (1 : Int) := i_add2 rfl rfl (by omega) (by omega)) | skip
          refine ok_nmi (fun x_11 hx_11 kx_11 => ?_)
          exact ih193 x_9 x_11 o_level o_noRings o_noTones o_noFuel o_all o_noPieces o_noDrags o_code o_cellAt o_courseAt o_paceAt o_turnsAt o_slowAt o_fuelAt o_ringAt o_sums o_shares (show (100 - x_11.toInt).toNat < n193 by omega) (show 0 ≤ x_11.toInt by omega) (show x_11.toInt ≤ 100 by omega) (show ¬ o_all.toInt = 0 by omega)
        · skip
          have c_7 : ¬ (0 : Int) ≤ x_6.toInt := fun z => c_7 (i_le.mpr z)
          first | (have f_12 : (-x_6).toInt = -x_6.toInt := i_neg (by omega)) | skip
          unfold f_X7_moved_B235
          first | (have f_13 : (v3 + (-x_6)).toInt = v3.toInt + (-x_6).toInt := i_add2 rfl rfl (by omega) (by omega)) | skip
          refine ok_nmi (fun x_14 hx_14 kx_14 => ?_)
          first | (have f_15 : (v4 + 1).toInt = v4.toInt + (1 : Int) := i_add2 rfl rfl (by omega) (by omega)) | skip
          refine ok_nmi (fun x_16 hx_16 kx_16 => ?_)
          exact ih193 x_14 x_16 o_level o_noRings o_noTones o_noFuel o_all o_noPieces o_noDrags o_code o_cellAt o_courseAt o_paceAt o_turnsAt o_slowAt o_fuelAt o_ringAt o_sums o_shares (show (100 - x_16.toInt).toNat < n193 by omega) (show 0 ≤ x_16.toInt by omega) (show x_16.toInt ≤ 100 by omega) (show ¬ o_all.toInt = 0 by omega)
  have b142 : ∀ (v2 : Int32) (y0 : Int32) (o_level : Int32) (o_noRings : Int32) (o_noTones : Int32) (o_noFuel : Int32) (o_all : Int64) (o_noPieces : Int32) (o_noDrags : Int32) (o_code : Nat → Int32) (o_cellAt : Nat → Int32) (o_courseAt : Nat → Int32) (o_paceAt : Nat → Int32) (o_turnsAt : Nat → Int32) (o_slowAt : Nat → Int32) (o_fuelAt : Nat → Int32) (o_ringAt : Nat → Int32) (o_sums : Nat → Int64) (o_shares : Nat → Int32), (v2.toInt = 0 ∨ v2.toInt = 1) → (y0.toInt = 0 ∨ y0.toInt = 1) → okP (f_X7_moved_B142 v2 y0 o_level o_noRings o_noTones o_noFuel o_pieces o_drags o_all o_noPieces o_noDrags o_sets o_ringFar o_ringTone o_currents o_warmths o_code o_cellAt o_courseAt o_paceAt o_turnsAt o_slowAt o_fuelAt o_ringAt o_pieceParts o_dragCell o_dragBy o_sums o_shares) (fun u => True) := by
    intro v2 y0 o_level o_noRings o_noTones o_noFuel o_all o_noPieces o_noDrags o_code o_cellAt o_courseAt o_paceAt o_turnsAt o_slowAt o_fuelAt o_ringAt o_sums o_shares e142_0 e142_1
    unfold f_X7_moved_B142
    refine ok_chk (b01 (show y0.toInt = 0 ∨ y0.toInt = 1 by omega)) ?_
    refine ok_bd11 (s_X7_ends o_level o_noRings o_noTones o_noFuel o_pieces o_drags o_all o_noPieces y0 o_sets o_ringFar o_ringTone o_currents o_warmths o_code o_cellAt o_courseAt o_paceAt o_turnsAt o_slowAt o_fuelAt o_ringAt o_pieceParts o_dragCell o_dragBy o_sums (by first | with_reducible assumption | with_reducible rfl | omega) (show 0 ≤ (o_pieces).toInt by omega) (show (o_pieces).toInt ≤ 4 by omega) (show 0 ≤ (o_drags).toInt by omega) (show (o_drags).toInt ≤ 4 by omega)) (fun w_17 w_18 w_19 w_20 w_21 w_22 w_23 w_24 w_25 w_26 w_27 q_28 => ?_)
    refine ok_ite (fun c_29 => ?_) (fun c_29 => ?_)
    · skip
      have c_29 : v2.toInt = (0 : Int) := i_eq.mp c_29
      unfold f_X7_moved_B162
      refine ok_ite (fun c_30 => ?_) (fun c_30 => ?_)
      · skip
        have c_30 : w_18.toInt ≤ (0 : Int) := j_le.mp ((lg_cmp_le _ _).mp c_30)
        unfold f_X7_moved_B177
        refine ok_ite (fun c_31 => ?_) (fun c_31 => ?_)
        · skip
          have c_31 : v2.toInt = (0 : Int) := i_eq.mp c_31
          exact ok_some trivial
        · skip
          have c_31 : ¬ v2.toInt = (0 : Int) := fun z => c_31 (i_eq.mpr z)
          exact ok_some trivial
      · skip
        have c_30 : ¬ w_18.toInt ≤ (0 : Int) := fun z => c_30 ((lg_cmp_le _ _).mpr (j_le.mpr z))
        unfold f_X7_moved_B177
        refine ok_ite (fun c_32 => ?_) (fun c_32 => ?_)
        · skip
          have c_32 : v2.toInt = (1 : Int) := i_eq.mp c_32
          exact ok_some trivial
        · skip
          have c_32 : ¬ v2.toInt = (1 : Int) := fun z => c_32 (i_eq.mpr z)
          exact ok_some trivial
    · skip
      have c_29 : ¬ v2.toInt = (0 : Int) := fun z => c_29 (i_eq.mpr z)
      refine ok_ite (fun c_33 => ?_) (fun c_33 => ?_)
      · skip
        have c_33 : w_18.toInt = (0 : Int) := j_eq.mp ((lg_cmp_eq _ _).mp c_33)
        unfold f_X7_moved_B162
        refine ok_ite (fun c_34 => ?_) (fun c_34 => ?_)
        · skip
          have c_34 : w_18.toInt ≤ (0 : Int) := j_le.mp ((lg_cmp_le _ _).mp c_34)
          unfold f_X7_moved_B177
          refine ok_ite (fun c_35 => ?_) (fun c_35 => ?_)
          · skip
            have c_35 : v2.toInt = (0 : Int) := i_eq.mp c_35
            exact ok_some trivial
          · skip
            have c_35 : ¬ v2.toInt = (0 : Int) := fun z => c_35 (i_eq.mpr z)
            exact ok_some trivial
        · skip
          have c_34 : ¬ w_18.toInt ≤ (0 : Int) := fun z => c_34 ((lg_cmp_le _ _).mpr (j_le.mpr z))
          unfold f_X7_moved_B177
          refine ok_ite (fun c_36 => ?_) (fun c_36 => ?_)
          · skip
            have c_36 : v2.toInt = (1 : Int) := i_eq.mp c_36
            exact ok_some trivial
          · skip
            have c_36 : ¬ v2.toInt = (1 : Int) := fun z => c_36 (i_eq.mpr z)
            exact ok_some trivial
      · skip
        have c_33 : ¬ w_18.toInt = (0 : Int) := fun z => c_33 ((lg_cmp_eq _ _).mpr (j_eq.mpr z))
        exact l193 FU 0 0 w_17 o_noRings o_noTones o_noFuel w_18 o_noPieces y0 w_19 w_20 w_21 w_22 w_23 w_24 w_25 w_26 w_27 o_shares (FU_gt (show (100 - (0 : Int)).toNat < 1000000000000 by omega)) (show 0 ≤ (0 : Int) by omega) (show (0 : Int) ≤ 100 by omega) (show ¬ w_18.toInt = 0 by omega)
  have b127 : ∀ (v1 : Int32) (v2 : Int32) (y0 : Int32) (o_level : Int32) (o_noRings : Int32) (o_noTones : Int32) (o_noFuel : Int32) (o_all : Int64) (o_noPieces : Int32) (o_noDrags : Int32) (o_code : Nat → Int32) (o_cellAt : Nat → Int32) (o_courseAt : Nat → Int32) (o_paceAt : Nat → Int32) (o_turnsAt : Nat → Int32) (o_slowAt : Nat → Int32) (o_fuelAt : Nat → Int32) (o_ringAt : Nat → Int32) (o_sums : Nat → Int64) (o_shares : Nat → Int32), (v2.toInt = 0 ∨ v2.toInt = 1) → okP (f_X7_moved_B127 v1 v2 y0 o_level o_noRings o_noTones o_noFuel o_pieces o_drags o_all o_noPieces o_noDrags o_sets o_ringFar o_ringTone o_currents o_warmths o_code o_cellAt o_courseAt o_paceAt o_turnsAt o_slowAt o_fuelAt o_ringAt o_pieceParts o_dragCell o_dragBy o_sums o_shares) (fun u => True) := by
    intro v1 v2 y0 o_level o_noRings o_noTones o_noFuel o_all o_noPieces o_noDrags o_code o_cellAt o_courseAt o_paceAt o_turnsAt o_slowAt o_fuelAt o_ringAt o_sums o_shares e127_0
    unfold f_X7_moved_B127
    refine ok_ite (fun c_37 => ?_) (fun c_37 => ?_)
    · skip
      have c_37 : v1.toInt = (12 : Int) := i_eq.mp c_37
      exact b142 v2 1 o_level o_noRings o_noTones o_noFuel o_all y0 o_noDrags o_code o_cellAt o_courseAt o_paceAt o_turnsAt o_slowAt o_fuelAt o_ringAt o_sums o_shares (show v2.toInt = 0 ∨ v2.toInt = 1 by omega) (show (1 : Int) = 0 ∨ (1 : Int) = 1 by omega)
    · skip
      have c_37 : ¬ v1.toInt = (12 : Int) := fun z => c_37 (i_eq.mpr z)
      exact b142 v2 0 o_level o_noRings o_noTones o_noFuel o_all y0 o_noDrags o_code o_cellAt o_courseAt o_paceAt o_turnsAt o_slowAt o_fuelAt o_ringAt o_sums o_shares (show v2.toInt = 0 ∨ v2.toInt = 1 by omega) (show (0 : Int) = 0 ∨ (0 : Int) = 1 by omega)
  have b101 : ∀ (v1 : Int32) (v2 : Int32) (y0 : Int32) (o_level : Int32) (o_noRings : Int32) (o_noTones : Int32) (o_noFuel : Int32) (o_all : Int64) (o_noPieces : Int32) (o_noDrags : Int32) (o_code : Nat → Int32) (o_cellAt : Nat → Int32) (o_courseAt : Nat → Int32) (o_paceAt : Nat → Int32) (o_turnsAt : Nat → Int32) (o_slowAt : Nat → Int32) (o_fuelAt : Nat → Int32) (o_ringAt : Nat → Int32) (o_sums : Nat → Int64) (o_shares : Nat → Int32), (v2.toInt = 0 ∨ v2.toInt = 1) → (y0.toInt = 0 ∨ y0.toInt = 1) → okP (f_X7_moved_B101 v1 v2 y0 o_level o_noRings o_noTones o_noFuel o_pieces o_drags o_all o_noPieces o_noDrags o_sets o_ringFar o_ringTone o_currents o_warmths o_code o_cellAt o_courseAt o_paceAt o_turnsAt o_slowAt o_fuelAt o_ringAt o_pieceParts o_dragCell o_dragBy o_sums o_shares) (fun u => True) := by
    intro v1 v2 y0 o_level o_noRings o_noTones o_noFuel o_all o_noPieces o_noDrags o_code o_cellAt o_courseAt o_paceAt o_turnsAt o_slowAt o_fuelAt o_ringAt o_sums o_shares e101_0 e101_1
    unfold f_X7_moved_B101
    refine ok_chk (b01 (show y0.toInt = 0 ∨ y0.toInt = 1 by omega)) ?_
    refine ok_ite (fun c_38 => ?_) (fun c_38 => ?_)
    · skip
      have c_38 : v1.toInt ≤ (7 : Int) := i_le.mp c_38
      unfold f_X7_moved_B126
      exact b127 v1 v2 0 o_level o_noRings o_noTones y0 o_all o_noPieces o_noDrags o_code o_cellAt o_courseAt o_paceAt o_turnsAt o_slowAt o_fuelAt o_ringAt o_sums o_shares (show v2.toInt = 0 ∨ v2.toInt = 1 by omega)
    · skip
      have c_38 : ¬ v1.toInt ≤ (7 : Int) := fun z => c_38 (i_le.mpr z)
      refine ok_ite (fun c_39 => ?_) (fun c_39 => ?_)
      · skip
        have c_39 : (12 : Int) ≤ v1.toInt := i_le.mp c_39
        unfold f_X7_moved_B126
        exact b127 v1 v2 0 o_level o_noRings o_noTones y0 o_all o_noPieces o_noDrags o_code o_cellAt o_courseAt o_paceAt o_turnsAt o_slowAt o_fuelAt o_ringAt o_sums o_shares (show v2.toInt = 0 ∨ v2.toInt = 1 by omega)
      · skip
        have c_39 : ¬ (12 : Int) ≤ v1.toInt := fun z => c_39 (i_le.mpr z)
        first | (have f_40 : (v1 - 8).toInt = v1.toInt - (8 : Int) := i_sub2 rfl rfl (by omega) (by omega)) | skip
        exact b127 v1 v2 (1 <<< ((v1 - 8) &&& 31)) o_level o_noRings o_noTones y0 o_all o_noPieces o_noDrags o_code o_cellAt o_courseAt o_paceAt o_turnsAt o_slowAt o_fuelAt o_ringAt o_sums o_shares (show v2.toInt = 0 ∨ v2.toInt = 1 by omega)
  have b86 : ∀ (v1 : Int32) (v2 : Int32) (y0 : Int32) (o_level : Int32) (o_noRings : Int32) (o_noTones : Int32) (o_noFuel : Int32) (o_all : Int64) (o_noPieces : Int32) (o_noDrags : Int32) (o_code : Nat → Int32) (o_cellAt : Nat → Int32) (o_courseAt : Nat → Int32) (o_paceAt : Nat → Int32) (o_turnsAt : Nat → Int32) (o_slowAt : Nat → Int32) (o_fuelAt : Nat → Int32) (o_ringAt : Nat → Int32) (o_sums : Nat → Int64) (o_shares : Nat → Int32), (v2.toInt = 0 ∨ v2.toInt = 1) → (y0.toInt = 0 ∨ y0.toInt = 1) → okP (f_X7_moved_B86 v1 v2 y0 o_level o_noRings o_noTones o_noFuel o_pieces o_drags o_all o_noPieces o_noDrags o_sets o_ringFar o_ringTone o_currents o_warmths o_code o_cellAt o_courseAt o_paceAt o_turnsAt o_slowAt o_fuelAt o_ringAt o_pieceParts o_dragCell o_dragBy o_sums o_shares) (fun u => True) := by
    intro v1 v2 y0 o_level o_noRings o_noTones o_noFuel o_all o_noPieces o_noDrags o_code o_cellAt o_courseAt o_paceAt o_turnsAt o_slowAt o_fuelAt o_ringAt o_sums o_shares e86_0 e86_1
    unfold f_X7_moved_B86
    refine ok_chk (b01 (show y0.toInt = 0 ∨ y0.toInt = 1 by omega)) ?_
    refine ok_ite (fun c_41 => ?_) (fun c_41 => ?_)
    · skip
      have c_41 : v1.toInt = (7 : Int) := i_eq.mp c_41
      exact b101 v1 v2 1 o_level o_noRings y0 o_noFuel o_all o_noPieces o_noDrags o_code o_cellAt o_courseAt o_paceAt o_turnsAt o_slowAt o_fuelAt o_ringAt o_sums o_shares (show v2.toInt = 0 ∨ v2.toInt = 1 by omega) (show (1 : Int) = 0 ∨ (1 : Int) = 1 by omega)
    · skip
      have c_41 : ¬ v1.toInt = (7 : Int) := fun z => c_41 (i_eq.mpr z)
      exact b101 v1 v2 0 o_level o_noRings y0 o_noFuel o_all o_noPieces o_noDrags o_code o_cellAt o_courseAt o_paceAt o_turnsAt o_slowAt o_fuelAt o_ringAt o_sums o_shares (show v2.toInt = 0 ∨ v2.toInt = 1 by omega) (show (0 : Int) = 0 ∨ (0 : Int) = 1 by omega)
  have b71 : ∀ (v1 : Int32) (v2 : Int32) (y0 : Int32) (o_level : Int32) (o_noRings : Int32) (o_noTones : Int32) (o_noFuel : Int32) (o_all : Int64) (o_noPieces : Int32) (o_noDrags : Int32) (o_code : Nat → Int32) (o_cellAt : Nat → Int32) (o_courseAt : Nat → Int32) (o_paceAt : Nat → Int32) (o_turnsAt : Nat → Int32) (o_slowAt : Nat → Int32) (o_fuelAt : Nat → Int32) (o_ringAt : Nat → Int32) (o_sums : Nat → Int64) (o_shares : Nat → Int32), (v2.toInt = 0 ∨ v2.toInt = 1) → okP (f_X7_moved_B71 v1 v2 y0 o_level o_noRings o_noTones o_noFuel o_pieces o_drags o_all o_noPieces o_noDrags o_sets o_ringFar o_ringTone o_currents o_warmths o_code o_cellAt o_courseAt o_paceAt o_turnsAt o_slowAt o_fuelAt o_ringAt o_pieceParts o_dragCell o_dragBy o_sums o_shares) (fun u => True) := by
    intro v1 v2 y0 o_level o_noRings o_noTones o_noFuel o_all o_noPieces o_noDrags o_code o_cellAt o_courseAt o_paceAt o_turnsAt o_slowAt o_fuelAt o_ringAt o_sums o_shares e71_0
    unfold f_X7_moved_B71
    refine ok_ite (fun c_42 => ?_) (fun c_42 => ?_)
    · skip
      have c_42 : v1.toInt = (6 : Int) := i_eq.mp c_42
      exact b86 v1 v2 1 o_level y0 o_noTones o_noFuel o_all o_noPieces o_noDrags o_code o_cellAt o_courseAt o_paceAt o_turnsAt o_slowAt o_fuelAt o_ringAt o_sums o_shares (show v2.toInt = 0 ∨ v2.toInt = 1 by omega) (show (1 : Int) = 0 ∨ (1 : Int) = 1 by omega)
    · skip
      have c_42 : ¬ v1.toInt = (6 : Int) := fun z => c_42 (i_eq.mpr z)
      exact b86 v1 v2 0 o_level y0 o_noTones o_noFuel o_all o_noPieces o_noDrags o_code o_cellAt o_courseAt o_paceAt o_turnsAt o_slowAt o_fuelAt o_ringAt o_sums o_shares (show v2.toInt = 0 ∨ v2.toInt = 1 by omega) (show (0 : Int) = 0 ∨ (0 : Int) = 1 by omega)
  have l21 : ∀ (n : Nat) (v1 : Int32) (v2 : Int32) (v3 : Int32) (o_level : Int32) (o_noRings : Int32) (o_noTones : Int32) (o_noFuel : Int32) (o_all : Int64) (o_noPieces : Int32) (o_noDrags : Int32) (o_code : Nat → Int32) (o_cellAt : Nat → Int32) (o_courseAt : Nat → Int32) (o_paceAt : Nat → Int32) (o_turnsAt : Nat → Int32) (o_slowAt : Nat → Int32) (o_fuelAt : Nat → Int32) (o_ringAt : Nat → Int32) (o_sums : Nat → Int64) (o_shares : Nat → Int32), (100 - v3.toInt).toNat < n → (0 ≤ v3.toInt) → (v3.toInt ≤ 100) → (v2.toInt = 0 ∨ (v2.toInt = 1 ∧ ¬ o_all.toInt = 0)) → okP (f_X7_moved_L21 n v1 v2 v3 o_level o_noRings o_noTones o_noFuel o_pieces o_drags o_all o_noPieces o_noDrags o_sets o_ringFar o_ringTone o_currents o_warmths o_code o_cellAt o_courseAt o_paceAt o_turnsAt o_slowAt o_fuelAt o_ringAt o_pieceParts o_dragCell o_dragBy o_sums o_shares) (fun u => True) := by
    intro n
    induction n with
    | zero =>
      intro v1 v2 v3 o_level o_noRings o_noTones o_noFuel o_all o_noPieces o_noDrags o_code o_cellAt o_courseAt o_paceAt o_turnsAt o_slowAt o_fuelAt o_ringAt o_sums o_shares hm
      exact absurd hm (Nat.not_lt_zero _)
    | succ n21 ih21 =>
      intro v1 v2 v3 o_level o_noRings o_noTones o_noFuel o_all o_noPieces o_noDrags o_code o_cellAt o_courseAt o_paceAt o_turnsAt o_slowAt o_fuelAt o_ringAt o_sums o_shares hm21 g21_0 g21_1 g21_2
      show okP (f_X7_moved_L21b (f_X7_moved_L21 n21) v1 v2 v3 o_level o_noRings o_noTones o_noFuel o_pieces o_drags o_all o_noPieces o_noDrags o_sets o_ringFar o_ringTone o_currents o_warmths o_code o_cellAt o_courseAt o_paceAt o_turnsAt o_slowAt o_fuelAt o_ringAt o_pieceParts o_dragCell o_dragBy o_sums o_shares) (fun u => True)
      unfold f_X7_moved_L21b
      refine ok_ite (fun c_43 => ?_) (fun c_43 => ?_)
      · skip
        have c_43 : (100 : Int) ≤ v3.toInt := i_le.mp c_43
        refine ok_ite (fun c_44 => ?_) (fun c_44 => ?_)
        · skip
          have c_44 : (6 : Int) ≤ v1.toInt := i_le.mp c_44
          exact b71 v1 v2 0 o_level o_noRings o_noTones o_noFuel o_all o_noPieces o_noDrags o_code o_cellAt o_courseAt o_paceAt o_turnsAt o_slowAt o_fuelAt o_ringAt o_sums o_shares (show v2.toInt = 0 ∨ v2.toInt = 1 by omega)
        · skip
          have c_44 : ¬ (6 : Int) ≤ v1.toInt := fun z => c_44 (i_le.mpr z)
          exact b71 v1 v2 (2 <<< (v1 &&& 31)) o_level o_noRings o_noTones o_noFuel o_all o_noPieces o_noDrags o_code o_cellAt o_courseAt o_paceAt o_turnsAt o_slowAt o_fuelAt o_ringAt o_sums o_shares (show v2.toInt = 0 ∨ v2.toInt = 1 by omega)
      · skip
        have c_43 : ¬ (100 : Int) ≤ v3.toInt := fun z => c_43 (i_le.mpr z)
        refine ok_ite (fun c_45 => ?_) (fun c_45 => ?_)
        · skip
          have c_45 : v2.toInt = (0 : Int) := i_eq.mp c_45
          unfold f_X7_moved_B50
          have ix_46 : ¬ (v3 < 0 ∨ 100 ≤ v3.toNatClampNeg) := ix (show 0 ≤ v3.toInt by omega) (show v3.toInt < (100 : Nat) by omega)
          refine ok_chk ix_46 ?_
          first | (have f_47 : (v3 + 1).toInt = v3.toInt + (1 : Int) := i_add2 rfl rfl (by omega) (by omega)) | skip
          refine ok_nmi (fun x_48 hx_48 kx_48 => ?_)
          exact ih21 v1 v2 x_48 o_level o_noRings o_noTones o_noFuel o_all o_noPieces o_noDrags o_code o_cellAt o_courseAt o_paceAt o_turnsAt o_slowAt o_fuelAt o_ringAt o_sums (upd o_shares v3.toNatClampNeg 0) (show (100 - x_48.toInt).toNat < n21 by omega) (show 0 ≤ x_48.toInt by omega) (show x_48.toInt ≤ 100 by omega) (show v2.toInt = 0 ∨ (v2.toInt = 1 ∧ ¬ o_all.toInt = 0) by omega)
        · skip
          have c_45 : ¬ v2.toInt = (0 : Int) := fun z => c_45 (i_eq.mpr z)
          have ix_49 : ¬ (v3 < 0 ∨ 100 ≤ v3.toNatClampNeg) := ix (show 0 ≤ v3.toInt by omega) (show v3.toInt < (100 : Nat) by omega)
          refine ok_chk ix_49 ?_
          refine ok_bd1 (s_X7_thousandths (o_sums v3.toNatClampNeg) o_all (show ¬ o_all.toInt = 0 by omega)) (fun r_50 q_51 => ?_)
          unfold f_X7_moved_B50
          refine ok_chk ix_49 ?_
          first | (have f_52 : (v3 + 1).toInt = v3.toInt + (1 : Int) := i_add2 rfl rfl (by omega) (by omega)) | skip
          refine ok_nmi (fun x_53 hx_53 kx_53 => ?_)
          exact ih21 v1 v2 x_53 o_level o_noRings o_noTones o_noFuel o_all o_noPieces o_noDrags o_code o_cellAt o_courseAt o_paceAt o_turnsAt o_slowAt o_fuelAt o_ringAt o_sums (upd o_shares v3.toNatClampNeg r_50) (show (100 - x_53.toInt).toNat < n21 by omega) (show 0 ≤ x_53.toInt by omega) (show x_53.toInt ≤ 100 by omega) (show v2.toInt = 0 ∨ (v2.toInt = 1 ∧ ¬ o_all.toInt = 0) by omega)
  unfold f_X7_moved
  refine ok_bd16 (s_X7_endsAsTold o_level o_noRings o_noTones o_noFuel o_pieces o_drags o_all o_noPieces o_noDrags o_sets o_ringFar o_ringTone o_currents o_warmths o_code o_cellAt o_courseAt o_paceAt o_turnsAt o_slowAt o_fuelAt o_ringAt o_pieceParts o_dragCell o_dragBy o_sums (by first | with_reducible assumption | with_reducible rfl | omega) (show 0 ≤ (o_pieces).toInt by omega) (show (o_pieces).toInt ≤ 4 by omega) (show 0 ≤ (o_drags).toInt by omega) (show (o_drags).toInt ≤ 4 by omega)) (fun w_54 w_55 w_56 w_57 w_58 w_59 w_60 w_61 w_62 w_63 w_64 w_65 w_66 w_67 w_68 w_69 q_70 => ?_)
  refine ok_ite (fun c_71 => ?_) (fun c_71 => ?_)
  · skip
    have c_71 : w_58.toInt ≤ (0 : Int) := j_le.mp ((lg_cmp_le _ _).mp c_71)
    unfold f_X7_moved_B18
    exact l21 FU x1 0 0 w_54 w_55 w_56 w_57 w_58 w_59 w_60 w_61 w_62 w_63 w_64 w_65 w_66 w_67 w_68 w_69 o_shares (FU_gt (show (100 - (0 : Int)).toNat < 1000000000000 by omega)) (show 0 ≤ (0 : Int) by omega) (show (0 : Int) ≤ 100 by omega) (show (0 : Int) = 0 ∨ ((0 : Int) = 1 ∧ ¬ w_58.toInt = 0) by omega)
  · skip
    have c_71 : ¬ w_58.toInt ≤ (0 : Int) := fun z => c_71 ((lg_cmp_le _ _).mpr (j_le.mpr z))
    unfold f_X7_moved_B18
    exact l21 FU x1 1 0 w_54 w_55 w_56 w_57 w_58 w_59 w_60 w_61 w_62 w_63 w_64 w_65 w_66 w_67 w_68 w_69 o_shares (FU_gt (show (100 - (0 : Int)).toNat < 1000000000000 by omega)) (show 0 ≤ (0 : Int) by omega) (show (0 : Int) ≤ 100 by omega) (show (1 : Int) = 0 ∨ ((1 : Int) = 1 ∧ ¬ w_58.toInt = 0) by omega)
set_option maxRecDepth 100000 in
set_option maxHeartbeats 4000000 in
theorem s_X7_moves (x1 : Int32) (o_level : Int32) (o_noRings : Int32) (o_noTones : Int32) (o_noFuel : Int32) (o_pieces : Int32) (o_drags : Int32) (o_all : Int64) (o_noPieces : Int32) (o_noDrags : Int32) (o_sets : Nat → Int32) (o_ringFar : Nat → Int32) (o_ringTone : Nat → Int32) (o_currents : Nat → Int32) (o_warmths : Nat → Int32) (o_code : Nat → Int32) (o_cellAt : Nat → Int32) (o_courseAt : Nat → Int32) (o_paceAt : Nat → Int32) (o_turnsAt : Nat → Int32) (o_slowAt : Nat → Int32) (o_fuelAt : Nat → Int32) (o_ringAt : Nat → Int32) (o_pieceParts : Nat → Int32) (o_dragCell : Nat → Int32) (o_dragBy : Nat → Int32) (o_sums : Nat → Int64) (o_shares : Nat → Int32) (h0 : SetOK o_sets) (h1 : 0 ≤ (o_pieces).toInt) (h2 : (o_pieces).toInt ≤ 4) (h3 : 0 ≤ (o_drags).toInt) (h4 : (o_drags).toInt ≤ 4) : okP (f_X7_moves x1 o_level o_noRings o_noTones o_noFuel o_pieces o_drags o_all o_noPieces o_noDrags o_sets o_ringFar o_ringTone o_currents o_warmths o_code o_cellAt o_courseAt o_paceAt o_turnsAt o_slowAt o_fuelAt o_ringAt o_pieceParts o_dragCell o_dragBy o_sums o_shares) (fun u => True) := by
  unfold f_X7_moves
  refine ok_bd1 (s_X7_isAssumption x1 o_pieces) (fun r_1 q_2 => ?_)
  replace q_2 : r_1.toInt = 0 ∨ (r_1.toInt = 1 ∧ 0 ≤ x1.toInt ∧ x1.toInt ≤ 12) := q_2
  refine ok_ite (fun c_3 => ?_) (fun c_3 => ?_)
  · skip
    have c_3 : r_1.toInt = (0 : Int) := i_eq.mp c_3
    exact ok_some trivial
  · skip
    have c_3 : ¬ r_1.toInt = (0 : Int) := fun z => c_3 (i_eq.mpr z)
    refine ok_bd18 (s_X7_moved x1 o_level o_noRings o_noTones o_noFuel o_pieces o_drags o_all o_noPieces o_noDrags o_sets o_ringFar o_ringTone o_currents o_warmths o_code o_cellAt o_courseAt o_paceAt o_turnsAt o_slowAt o_fuelAt o_ringAt o_pieceParts o_dragCell o_dragBy o_sums o_shares (by first | with_reducible assumption | with_reducible rfl | omega) (show 0 ≤ (o_pieces).toInt by omega) (show (o_pieces).toInt ≤ 4 by omega) (show 0 ≤ (o_drags).toInt by omega) (show (o_drags).toInt ≤ 4 by omega)) (fun r_4 w_5 w_6 w_7 w_8 w_9 w_10 w_11 w_12 w_13 w_14 w_15 w_16 w_17 w_18 w_19 w_20 w_21 q_22 => ?_)
    exact ok_some trivial
set_option maxRecDepth 100000 in
set_option maxHeartbeats 4000000 in
theorem s_X7_most (o_level : Int32) (o_noRings : Int32) (o_noTones : Int32) (o_noFuel : Int32) (o_pieces : Int32) (o_drags : Int32) (o_all : Int64) (o_noPieces : Int32) (o_noDrags : Int32) (o_sets : Nat → Int32) (o_ringFar : Nat → Int32) (o_ringTone : Nat → Int32) (o_currents : Nat → Int32) (o_warmths : Nat → Int32) (o_code : Nat → Int32) (o_cellAt : Nat → Int32) (o_courseAt : Nat → Int32) (o_paceAt : Nat → Int32) (o_turnsAt : Nat → Int32) (o_slowAt : Nat → Int32) (o_fuelAt : Nat → Int32) (o_ringAt : Nat → Int32) (o_pieceParts : Nat → Int32) (o_dragCell : Nat → Int32) (o_dragBy : Nat → Int32) (o_sums : Nat → Int64) (o_shares : Nat → Int32) (h0 : SetOK o_sets) (h1 : 0 ≤ (o_pieces).toInt) (h2 : (o_pieces).toInt ≤ 4) (h3 : 0 ≤ (o_drags).toInt) (h4 : (o_drags).toInt ≤ 4) : okP (f_X7_most o_level o_noRings o_noTones o_noFuel o_pieces o_drags o_all o_noPieces o_noDrags o_sets o_ringFar o_ringTone o_currents o_warmths o_code o_cellAt o_courseAt o_paceAt o_turnsAt o_slowAt o_fuelAt o_ringAt o_pieceParts o_dragCell o_dragBy o_sums o_shares) (fun u => True) := by
  have l6 : ∀ (n : Nat) (v1 : Int32) (v2 : Int32) (v3 : Int32) (o_level : Int32) (o_noRings : Int32) (o_noTones : Int32) (o_noFuel : Int32) (o_all : Int64) (o_noPieces : Int32) (o_noDrags : Int32) (o_code : Nat → Int32) (o_cellAt : Nat → Int32) (o_courseAt : Nat → Int32) (o_paceAt : Nat → Int32) (o_turnsAt : Nat → Int32) (o_slowAt : Nat → Int32) (o_fuelAt : Nat → Int32) (o_ringAt : Nat → Int32) (o_sums : Nat → Int64) (o_shares : Nat → Int32), (13 - v3.toInt).toNat < n → (0 ≤ v3.toInt) → (v3.toInt ≤ 13) → okP (f_X7_most_L6 n v1 v2 v3 o_level o_noRings o_noTones o_noFuel o_pieces o_drags o_all o_noPieces o_noDrags o_sets o_ringFar o_ringTone o_currents o_warmths o_code o_cellAt o_courseAt o_paceAt o_turnsAt o_slowAt o_fuelAt o_ringAt o_pieceParts o_dragCell o_dragBy o_sums o_shares) (fun u => True) := by
    intro n
    induction n with
    | zero =>
      intro v1 v2 v3 o_level o_noRings o_noTones o_noFuel o_all o_noPieces o_noDrags o_code o_cellAt o_courseAt o_paceAt o_turnsAt o_slowAt o_fuelAt o_ringAt o_sums o_shares hm
      exact absurd hm (Nat.not_lt_zero _)
    | succ n6 ih6 =>
      intro v1 v2 v3 o_level o_noRings o_noTones o_noFuel o_all o_noPieces o_noDrags o_code o_cellAt o_courseAt o_paceAt o_turnsAt o_slowAt o_fuelAt o_ringAt o_sums o_shares hm6 g6_0 g6_1
      show okP (f_X7_most_L6b (f_X7_most_L6 n6) v1 v2 v3 o_level o_noRings o_noTones o_noFuel o_pieces o_drags o_all o_noPieces o_noDrags o_sets o_ringFar o_ringTone o_currents o_warmths o_code o_cellAt o_courseAt o_paceAt o_turnsAt o_slowAt o_fuelAt o_ringAt o_pieceParts o_dragCell o_dragBy o_sums o_shares) (fun u => True)
      unfold f_X7_most_L6b
      refine ok_ite (fun c_1 => ?_) (fun c_1 => ?_)
      · skip
        have c_1 : (13 : Int) ≤ v3.toInt := i_le.mp c_1
        exact ok_some trivial
      · skip
        have c_1 : ¬ (13 : Int) ≤ v3.toInt := fun z => c_1 (i_le.mpr z)
        refine ok_bd1 (s_X7_isAssumption v3 o_pieces) (fun r_2 q_3 => ?_)
        replace q_3 : r_2.toInt = 0 ∨ (r_2.toInt = 1 ∧ 0 ≤ v3.toInt ∧ v3.toInt ≤ 12) := q_3
        refine ok_ite (fun c_4 => ?_) (fun c_4 => ?_)
        · skip
          have c_4 : r_2.toInt = (0 : Int) := i_eq.mp c_4
          unfold f_X7_most_B29
          refine ok_ite (fun c_5 => ?_) (fun c_5 => ?_)
          · skip
            have c_5 : (-1 : Int) ≤ v2.toInt := i_le.mp c_5
            unfold f_X7_most_B42
            refine ok_ite (fun c_6 => ?_) (fun c_6 => ?_)
            · skip
              have c_6 : (-1 : Int) ≤ v2.toInt := i_le.mp c_6
              unfold f_X7_most_B55
              first | (have f_7 : (v3 + 1).toInt = v3.toInt + (1 : Int) := i_add2 rfl rfl (by omega) (by omega)) | skip
              refine ok_nmi (fun x_8 hx_8 kx_8 => ?_)
              exact ih6 v1 v2 x_8 o_level o_noRings o_noTones o_noFuel o_all o_noPieces o_noDrags o_code o_cellAt o_courseAt o_paceAt o_turnsAt o_slowAt o_fuelAt o_ringAt o_sums o_shares (show (13 - x_8.toInt).toNat < n6 by omega) (show 0 ≤ x_8.toInt by omega) (show x_8.toInt ≤ 13 by omega)
            · skip
              have c_6 : ¬ (-1 : Int) ≤ v2.toInt := fun z => c_6 (i_le.mpr z)
              unfold f_X7_most_B55
              first | (have f_9 : (v3 + 1).toInt = v3.toInt + (1 : Int) := i_add2 rfl rfl (by omega) (by omega)) | skip
              refine ok_nmi (fun x_10 hx_10 kx_10 => ?_)
              exact ih6 v1 (-1) x_10 o_level o_noRings o_noTones o_noFuel o_all o_noPieces o_noDrags o_code o_cellAt o_courseAt o_paceAt o_turnsAt o_slowAt o_fuelAt o_ringAt o_sums o_shares (show (13 - x_10.toInt).toNat < n6 by omega) (show 0 ≤ x_10.toInt by omega) (show x_10.toInt ≤ 13 by omega)
          · skip
            have c_5 : ¬ (-1 : Int) ≤ v2.toInt := fun z => c_5 (i_le.mpr z)
            unfold f_X7_most_B42
            refine ok_ite (fun c_11 => ?_) (fun c_11 => ?_)
            · skip
              have c_11 : (-1 : Int) ≤ v2.toInt := i_le.mp c_11
              unfold f_X7_most_B55
              first | (have f_12 : (v3 + 1).toInt = v3.toInt + (1 : Int) := i_add2 rfl rfl (by omega) (by omega)) | skip
              refine ok_nmi (fun x_13 hx_13 kx_13 => ?_)
              exact ih6 v3 v2 x_13 o_level o_noRings o_noTones o_noFuel o_all o_noPieces o_noDrags o_code o_cellAt o_courseAt o_paceAt o_turnsAt o_slowAt o_fuelAt o_ringAt o_sums o_shares (show (13 - x_13.toInt).toNat < n6 by omega) (show 0 ≤ x_13.toInt by omega) (show x_13.toInt ≤ 13 by omega)
            · skip
              have c_11 : ¬ (-1 : Int) ≤ v2.toInt := fun z => c_11 (i_le.mpr z)
              unfold f_X7_most_B55
              first | (have f_14 : (v3 + 1).toInt = v3.toInt + (1 : Int) := i_add2 rfl rfl (by omega) (by omega)) | skip
              refine ok_nmi (fun x_15 hx_15 kx_15 => ?_)
              exact ih6 v3 (-1) x_15 o_level o_noRings o_noTones o_noFuel o_all o_noPieces o_noDrags o_code o_cellAt o_courseAt o_paceAt o_turnsAt o_slowAt o_fuelAt o_ringAt o_sums o_shares (show (13 - x_15.toInt).toNat < n6 by omega) (show 0 ≤ x_15.toInt by omega) (show x_15.toInt ≤ 13 by omega)
        · skip
          have c_4 : ¬ r_2.toInt = (0 : Int) := fun z => c_4 (i_eq.mpr z)
          refine ok_bd18 (s_X7_moved v3 o_level o_noRings o_noTones o_noFuel o_pieces o_drags o_all o_noPieces o_noDrags o_sets o_ringFar o_ringTone o_currents o_warmths o_code o_cellAt o_courseAt o_paceAt o_turnsAt o_slowAt o_fuelAt o_ringAt o_pieceParts o_dragCell o_dragBy o_sums o_shares (by first | with_reducible assumption | with_reducible rfl | omega) (show 0 ≤ (o_pieces).toInt by omega) (show (o_pieces).toInt ≤ 4 by omega) (show 0 ≤ (o_drags).toInt by omega) (show (o_drags).toInt ≤ 4 by omega)) (fun r_16 w_17 w_18 w_19 w_20 w_21 w_22 w_23 w_24 w_25 w_26 w_27 w_28 w_29 w_30 w_31 w_32 w_33 q_34 => ?_)
          unfold f_X7_most_B29
          refine ok_ite (fun c_35 => ?_) (fun c_35 => ?_)
          · skip
            have c_35 : r_16.toInt ≤ v2.toInt := i_le.mp c_35
            unfold f_X7_most_B42
            refine ok_ite (fun c_36 => ?_) (fun c_36 => ?_)
            · skip
              have c_36 : r_16.toInt ≤ v2.toInt := i_le.mp c_36
              unfold f_X7_most_B55
              first | (have f_37 : (v3 + 1).toInt = v3.toInt + (1 : Int) := i_add2 rfl rfl (by omega) (by omega)) | skip
              refine ok_nmi (fun x_38 hx_38 kx_38 => ?_)
              exact ih6 v1 v2 x_38 w_17 w_18 w_19 w_20 w_21 w_22 w_23 w_24 w_25 w_26 w_27 w_28 w_29 w_30 w_31 w_32 w_33 (show (13 - x_38.toInt).toNat < n6 by omega) (show 0 ≤ x_38.toInt by omega) (show x_38.toInt ≤ 13 by omega)
            · skip
              have c_36 : ¬ r_16.toInt ≤ v2.toInt := fun z => c_36 (i_le.mpr z)
              unfold f_X7_most_B55
              first | (have f_39 : (v3 + 1).toInt = v3.toInt + (1 : Int) := i_add2 rfl rfl (by omega) (by omega)) | skip
              refine ok_nmi (fun x_40 hx_40 kx_40 => ?_)
              exact ih6 v1 r_16 x_40 w_17 w_18 w_19 w_20 w_21 w_22 w_23 w_24 w_25 w_26 w_27 w_28 w_29 w_30 w_31 w_32 w_33 (show (13 - x_40.toInt).toNat < n6 by omega) (show 0 ≤ x_40.toInt by omega) (show x_40.toInt ≤ 13 by omega)
          · skip
            have c_35 : ¬ r_16.toInt ≤ v2.toInt := fun z => c_35 (i_le.mpr z)
            unfold f_X7_most_B42
            refine ok_ite (fun c_41 => ?_) (fun c_41 => ?_)
            · skip
              have c_41 : r_16.toInt ≤ v2.toInt := i_le.mp c_41
              unfold f_X7_most_B55
              first | (have f_42 : (v3 + 1).toInt = v3.toInt + (1 : Int) := i_add2 rfl rfl (by omega) (by omega)) | skip
              refine ok_nmi (fun x_43 hx_43 kx_43 => ?_)
              exact ih6 v3 v2 x_43 w_17 w_18 w_19 w_20 w_21 w_22 w_23 w_24 w_25 w_26 w_27 w_28 w_29 w_30 w_31 w_32 w_33 (show (13 - x_43.toInt).toNat < n6 by omega) (show 0 ≤ x_43.toInt by omega) (show x_43.toInt ≤ 13 by omega)
            · skip
              have c_41 : ¬ r_16.toInt ≤ v2.toInt := fun z => c_41 (i_le.mpr z)
              unfold f_X7_most_B55
              first | (have f_44 : (v3 + 1).toInt = v3.toInt + (1 : Int) := i_add2 rfl rfl (by omega) (by omega)) | skip
              refine ok_nmi (fun x_45 hx_45 kx_45 => ?_)
              exact ih6 v3 r_16 x_45 w_17 w_18 w_19 w_20 w_21 w_22 w_23 w_24 w_25 w_26 w_27 w_28 w_29 w_30 w_31 w_32 w_33 (show (13 - x_45.toInt).toNat < n6 by omega) (show 0 ≤ x_45.toInt by omega) (show x_45.toInt ≤ 13 by omega)
  unfold f_X7_most
  exact l6 FU 0 (-1) 0 o_level o_noRings o_noTones o_noFuel o_all o_noPieces o_noDrags o_code o_cellAt o_courseAt o_paceAt o_turnsAt o_slowAt o_fuelAt o_ringAt o_sums o_shares (FU_gt (show (13 - (0 : Int)).toNat < 1000000000000 by omega)) (show 0 ≤ (0 : Int) by omega) (show (0 : Int) ≤ 13 by omega)
set_option maxRecDepth 100000 in
set_option maxHeartbeats 4000000 in
theorem s_X7_next (o_level : Int32) (o_noRings : Int32) (o_noTones : Int32) (o_noFuel : Int32) (o_pieces : Int32) (o_drags : Int32) (o_all : Int64) (o_noPieces : Int32) (o_noDrags : Int32) (o_sets : Nat → Int32) (o_ringFar : Nat → Int32) (o_ringTone : Nat → Int32) (o_currents : Nat → Int32) (o_warmths : Nat → Int32) (o_depths : Nat → Int32) (o_code : Nat → Int32) (o_cellAt : Nat → Int32) (o_courseAt : Nat → Int32) (o_paceAt : Nat → Int32) (o_turnsAt : Nat → Int32) (o_slowAt : Nat → Int32) (o_fuelAt : Nat → Int32) (o_ringAt : Nat → Int32) (o_pieceParts : Nat → Int32) (o_dragCell : Nat → Int32) (o_dragBy : Nat → Int32) (o_sums : Nat → Int64) (h0 : SetOK o_sets) (h1 : 0 ≤ (o_pieces).toInt) (h2 : (o_pieces).toInt ≤ 4) (h3 : 0 ≤ (o_drags).toInt) (h4 : (o_drags).toInt ≤ 4) : okP (f_X7_next o_level o_noRings o_noTones o_noFuel o_pieces o_drags o_all o_noPieces o_noDrags o_sets o_ringFar o_ringTone o_currents o_warmths o_depths o_code o_cellAt o_courseAt o_paceAt o_turnsAt o_slowAt o_fuelAt o_ringAt o_pieceParts o_dragCell o_dragBy o_sums) (fun u => True) := by
  have l9 : ∀ (n : Nat) (v1 : Int32) (v2 : Int32) (o_level : Int32) (o_noRings : Int32) (o_noTones : Int32) (o_noFuel : Int32) (o_all : Int64) (o_noPieces : Int32) (o_noDrags : Int32) (o_code : Nat → Int32) (o_cellAt : Nat → Int32) (o_courseAt : Nat → Int32) (o_paceAt : Nat → Int32) (o_turnsAt : Nat → Int32) (o_slowAt : Nat → Int32) (o_fuelAt : Nat → Int32) (o_ringAt : Nat → Int32) (o_sums : Nat → Int64), (100 - v2.toInt).toNat < n → (0 ≤ v2.toInt) → (v2.toInt ≤ 100) → (v1.toInt ≤ 99) → okP (f_X7_next_L9 n v1 v2 o_level o_noRings o_noTones o_noFuel o_pieces o_drags o_all o_noPieces o_noDrags o_sets o_ringFar o_ringTone o_currents o_warmths o_depths o_code o_cellAt o_courseAt o_paceAt o_turnsAt o_slowAt o_fuelAt o_ringAt o_pieceParts o_dragCell o_dragBy o_sums) (fun u => True) := by
    intro n
    induction n with
    | zero =>
      intro v1 v2 o_level o_noRings o_noTones o_noFuel o_all o_noPieces o_noDrags o_code o_cellAt o_courseAt o_paceAt o_turnsAt o_slowAt o_fuelAt o_ringAt o_sums hm
      exact absurd hm (Nat.not_lt_zero _)
    | succ n9 ih9 =>
      have l35 : ∀ (n : Nat) (v1 : Int32) (v2 : Int32) (v3 : Int32) (v4 : Int32) (o_level : Int32) (o_noRings : Int32) (o_noTones : Int32) (o_noFuel : Int32) (o_all : Int64) (o_noPieces : Int32) (o_noDrags : Int32) (o_code : Nat → Int32) (o_cellAt : Nat → Int32) (o_courseAt : Nat → Int32) (o_paceAt : Nat → Int32) (o_turnsAt : Nat → Int32) (o_slowAt : Nat → Int32) (o_fuelAt : Nat → Int32) (o_ringAt : Nat → Int32) (o_sums : Nat → Int64), (4 - v4.toInt).toNat < n → (v1.toInt ≤ 99) → (0 ≤ (v2).toInt) → ((v2).toInt ≤ 99) → (v3.toInt = 0 ∨ v3.toInt = 1) → (0 ≤ (v4).toInt) → ((v4).toInt ≤ 4) → ((100 - v2.toInt).toNat < n9 + 1) → okP (f_X7_next_L35 (f_X7_next_L9 n9) n v1 v2 v3 v4 o_level o_noRings o_noTones o_noFuel o_pieces o_drags o_all o_noPieces o_noDrags o_sets o_ringFar o_ringTone o_currents o_warmths o_depths o_code o_cellAt o_courseAt o_paceAt o_turnsAt o_slowAt o_fuelAt o_ringAt o_pieceParts o_dragCell o_dragBy o_sums) (fun u => True) := by
        intro n
        induction n with
        | zero =>
          intro v1 v2 v3 v4 o_level o_noRings o_noTones o_noFuel o_all o_noPieces o_noDrags o_code o_cellAt o_courseAt o_paceAt o_turnsAt o_slowAt o_fuelAt o_ringAt o_sums hm
          exact absurd hm (Nat.not_lt_zero _)
        | succ n35 ih35 =>
          intro v1 v2 v3 v4 o_level o_noRings o_noTones o_noFuel o_all o_noPieces o_noDrags o_code o_cellAt o_courseAt o_paceAt o_turnsAt o_slowAt o_fuelAt o_ringAt o_sums hm35 g35_0 g35_1 g35_2 g35_3 g35_4 g35_5 g35_6
          show okP (f_X7_next_L35b (f_X7_next_L9 n9) (f_X7_next_L35 (f_X7_next_L9 n9) n35) v1 v2 v3 v4 o_level o_noRings o_noTones o_noFuel o_pieces o_drags o_all o_noPieces o_noDrags o_sets o_ringFar o_ringTone o_currents o_warmths o_depths o_code o_cellAt o_courseAt o_paceAt o_turnsAt o_slowAt o_fuelAt o_ringAt o_pieceParts o_dragCell o_dragBy o_sums) (fun u => True)
          unfold f_X7_next_L35b
          refine ok_ite (fun c_1 => ?_) (fun c_1 => ?_)
          · skip
            have c_1 : o_drags.toInt ≤ v4.toInt := i_le.mp c_1
            refine ok_ite (fun c_2 => ?_) (fun c_2 => ?_)
            · skip
              have c_2 : v3.toInt = (0 : Int) := i_eq.mp c_2
              unfold f_X7_next_B115
              unfold f_X7_next_B116
              first | (have f_3 : (v2 + 1).toInt = v2.toInt + (1 : Int) := i_add2 rfl rfl (by omega) (by omega)) | skip
              refine ok_nmi (fun x_4 hx_4 kx_4 => ?_)
              exact ih9 v1 x_4 o_level o_noRings o_noTones o_noFuel o_all o_noPieces o_noDrags o_code o_cellAt o_courseAt o_paceAt o_turnsAt o_slowAt o_fuelAt o_ringAt o_sums (show (100 - x_4.toInt).toNat < n9 by omega) (show 0 ≤ x_4.toInt by omega) (show x_4.toInt ≤ 100 by omega) (show v1.toInt ≤ 99 by omega)
            · skip
              have c_2 : ¬ v3.toInt = (0 : Int) := fun z => c_2 (i_eq.mpr z)
              refine ok_ite (fun c_5 => ?_) (fun c_5 => ?_)
              · skip
                have c_5 : v1.toInt < (0 : Int) := i_lt.mp c_5
                unfold f_X7_next_B111
                unfold f_X7_next_B116
                first | (have f_6 : (v2 + 1).toInt = v2.toInt + (1 : Int) := i_add2 rfl rfl (by omega) (by omega)) | skip
                refine ok_nmi (fun x_7 hx_7 kx_7 => ?_)
                exact ih9 v2 x_7 o_level o_noRings o_noTones o_noFuel o_all o_noPieces o_noDrags o_code o_cellAt o_courseAt o_paceAt o_turnsAt o_slowAt o_fuelAt o_ringAt o_sums (show (100 - x_7.toInt).toNat < n9 by omega) (show 0 ≤ x_7.toInt by omega) (show x_7.toInt ≤ 100 by omega) (show v2.toInt ≤ 99 by omega)
              · skip
                have c_5 : ¬ v1.toInt < (0 : Int) := fun z => c_5 (i_lt.mpr z)
                have ix_8 : ¬ (v2 < 0 ∨ 100 ≤ v2.toNatClampNeg) := ix (show 0 ≤ v2.toInt by omega) (show v2.toInt < (100 : Nat) by omega)
                refine ok_chk ix_8 ?_
                have ix_9 : ¬ (v1 < 0 ∨ 100 ≤ v1.toNatClampNeg) := ix (show 0 ≤ v1.toInt by omega) (show v1.toInt < (100 : Nat) by omega)
                refine ok_chk ix_9 ?_
                first | (have f_10 : ((o_depths v1.toNatClampNeg).toInt64).toInt = (o_depths v1.toNatClampNeg).toInt := j_i2l _) | skip
                refine ok_chk ix_9 ?_
                refine ok_chk ix_8 ?_
                first | (have f_11 : ((o_depths v2.toNatClampNeg).toInt64).toInt = (o_depths v2.toNatClampNeg).toInt := j_i2l _) | skip
                refine ok_ite (fun c_12 => ?_) (fun c_12 => ?_)
                · skip
                  have c_12 : ((o_sums v2.toNatClampNeg) * ((o_depths v1.toNatClampNeg).toInt64)).toInt ≤ ((o_sums v1.toNatClampNeg) * ((o_depths v2.toNatClampNeg).toInt64)).toInt := j_le.mp ((lg_cmp_le _ _).mp c_12)
                  unfold f_X7_next_B115
                  unfold f_X7_next_B116
                  first | (have f_13 : (v2 + 1).toInt = v2.toInt + (1 : Int) := i_add2 rfl rfl (by omega) (by omega)) | skip
                  refine ok_nmi (fun x_14 hx_14 kx_14 => ?_)
                  exact ih9 v1 x_14 o_level o_noRings o_noTones o_noFuel o_all o_noPieces o_noDrags o_code o_cellAt o_courseAt o_paceAt o_turnsAt o_slowAt o_fuelAt o_ringAt o_sums (show (100 - x_14.toInt).toNat < n9 by omega) (show 0 ≤ x_14.toInt by omega) (show x_14.toInt ≤ 100 by omega) (show v1.toInt ≤ 99 by omega)
                · skip
                  have c_12 : ¬ ((o_sums v2.toNatClampNeg) * ((o_depths v1.toNatClampNeg).toInt64)).toInt ≤ ((o_sums v1.toNatClampNeg) * ((o_depths v2.toNatClampNeg).toInt64)).toInt := fun z => c_12 ((lg_cmp_le _ _).mpr (j_le.mpr z))
                  unfold f_X7_next_B111
                  unfold f_X7_next_B116
                  first | (have f_15 : (v2 + 1).toInt = v2.toInt + (1 : Int) := i_add2 rfl rfl (by omega) (by omega)) | skip
                  refine ok_nmi (fun x_16 hx_16 kx_16 => ?_)
                  exact ih9 v2 x_16 o_level o_noRings o_noTones o_noFuel o_all o_noPieces o_noDrags o_code o_cellAt o_courseAt o_paceAt o_turnsAt o_slowAt o_fuelAt o_ringAt o_sums (show (100 - x_16.toInt).toNat < n9 by omega) (show 0 ≤ x_16.toInt by omega) (show x_16.toInt ≤ 100 by omega) (show v2.toInt ≤ 99 by omega)
          · skip
            have c_1 : ¬ o_drags.toInt ≤ v4.toInt := fun z => c_1 (i_le.mpr z)
            refine ok_ite (fun c_17 => ?_) (fun c_17 => ?_)
            · skip
              have c_17 : v3.toInt = (0 : Int) := i_eq.mp c_17
              unfold f_X7_next_B63
              unfold f_X7_next_B64
              first | (have f_18 : (v4 + 1).toInt = v4.toInt + (1 : Int) := i_add2 rfl rfl (by omega) (by omega)) | skip
              refine ok_nmi (fun x_19 hx_19 kx_19 => ?_)
              exact ih35 v1 v2 0 x_19 o_level o_noRings o_noTones o_noFuel o_all o_noPieces o_noDrags o_code o_cellAt o_courseAt o_paceAt o_turnsAt o_slowAt o_fuelAt o_ringAt o_sums (show (4 - x_19.toInt).toNat < n35 by omega) (show v1.toInt ≤ 99 by omega) (show 0 ≤ (v2).toInt by omega) (show (v2).toInt ≤ 99 by omega) (show (0 : Int) = 0 ∨ (0 : Int) = 1 by omega) (show 0 ≤ (x_19).toInt by omega) (show (x_19).toInt ≤ 4 by omega) (show (100 - v2.toInt).toNat < n9 + 1 by omega)
            · skip
              have c_17 : ¬ v3.toInt = (0 : Int) := fun z => c_17 (i_eq.mpr z)
              have ix_20 : ¬ (v4 < 0 ∨ 6 ≤ v4.toNatClampNeg) := ix (show 0 ≤ v4.toInt by omega) (show v4.toInt < (6 : Nat) by omega)
              refine ok_chk ix_20 ?_
              refine ok_ite (fun c_21 => ?_) (fun c_21 => ?_)
              · skip
                have c_21 : (o_dragCell v4.toNatClampNeg).toInt = v2.toInt := i_eq.mp c_21
                unfold f_X7_next_B63
                unfold f_X7_next_B64
                first | (have f_22 : (v4 + 1).toInt = v4.toInt + (1 : Int) := i_add2 rfl rfl (by omega) (by omega)) | skip
                refine ok_nmi (fun x_23 hx_23 kx_23 => ?_)
                exact ih35 v1 v2 0 x_23 o_level o_noRings o_noTones o_noFuel o_all o_noPieces o_noDrags o_code o_cellAt o_courseAt o_paceAt o_turnsAt o_slowAt o_fuelAt o_ringAt o_sums (show (4 - x_23.toInt).toNat < n35 by omega) (show v1.toInt ≤ 99 by omega) (show 0 ≤ (v2).toInt by omega) (show (v2).toInt ≤ 99 by omega) (show (0 : Int) = 0 ∨ (0 : Int) = 1 by omega) (show 0 ≤ (x_23).toInt by omega) (show (x_23).toInt ≤ 4 by omega) (show (100 - v2.toInt).toNat < n9 + 1 by omega)
              · skip
                have c_21 : ¬ (o_dragCell v4.toNatClampNeg).toInt = v2.toInt := fun z => c_21 (i_eq.mpr z)
                unfold f_X7_next_B64
                first | (have f_24 : (v4 + 1).toInt = v4.toInt + (1 : Int) := i_add2 rfl rfl (by omega) (by omega)) | skip
                refine ok_nmi (fun x_25 hx_25 kx_25 => ?_)
                exact ih35 v1 v2 1 x_25 o_level o_noRings o_noTones o_noFuel o_all o_noPieces o_noDrags o_code o_cellAt o_courseAt o_paceAt o_turnsAt o_slowAt o_fuelAt o_ringAt o_sums (show (4 - x_25.toInt).toNat < n35 by omega) (show v1.toInt ≤ 99 by omega) (show 0 ≤ (v2).toInt by omega) (show (v2).toInt ≤ 99 by omega) (show (1 : Int) = 0 ∨ (1 : Int) = 1 by omega) (show 0 ≤ (x_25).toInt by omega) (show (x_25).toInt ≤ 4 by omega) (show (100 - v2.toInt).toNat < n9 + 1 by omega)
      intro v1 v2 o_level o_noRings o_noTones o_noFuel o_all o_noPieces o_noDrags o_code o_cellAt o_courseAt o_paceAt o_turnsAt o_slowAt o_fuelAt o_ringAt o_sums hm9 g9_0 g9_1 g9_2
      show okP (f_X7_next_L9b (f_X7_next_L9 n9) v1 v2 o_level o_noRings o_noTones o_noFuel o_pieces o_drags o_all o_noPieces o_noDrags o_sets o_ringFar o_ringTone o_currents o_warmths o_depths o_code o_cellAt o_courseAt o_paceAt o_turnsAt o_slowAt o_fuelAt o_ringAt o_pieceParts o_dragCell o_dragBy o_sums) (fun u => True)
      unfold f_X7_next_L9b
      refine ok_ite (fun c_26 => ?_) (fun c_26 => ?_)
      · skip
        have c_26 : (100 : Int) ≤ v2.toInt := i_le.mp c_26
        exact ok_some trivial
      · skip
        have c_26 : ¬ (100 : Int) ≤ v2.toInt := fun z => c_26 (i_le.mpr z)
        have ix_27 : ¬ (v2 < 0 ∨ 100 ≤ v2.toNatClampNeg) := ix (show 0 ≤ v2.toInt by omega) (show v2.toInt < (100 : Nat) by omega)
        refine ok_chk ix_27 ?_
        refine ok_ite (fun c_28 => ?_) (fun c_28 => ?_)
        · skip
          have c_28 : (o_sums v2.toNatClampNeg).toInt ≤ (0 : Int) := j_le.mp ((lg_cmp_le _ _).mp c_28)
          unfold f_X7_next_B31
          exact l35 FU v1 v2 0 0 o_level o_noRings o_noTones o_noFuel o_all o_noPieces o_noDrags o_code o_cellAt o_courseAt o_paceAt o_turnsAt o_slowAt o_fuelAt o_ringAt o_sums (FU_gt (show (4 - (0 : Int)).toNat < 1000000000000 by omega)) (show v1.toInt ≤ 99 by omega) (show 0 ≤ (v2).toInt by omega) (show (v2).toInt ≤ 99 by omega) (show (0 : Int) = 0 ∨ (0 : Int) = 1 by omega) (show 0 ≤ (0 : Int) by omega) (show (0 : Int) ≤ 4 by omega) (show (100 - v2.toInt).toNat < n9 + 1 by omega)
        · skip
          have c_28 : ¬ (o_sums v2.toNatClampNeg).toInt ≤ (0 : Int) := fun z => c_28 ((lg_cmp_le _ _).mpr (j_le.mpr z))
          unfold f_X7_next_B31
          exact l35 FU v1 v2 1 0 o_level o_noRings o_noTones o_noFuel o_all o_noPieces o_noDrags o_code o_cellAt o_courseAt o_paceAt o_turnsAt o_slowAt o_fuelAt o_ringAt o_sums (FU_gt (show (4 - (0 : Int)).toNat < 1000000000000 by omega)) (show v1.toInt ≤ 99 by omega) (show 0 ≤ (v2).toInt by omega) (show (v2).toInt ≤ 99 by omega) (show (1 : Int) = 0 ∨ (1 : Int) = 1 by omega) (show 0 ≤ (0 : Int) by omega) (show (0 : Int) ≤ 4 by omega) (show (100 - v2.toInt).toNat < n9 + 1 by omega)
  unfold f_X7_next
  refine ok_bd16 (s_X7_endsAsTold o_level o_noRings o_noTones o_noFuel o_pieces o_drags o_all o_noPieces o_noDrags o_sets o_ringFar o_ringTone o_currents o_warmths o_code o_cellAt o_courseAt o_paceAt o_turnsAt o_slowAt o_fuelAt o_ringAt o_pieceParts o_dragCell o_dragBy o_sums (by first | with_reducible assumption | with_reducible rfl | omega) (show 0 ≤ (o_pieces).toInt by omega) (show (o_pieces).toInt ≤ 4 by omega) (show 0 ≤ (o_drags).toInt by omega) (show (o_drags).toInt ≤ 4 by omega)) (fun w_29 w_30 w_31 w_32 w_33 w_34 w_35 w_36 w_37 w_38 w_39 w_40 w_41 w_42 w_43 w_44 q_45 => ?_)
  exact l9 FU (-4) 0 w_29 w_30 w_31 w_32 w_33 w_34 w_35 w_36 w_37 w_38 w_39 w_40 w_41 w_42 w_43 w_44 (FU_gt (show (100 - (0 : Int)).toNat < 1000000000000 by omega)) (show 0 ≤ (0 : Int) by omega) (show (0 : Int) ≤ 100 by omega) (show (-4 : Int) ≤ 99 by omega)
set_option maxRecDepth 100000 in
set_option maxHeartbeats 4000000 in
theorem s_X7_should (x1 : Int32) (x2 : Int32) (x3 : Int32) (x4 : Int32) (o_level : Int32) (o_noRings : Int32) (o_noTones : Int32) (o_noFuel : Int32) (o_pieces : Int32) (o_drags : Int32) (o_all : Int64) (o_noPieces : Int32) (o_noDrags : Int32) (o_sets : Nat → Int32) (o_ringFar : Nat → Int32) (o_ringTone : Nat → Int32) (o_currents : Nat → Int32) (o_warmths : Nat → Int32) (o_code : Nat → Int32) (o_cellAt : Nat → Int32) (o_courseAt : Nat → Int32) (o_paceAt : Nat → Int32) (o_turnsAt : Nat → Int32) (o_slowAt : Nat → Int32) (o_fuelAt : Nat → Int32) (o_ringAt : Nat → Int32) (o_pieceParts : Nat → Int32) (o_dragCell : Nat → Int32) (o_dragBy : Nat → Int32) (o_sums : Nat → Int64) (h0 : SetOK o_sets) (h1 : 0 ≤ (o_pieces).toInt) (h2 : (o_pieces).toInt ≤ 4) (h3 : 0 ≤ (o_drags).toInt) (h4 : (o_drags).toInt ≤ 4) : okP (f_X7_should x1 x2 x3 x4 o_level o_noRings o_noTones o_noFuel o_pieces o_drags o_all o_noPieces o_noDrags o_sets o_ringFar o_ringTone o_currents o_warmths o_code o_cellAt o_courseAt o_paceAt o_turnsAt o_slowAt o_fuelAt o_ringAt o_pieceParts o_dragCell o_dragBy o_sums) (fun u => True) := by
  have l67 : ∀ (n : Nat) (v1 : Int32) (v2 : Int32) (v3 : Int32) (v4 : Int32) (v5 : Int64) (v7 : Int32) (o_level : Int32) (o_noRings : Int32) (o_noTones : Int32) (o_noFuel : Int32) (o_all : Int64) (o_noPieces : Int32) (o_noDrags : Int32) (o_code : Nat → Int32) (o_cellAt : Nat → Int32) (o_courseAt : Nat → Int32) (o_paceAt : Nat → Int32) (o_turnsAt : Nat → Int32) (o_slowAt : Nat → Int32) (o_fuelAt : Nat → Int32) (o_ringAt : Nat → Int32) (o_sums : Nat → Int64), (100 - v7.toInt).toNat < n → (0 ≤ v7.toInt) → (v7.toInt ≤ 100) → (¬ o_all.toInt = 0) → okP (f_X7_should_L67 n v1 v2 v3 v4 v5 v7 o_level o_noRings o_noTones o_noFuel o_pieces o_drags o_all o_noPieces o_noDrags o_sets o_ringFar o_ringTone o_currents o_warmths o_code o_cellAt o_courseAt o_paceAt o_turnsAt o_slowAt o_fuelAt o_ringAt o_pieceParts o_dragCell o_dragBy o_sums) (fun u => True) := by
    intro n
    induction n with
    | zero =>
      intro v1 v2 v3 v4 v5 v7 o_level o_noRings o_noTones o_noFuel o_all o_noPieces o_noDrags o_code o_cellAt o_courseAt o_paceAt o_turnsAt o_slowAt o_fuelAt o_ringAt o_sums hm
      exact absurd hm (Nat.not_lt_zero _)
    | succ n67 ih67 =>
      intro v1 v2 v3 v4 v5 v7 o_level o_noRings o_noTones o_noFuel o_all o_noPieces o_noDrags o_code o_cellAt o_courseAt o_paceAt o_turnsAt o_slowAt o_fuelAt o_ringAt o_sums hm67 g67_0 g67_1 g67_2
      show okP (f_X7_should_L67b (f_X7_should_L67 n67) v1 v2 v3 v4 v5 v7 o_level o_noRings o_noTones o_noFuel o_pieces o_drags o_all o_noPieces o_noDrags o_sets o_ringFar o_ringTone o_currents o_warmths o_code o_cellAt o_courseAt o_paceAt o_turnsAt o_slowAt o_fuelAt o_ringAt o_pieceParts o_dragCell o_dragBy o_sums) (fun u => True)
      unfold f_X7_should_L67b
      refine ok_ite (fun c_1 => ?_) (fun c_1 => ?_)
      · skip
        have c_1 : (100 : Int) ≤ v7.toInt := i_le.mp c_1
        refine ok_bd1 (s_X7_lowest v5 o_all v4 (show ¬ o_all.toInt = 0 by omega)) (fun r_2 q_3 => ?_)
        exact ok_some trivial
      · skip
        have c_1 : ¬ (100 : Int) ≤ v7.toInt := fun z => c_1 (i_le.mpr z)
        have ix_4 : ¬ (v7 < 0 ∨ 100 ≤ v7.toNatClampNeg) := ix (show 0 ≤ v7.toInt by omega) (show v7.toInt < (100 : Nat) by omega)
        refine ok_chk ix_4 ?_
        refine ok_ite (fun c_5 => ?_) (fun c_5 => ?_)
        · skip
          have c_5 : (o_sums v7.toNatClampNeg).toInt ≤ (0 : Int) := j_le.mp ((lg_cmp_le _ _).mp c_5)
          unfold f_X7_should_B110
          unfold f_X7_should_B111
          first | (have f_6 : (v5 + 0).toInt = v5.toInt + (0 : Int) := j_add2 rfl rfl (by omega) (by omega)) | skip
          refine ok_nmj (fun x_7 hx_7 kx_7 => ?_)
          first | (have f_8 : (v7 + 1).toInt = v7.toInt + (1 : Int) := i_add2 rfl rfl (by omega) (by omega)) | skip
          refine ok_nmi (fun x_9 hx_9 kx_9 => ?_)
          exact ih67 v1 v2 v3 v4 x_7 x_9 o_level o_noRings o_noTones o_noFuel o_all o_noPieces o_noDrags o_code o_cellAt o_courseAt o_paceAt o_turnsAt o_slowAt o_fuelAt o_ringAt o_sums (show (100 - x_9.toInt).toNat < n67 by omega) (show 0 ≤ x_9.toInt by omega) (show x_9.toInt ≤ 100 by omega) (show ¬ o_all.toInt = 0 by omega)
        · skip
          have c_5 : ¬ (o_sums v7.toNatClampNeg).toInt ≤ (0 : Int) := fun z => c_5 ((lg_cmp_le _ _).mpr (j_le.mpr z))
          refine ok_bd1 (s_X7_driftTo v7 v2 v3 o_sets o_currents (show 0 ≤ (v7).toInt by omega) (show (v7).toInt ≤ 99 by omega)) (fun r_10 q_11 => ?_)
          obtain ⟨q_11_0, q_11_1⟩ : (0 ≤ r_10.toInt) ∧ (r_10.toInt ≤ 99) := q_11
          refine ok_ite (fun c_12 => ?_) (fun c_12 => ?_)
          · skip
            have c_12 : r_10.toInt = v1.toInt := i_eq.mp c_12
            refine ok_chk ix_4 ?_
            unfold f_X7_should_B111
            first | (have f_13 : (v5 + (o_sums v7.toNatClampNeg)).toInt = v5.toInt + (o_sums v7.toNatClampNeg).toInt := j_add2 rfl rfl (by omega) (by omega)) | skip
            refine ok_nmj (fun x_14 hx_14 kx_14 => ?_)
            first | (have f_15 : (v7 + 1).toInt = v7.toInt + (1 : Int) := i_add2 rfl rfl (by omega) (by omega)) | skip
            refine ok_nmi (fun x_16 hx_16 kx_16 => ?_)
            exact ih67 v1 v2 v3 v4 x_14 x_16 o_level o_noRings o_noTones o_noFuel o_all o_noPieces o_noDrags o_code o_cellAt o_courseAt o_paceAt o_turnsAt o_slowAt o_fuelAt o_ringAt o_sums (show (100 - x_16.toInt).toNat < n67 by omega) (show 0 ≤ x_16.toInt by omega) (show x_16.toInt ≤ 100 by omega) (show ¬ o_all.toInt = 0 by omega)
          · skip
            have c_12 : ¬ r_10.toInt = v1.toInt := fun z => c_12 (i_eq.mpr z)
            unfold f_X7_should_B110
            unfold f_X7_should_B111
            first | (have f_17 : (v5 + 0).toInt = v5.toInt + (0 : Int) := j_add2 rfl rfl (by omega) (by omega)) | skip
            refine ok_nmj (fun x_18 hx_18 kx_18 => ?_)
            first | (have f_19 : (v7 + 1).toInt = v7.toInt + (1 : Int) := i_add2 rfl rfl (by omega) (by omega)) | skip
            refine ok_nmi (fun x_20 hx_20 kx_20 => ?_)
            exact ih67 v1 v2 v3 v4 x_18 x_20 o_level o_noRings o_noTones o_noFuel o_all o_noPieces o_noDrags o_code o_cellAt o_courseAt o_paceAt o_turnsAt o_slowAt o_fuelAt o_ringAt o_sums (show (100 - x_20.toInt).toNat < n67 by omega) (show 0 ≤ x_20.toInt by omega) (show x_20.toInt ≤ 100 by omega) (show ¬ o_all.toInt = 0 by omega)
  unfold f_X7_should
  refine ok_bd1 (s_X7_isCell x1) (fun r_21 q_22 => ?_)
  replace q_22 : (r_21.toInt = 1 ∧ 0 ≤ x1.toInt ∧ x1.toInt < 100) ∨ (r_21.toInt = 0 ∧ (x1.toInt < 0 ∨ 100 ≤ x1.toInt)) := q_22
  refine ok_ite (fun c_23 => ?_) (fun c_23 => ?_)
  · skip
    have c_23 : r_21.toInt = (0 : Int) := i_eq.mp c_23
    replace q_22 : (x1.toInt < 0 ∨ 100 ≤ x1.toInt) := by omega
    exact ok_some trivial
  · skip
    have c_23 : ¬ r_21.toInt = (0 : Int) := fun z => c_23 (i_eq.mpr z)
    replace q_22 : 0 ≤ x1.toInt ∧ x1.toInt < 100 := by omega
    first | (have f_24 : (x2.toInt64).toInt = x2.toInt := j_i2l _) | skip
    refine ok_bd1 (s_X7_in x2.toInt64 0 24) (fun r_25 q_26 => ?_)
    replace q_26 : (r_25.toInt = 1 ∧ (0 : Int) ≤ x2.toInt64.toInt ∧ x2.toInt64.toInt ≤ (24 : Int)) ∨ (r_25.toInt = 0 ∧ (x2.toInt64.toInt < (0 : Int) ∨ (24 : Int) < x2.toInt64.toInt)) := q_26
    refine ok_ite (fun c_27 => ?_) (fun c_27 => ?_)
    · skip
      have c_27 : r_25.toInt = (0 : Int) := i_eq.mp c_27
      replace q_26 : (x2.toInt64.toInt < (0 : Int) ∨ (24 : Int) < x2.toInt64.toInt) := by omega
      exact ok_some trivial
    · skip
      have c_27 : ¬ r_25.toInt = (0 : Int) := fun z => c_27 (i_eq.mpr z)
      replace q_26 : (0 : Int) ≤ x2.toInt64.toInt ∧ x2.toInt64.toInt ≤ (24 : Int) := by omega
      first | (have f_28 : (x3.toInt64).toInt = x3.toInt := j_i2l _) | skip
      refine ok_bd1 (s_X7_in x3.toInt64 0 1) (fun r_29 q_30 => ?_)
      replace q_30 : (r_29.toInt = 1 ∧ (0 : Int) ≤ x3.toInt64.toInt ∧ x3.toInt64.toInt ≤ (1 : Int)) ∨ (r_29.toInt = 0 ∧ (x3.toInt64.toInt < (0 : Int) ∨ (1 : Int) < x3.toInt64.toInt)) := q_30
      refine ok_ite (fun c_31 => ?_) (fun c_31 => ?_)
      · skip
        have c_31 : r_29.toInt = (0 : Int) := i_eq.mp c_31
        replace q_30 : (x3.toInt64.toInt < (0 : Int) ∨ (1 : Int) < x3.toInt64.toInt) := by omega
        exact ok_some trivial
      · skip
        have c_31 : ¬ r_29.toInt = (0 : Int) := fun z => c_31 (i_eq.mpr z)
        replace q_30 : (0 : Int) ≤ x3.toInt64.toInt ∧ x3.toInt64.toInt ≤ (1 : Int) := by omega
        first | (have f_32 : (x4.toInt64).toInt = x4.toInt := j_i2l _) | skip
        refine ok_bd1 (s_X7_in x4.toInt64 0 1) (fun r_33 q_34 => ?_)
        replace q_34 : (r_33.toInt = 1 ∧ (0 : Int) ≤ x4.toInt64.toInt ∧ x4.toInt64.toInt ≤ (1 : Int)) ∨ (r_33.toInt = 0 ∧ (x4.toInt64.toInt < (0 : Int) ∨ (1 : Int) < x4.toInt64.toInt)) := q_34
        refine ok_ite (fun c_35 => ?_) (fun c_35 => ?_)
        · skip
          have c_35 : r_33.toInt = (0 : Int) := i_eq.mp c_35
          replace q_34 : (x4.toInt64.toInt < (0 : Int) ∨ (1 : Int) < x4.toInt64.toInt) := by omega
          exact ok_some trivial
        · skip
          have c_35 : ¬ r_33.toInt = (0 : Int) := fun z => c_35 (i_eq.mpr z)
          replace q_34 : (0 : Int) ≤ x4.toInt64.toInt ∧ x4.toInt64.toInt ≤ (1 : Int) := by omega
          refine ok_bd16 (s_X7_endsAsTold o_level o_noRings o_noTones o_noFuel o_pieces o_drags o_all o_noPieces o_noDrags o_sets o_ringFar o_ringTone o_currents o_warmths o_code o_cellAt o_courseAt o_paceAt o_turnsAt o_slowAt o_fuelAt o_ringAt o_pieceParts o_dragCell o_dragBy o_sums (by first | with_reducible assumption | with_reducible rfl | omega) (show 0 ≤ (o_pieces).toInt by omega) (show (o_pieces).toInt ≤ 4 by omega) (show 0 ≤ (o_drags).toInt by omega) (show (o_drags).toInt ≤ 4 by omega)) (fun w_36 w_37 w_38 w_39 w_40 w_41 w_42 w_43 w_44 w_45 w_46 w_47 w_48 w_49 w_50 w_51 q_52 => ?_)
          refine ok_ite (fun c_53 => ?_) (fun c_53 => ?_)
          · skip
            have c_53 : w_40.toInt = (0 : Int) := j_eq.mp ((lg_cmp_eq _ _).mp c_53)
            exact ok_some trivial
          · skip
            have c_53 : ¬ w_40.toInt = (0 : Int) := fun z => c_53 ((lg_cmp_eq _ _).mpr (j_eq.mpr z))
            exact l67 FU x1 x2 x3 x4 0 0 w_36 w_37 w_38 w_39 w_40 w_41 w_42 w_43 w_44 w_45 w_46 w_47 w_48 w_49 w_50 w_51 (FU_gt (show (100 - (0 : Int)).toNat < 1000000000000 by omega)) (show 0 ≤ (0 : Int) by omega) (show (0 : Int) ≤ 100 by omega) (show ¬ w_40.toInt = 0 by omega)
set_option maxRecDepth 100000 in
set_option maxHeartbeats 4000000 in
theorem s_X7_isKnown (x1 : Int32) (o_level : Int32) (o_noRings : Int32) (o_noTones : Int32) (o_noFuel : Int32) (o_sets : Nat → Int32) (o_ringFar : Nat → Int32) (o_ringTone : Nat → Int32) (o_code : Nat → Int32) (o_cellAt : Nat → Int32) (o_courseAt : Nat → Int32) (o_paceAt : Nat → Int32) (o_turnsAt : Nat → Int32) (o_slowAt : Nat → Int32) (o_fuelAt : Nat → Int32) (o_ringAt : Nat → Int32) (o_items : Nat → Int32) (h0 : SetOK o_sets) (h1 : 0 ≤ x1.toInt) (h2 : x1.toInt + (o_sets 2).toInt ≤ 63) : okP (f_X7_isKnown x1 o_level o_noRings o_noTones o_noFuel o_sets o_ringFar o_ringTone o_code o_cellAt o_courseAt o_paceAt o_turnsAt o_slowAt o_fuelAt o_ringAt o_items) (fun u => (u.1.toInt = 0 ∨ u.1.toInt = 1) ∧ (u.1.toInt = 1 → Kn o_sets o_items x1.toInt)) := by
  obtain ⟨s0a, s0b, s1a, s1b, s2a, s2b, s3a, s3b, s4a, s4b, s5a, s5b, s6a, s6b, s7a, s7b⟩ := id h0
  have l16 : ∀ (n : Nat) (v1 : Int32) (v2 : Int32) (o_level : Int32) (o_noRings : Int32) (o_noTones : Int32) (o_noFuel : Int32) (o_code : Nat → Int32) (o_cellAt : Nat → Int32) (o_courseAt : Nat → Int32) (o_paceAt : Nat → Int32) (o_turnsAt : Nat → Int32) (o_slowAt : Nat → Int32) (o_fuelAt : Nat → Int32) (o_ringAt : Nat → Int32), wm o_level o_code < n → (WI o_level o_sets o_code o_cellAt) → (v1.toInt = x1.toInt) → (v2.toInt = 0 ∨ v2.toInt = 1) → (v2.toInt = 1 → Kn o_sets o_items x1.toInt) → okP (f_X7_isKnown_L16 n v1 v2 o_level o_noRings o_noTones o_noFuel o_sets o_ringFar o_ringTone o_code o_cellAt o_courseAt o_paceAt o_turnsAt o_slowAt o_fuelAt o_ringAt o_items) (fun u => (u.1.toInt = 0 ∨ u.1.toInt = 1) ∧ (u.1.toInt = 1 → Kn o_sets o_items x1.toInt)) := by
    intro n
    induction n with
    | zero =>
      intro v1 v2 o_level o_noRings o_noTones o_noFuel o_code o_cellAt o_courseAt o_paceAt o_turnsAt o_slowAt o_fuelAt o_ringAt hm
      exact absurd hm (Nat.not_lt_zero _)
    | succ n16 ih16 =>
      have l31 : ∀ (n : Nat) (v1 : Int32) (v2 : Int32) (v3 : Int32) (o_level : Int32) (o_noRings : Int32) (o_noTones : Int32) (o_noFuel : Int32) (o_code : Nat → Int32) (o_cellAt : Nat → Int32) (o_courseAt : Nat → Int32) (o_paceAt : Nat → Int32) (o_turnsAt : Nat → Int32) (o_slowAt : Nat → Int32) (o_fuelAt : Nat → Int32) (o_ringAt : Nat → Int32), (7 - v3.toInt).toNat < n → (WI o_level o_sets o_code o_cellAt) → (o_level.toInt = (o_sets 2).toInt) → (wm o_level o_code < n16) → (v1.toInt = x1.toInt) → (v2.toInt = 0 ∨ v2.toInt = 1) → (0 ≤ v3.toInt) → (v3.toInt ≤ (o_sets 2).toInt + 1) → (v2.toInt = 1 → KnT o_items o_cellAt v1.toInt v3.toInt) → okP (f_X7_isKnown_L31 (f_X7_isKnown_L16 n16) n v1 v2 v3 o_level o_noRings o_noTones o_noFuel o_sets o_ringFar o_ringTone o_code o_cellAt o_courseAt o_paceAt o_turnsAt o_slowAt o_fuelAt o_ringAt o_items) (fun u => (u.1.toInt = 0 ∨ u.1.toInt = 1) ∧ (u.1.toInt = 1 → Kn o_sets o_items x1.toInt)) := by
        intro n
        induction n with
        | zero =>
          intro v1 v2 v3 o_level o_noRings o_noTones o_noFuel o_code o_cellAt o_courseAt o_paceAt o_turnsAt o_slowAt o_fuelAt o_ringAt hm
          exact absurd hm (Nat.not_lt_zero _)
        | succ n31 ih31 =>
          intro v1 v2 v3 o_level o_noRings o_noTones o_noFuel o_code o_cellAt o_courseAt o_paceAt o_turnsAt o_slowAt o_fuelAt o_ringAt hm31 g31_0 g31_1 g31_2 g31_3 g31_4 g31_5 g31_6 g31_7
          show okP (f_X7_isKnown_L31b (f_X7_isKnown_L16 n16) (f_X7_isKnown_L31 (f_X7_isKnown_L16 n16) n31) v1 v2 v3 o_level o_noRings o_noTones o_noFuel o_sets o_ringFar o_ringTone o_code o_cellAt o_courseAt o_paceAt o_turnsAt o_slowAt o_fuelAt o_ringAt o_items) (fun u => (u.1.toInt = 0 ∨ u.1.toInt = 1) ∧ (u.1.toInt = 1 → Kn o_sets o_items x1.toInt))
          unfold f_X7_isKnown_L31b
          refine ok_ite (fun c_1 => ?_) (fun c_1 => ?_)
          · skip
            have c_1 : (o_sets 2).toInt < v3.toInt := i_lt.mp c_1
            exact ih16 v1 v2 o_level o_noRings o_noTones o_noFuel o_code o_cellAt o_courseAt o_paceAt o_turnsAt o_slowAt o_fuelAt o_ringAt (show wm o_level o_code < n16 by omega) (by first | with_reducible assumption | with_reducible rfl | exact fun z => absurd z (by omega) | exact fun _ => KnT_0 | exact fun _ => KnT_step (g31_7 (by omega)) (by omega) (by omega) (by omega) (by omega) | exact fun z => g31_3 ▸ Kn_of g31_0 g31_1 (g31_7 z) (by omega) | omega) (show v1.toInt = x1.toInt by first | omega | exact fun z => absurd z (by omega) | exact fun _ => KnT_0 | exact fun _ => KnT_step (g31_7 (by omega)) (by omega) (by omega) (by omega) (by omega) | exact fun z => g31_3 ▸ Kn_of g31_0 g31_1 (g31_7 z) (by omega)) (show v2.toInt = 0 ∨ v2.toInt = 1 by first | omega | exact fun z => absurd z (by omega) | exact fun _ => KnT_0 | exact fun _ => KnT_step (g31_7 (by omega)) (by omega) (by omega) (by omega) (by omega) | exact fun z => g31_3 ▸ Kn_of g31_0 g31_1 (g31_7 z) (by omega)) (by first | with_reducible assumption | with_reducible rfl | exact fun z => absurd z (by omega) | exact fun _ => KnT_0 | exact fun _ => KnT_step (g31_7 (by omega)) (by omega) (by omega) (by omega) (by omega) | exact fun z => g31_3 ▸ Kn_of g31_0 g31_1 (g31_7 z) (by omega) | omega)
          · skip
            have c_1 : ¬ (o_sets 2).toInt < v3.toInt := fun z => c_1 (i_lt.mpr z)
            refine ok_ite (fun c_2 => ?_) (fun c_2 => ?_)
            · skip
              have c_2 : v2.toInt = (0 : Int) := i_eq.mp c_2
              unfold f_X7_isKnown_B66
              unfold f_X7_isKnown_B67
              first | (have f_3 : (v3 + 1).toInt = v3.toInt + (1 : Int) := i_add2 rfl rfl (by omega) (by omega)) | skip
              refine ok_nmi (fun x_4 hx_4 kx_4 => ?_)
              exact ih31 v1 0 x_4 o_level o_noRings o_noTones o_noFuel o_code o_cellAt o_courseAt o_paceAt o_turnsAt o_slowAt o_fuelAt o_ringAt (show (7 - x_4.toInt).toNat < n31 by omega) (by first | with_reducible assumption | with_reducible rfl | exact fun z => absurd z (by omega) | exact fun _ => KnT_0 | exact fun _ => KnT_step (g31_7 (by omega)) (by omega) (by omega) (by omega) (by omega) | exact fun z => g31_3 ▸ Kn_of g31_0 g31_1 (g31_7 z) (by omega) | omega) (show o_level.toInt = (o_sets 2).toInt by first | omega | exact fun z => absurd z (by omega) | exact fun _ => KnT_0 | exact fun _ => KnT_step (g31_7 (by omega)) (by omega) (by omega) (by omega) (by omega) | exact fun z => g31_3 ▸ Kn_of g31_0 g31_1 (g31_7 z) (by omega)) (show wm o_level o_code < n16 by first | omega | exact fun z => absurd z (by omega) | exact fun _ => KnT_0 | exact fun _ => KnT_step (g31_7 (by omega)) (by omega) (by omega) (by omega) (by omega) | exact fun z => g31_3 ▸ Kn_of g31_0 g31_1 (g31_7 z) (by omega)) (show v1.toInt = x1.toInt by first | omega | exact fun z => absurd z (by omega) | exact fun _ => KnT_0 | exact fun _ => KnT_step (g31_7 (by omega)) (by omega) (by omega) (by omega) (by omega) | exact fun z => g31_3 ▸ Kn_of g31_0 g31_1 (g31_7 z) (by omega)) (show (0 : Int) = 0 ∨ (0 : Int) = 1 by first | omega | exact fun z => absurd z (by omega) | exact fun _ => KnT_0 | exact fun _ => KnT_step (g31_7 (by omega)) (by omega) (by omega) (by omega) (by omega) | exact fun z => g31_3 ▸ Kn_of g31_0 g31_1 (g31_7 z) (by omega)) (show 0 ≤ x_4.toInt by first | omega | exact fun z => absurd z (by omega) | exact fun _ => KnT_0 | exact fun _ => KnT_step (g31_7 (by omega)) (by omega) (by omega) (by omega) (by omega) | exact fun z => g31_3 ▸ Kn_of g31_0 g31_1 (g31_7 z) (by omega)) (show x_4.toInt ≤ (o_sets 2).toInt + 1 by first | omega | exact fun z => absurd z (by omega) | exact fun _ => KnT_0 | exact fun _ => KnT_step (g31_7 (by omega)) (by omega) (by omega) (by omega) (by omega) | exact fun z => g31_3 ▸ Kn_of g31_0 g31_1 (g31_7 z) (by omega)) (show (0 : Int) = 1 → KnT o_items o_cellAt v1.toInt x_4.toInt by first | with_reducible assumption | with_reducible rfl | exact fun z => absurd z (by omega) | exact fun _ => KnT_0 | exact fun _ => KnT_step (g31_7 (by omega)) (by omega) (by omega) (by omega) (by omega) | exact fun z => g31_3 ▸ Kn_of g31_0 g31_1 (g31_7 z) (by omega) | omega)
            · skip
              have c_2 : ¬ v2.toInt = (0 : Int) := fun z => c_2 (i_eq.mpr z)
              have ix_5 : ¬ (v3 < 0 ∨ 7 ≤ v3.toNatClampNeg) := ix (show 0 ≤ v3.toInt by omega) (show v3.toInt < (7 : Nat) by omega)
              refine ok_chk ix_5 ?_
              first | (have f_6 : (v1 + v3).toInt = v1.toInt + v3.toInt := i_add2 rfl rfl (by omega) (by omega)) | skip
              have ix_7 : ¬ ((v1 + v3) < 0 ∨ 64 ≤ (v1 + v3).toNatClampNeg) := ix (show 0 ≤ (v1 + v3).toInt by omega) (show (v1 + v3).toInt < (64 : Nat) by omega)
              refine ok_chk ix_7 ?_
              refine ok_ite (fun c_8 => ?_) (fun c_8 => ?_)
              · skip
                have c_8 : (o_cellAt v3.toNatClampNeg).toInt = (o_items (v1 + v3).toNatClampNeg).toInt := i_eq.mp c_8
                unfold f_X7_isKnown_B67
                first | (have f_9 : (v3 + 1).toInt = v3.toInt + (1 : Int) := i_add2 rfl rfl (by omega) (by omega)) | skip
                refine ok_nmi (fun x_10 hx_10 kx_10 => ?_)
                exact ih31 v1 1 x_10 o_level o_noRings o_noTones o_noFuel o_code o_cellAt o_courseAt o_paceAt o_turnsAt o_slowAt o_fuelAt o_ringAt (show (7 - x_10.toInt).toNat < n31 by omega) (by first | with_reducible assumption | with_reducible rfl | exact fun z => absurd z (by omega) | exact fun _ => KnT_0 | exact fun _ => KnT_step (g31_7 (by omega)) (by omega) (by omega) (by omega) (by omega) | exact fun z => g31_3 ▸ Kn_of g31_0 g31_1 (g31_7 z) (by omega) | omega) (show o_level.toInt = (o_sets 2).toInt by first | omega | exact fun z => absurd z (by omega) | exact fun _ => KnT_0 | exact fun _ => KnT_step (g31_7 (by omega)) (by omega) (by omega) (by omega) (by omega) | exact fun z => g31_3 ▸ Kn_of g31_0 g31_1 (g31_7 z) (by omega)) (show wm o_level o_code < n16 by first | omega | exact fun z => absurd z (by omega) | exact fun _ => KnT_0 | exact fun _ => KnT_step (g31_7 (by omega)) (by omega) (by omega) (by omega) (by omega) | exact fun z => g31_3 ▸ Kn_of g31_0 g31_1 (g31_7 z) (by omega)) (show v1.toInt = x1.toInt by first | omega | exact fun z => absurd z (by omega) | exact fun _ => KnT_0 | exact fun _ => KnT_step (g31_7 (by omega)) (by omega) (by omega) (by omega) (by omega) | exact fun z => g31_3 ▸ Kn_of g31_0 g31_1 (g31_7 z) (by omega)) (show (1 : Int) = 0 ∨ (1 : Int) = 1 by first | omega | exact fun z => absurd z (by omega) | exact fun _ => KnT_0 | exact fun _ => KnT_step (g31_7 (by omega)) (by omega) (by omega) (by omega) (by omega) | exact fun z => g31_3 ▸ Kn_of g31_0 g31_1 (g31_7 z) (by omega)) (show 0 ≤ x_10.toInt by first | omega | exact fun z => absurd z (by omega) | exact fun _ => KnT_0 | exact fun _ => KnT_step (g31_7 (by omega)) (by omega) (by omega) (by omega) (by omega) | exact fun z => g31_3 ▸ Kn_of g31_0 g31_1 (g31_7 z) (by omega)) (show x_10.toInt ≤ (o_sets 2).toInt + 1 by first | omega | exact fun z => absurd z (by omega) | exact fun _ => KnT_0 | exact fun _ => KnT_step (g31_7 (by omega)) (by omega) (by omega) (by omega) (by omega) | exact fun z => g31_3 ▸ Kn_of g31_0 g31_1 (g31_7 z) (by omega)) (show (1 : Int) = 1 → KnT o_items o_cellAt v1.toInt x_10.toInt by first | with_reducible assumption | with_reducible rfl | exact fun z => absurd z (by omega) | exact fun _ => KnT_0 | exact fun _ => KnT_step (g31_7 (by omega)) (by omega) (by omega) (by omega) (by omega) | exact fun z => g31_3 ▸ Kn_of g31_0 g31_1 (g31_7 z) (by omega) | omega)
              · skip
                have c_8 : ¬ (o_cellAt v3.toNatClampNeg).toInt = (o_items (v1 + v3).toNatClampNeg).toInt := fun z => c_8 (i_eq.mpr z)
                unfold f_X7_isKnown_B66
                unfold f_X7_isKnown_B67
                first | (have f_11 : (v3 + 1).toInt = v3.toInt + (1 : Int) := i_add2 rfl rfl (by omega) (by omega)) | skip
                refine ok_nmi (fun x_12 hx_12 kx_12 => ?_)
                exact ih31 v1 0 x_12 o_level o_noRings o_noTones o_noFuel o_code o_cellAt o_courseAt o_paceAt o_turnsAt o_slowAt o_fuelAt o_ringAt (show (7 - x_12.toInt).toNat < n31 by omega) (by first | with_reducible assumption | with_reducible rfl | exact fun z => absurd z (by omega) | exact fun _ => KnT_0 | exact fun _ => KnT_step (g31_7 (by omega)) (by omega) (by omega) (by omega) (by omega) | exact fun z => g31_3 ▸ Kn_of g31_0 g31_1 (g31_7 z) (by omega) | omega) (show o_level.toInt = (o_sets 2).toInt by first | omega | exact fun z => absurd z (by omega) | exact fun _ => KnT_0 | exact fun _ => KnT_step (g31_7 (by omega)) (by omega) (by omega) (by omega) (by omega) | exact fun z => g31_3 ▸ Kn_of g31_0 g31_1 (g31_7 z) (by omega)) (show wm o_level o_code < n16 by first | omega | exact fun z => absurd z (by omega) | exact fun _ => KnT_0 | exact fun _ => KnT_step (g31_7 (by omega)) (by omega) (by omega) (by omega) (by omega) | exact fun z => g31_3 ▸ Kn_of g31_0 g31_1 (g31_7 z) (by omega)) (show v1.toInt = x1.toInt by first | omega | exact fun z => absurd z (by omega) | exact fun _ => KnT_0 | exact fun _ => KnT_step (g31_7 (by omega)) (by omega) (by omega) (by omega) (by omega) | exact fun z => g31_3 ▸ Kn_of g31_0 g31_1 (g31_7 z) (by omega)) (show (0 : Int) = 0 ∨ (0 : Int) = 1 by first | omega | exact fun z => absurd z (by omega) | exact fun _ => KnT_0 | exact fun _ => KnT_step (g31_7 (by omega)) (by omega) (by omega) (by omega) (by omega) | exact fun z => g31_3 ▸ Kn_of g31_0 g31_1 (g31_7 z) (by omega)) (show 0 ≤ x_12.toInt by first | omega | exact fun z => absurd z (by omega) | exact fun _ => KnT_0 | exact fun _ => KnT_step (g31_7 (by omega)) (by omega) (by omega) (by omega) (by omega) | exact fun z => g31_3 ▸ Kn_of g31_0 g31_1 (g31_7 z) (by omega)) (show x_12.toInt ≤ (o_sets 2).toInt + 1 by first | omega | exact fun z => absurd z (by omega) | exact fun _ => KnT_0 | exact fun _ => KnT_step (g31_7 (by omega)) (by omega) (by omega) (by omega) (by omega) | exact fun z => g31_3 ▸ Kn_of g31_0 g31_1 (g31_7 z) (by omega)) (show (0 : Int) = 1 → KnT o_items o_cellAt v1.toInt x_12.toInt by first | with_reducible assumption | with_reducible rfl | exact fun z => absurd z (by omega) | exact fun _ => KnT_0 | exact fun _ => KnT_step (g31_7 (by omega)) (by omega) (by omega) (by omega) (by omega) | exact fun z => g31_3 ▸ Kn_of g31_0 g31_1 (g31_7 z) (by omega) | omega)
      intro v1 v2 o_level o_noRings o_noTones o_noFuel o_code o_cellAt o_courseAt o_paceAt o_turnsAt o_slowAt o_fuelAt o_ringAt hm16 g16_0 g16_1 g16_2 g16_3
      show okP (f_X7_isKnown_L16b (f_X7_isKnown_L16 n16) v1 v2 o_level o_noRings o_noTones o_noFuel o_sets o_ringFar o_ringTone o_code o_cellAt o_courseAt o_paceAt o_turnsAt o_slowAt o_fuelAt o_ringAt o_items) (fun u => (u.1.toInt = 0 ∨ u.1.toInt = 1) ∧ (u.1.toInt = 1 → Kn o_sets o_items x1.toInt))
      unfold f_X7_isKnown_L16b
      refine ok_ite (fun c_13 => ?_) (fun c_13 => ?_)
      · skip
        have c_13 : v2.toInt = (0 : Int) := i_eq.mp c_13
        refine ok_bd10 (s_X7_goesOn o_level o_noRings o_noTones o_noFuel o_sets o_ringFar o_ringTone o_code o_cellAt o_courseAt o_paceAt o_turnsAt o_slowAt o_fuelAt o_ringAt (by first | with_reducible assumption | with_reducible rfl | exact fun z => absurd z (by omega) | exact fun _ => KnT_0 | exact fun _ => KnT_step (g31_7 (by omega)) (by omega) (by omega) (by omega) (by omega) | exact fun z => g31_3 ▸ Kn_of g31_0 g31_1 (g31_7 z) (by omega) | omega) (by first | with_reducible assumption | with_reducible rfl | exact fun z => absurd z (by omega) | exact fun _ => KnT_0 | exact fun _ => KnT_step (g31_7 (by omega)) (by omega) (by omega) (by omega) (by omega) | exact fun z => g31_3 ▸ Kn_of g31_0 g31_1 (g31_7 z) (by omega) | omega)) (fun r_14 w_15 w_16 w_17 w_18 w_19 w_20 w_21 w_22 w_23 q_24 => ?_)
        obtain ⟨q_24_0, q_24_1, q_24_2⟩ : (r_14.toInt = 0 ∨ (r_14.toInt = 1 ∧ wm w_15 w_16 < wm o_level o_code)) ∧ (WI w_15 o_sets w_16 w_17) ∧ (r_14.toInt = 1 → w_15.toInt = (o_sets 2).toInt) := q_24
        refine ok_ite (fun c_25 => ?_) (fun c_25 => ?_)
        · skip
          have c_25 : r_14.toInt = (0 : Int) := i_eq.mp c_25
          refine ok_chk (b01 (show v2.toInt = 0 ∨ v2.toInt = 1 by omega)) ?_
          exact ok_some (show (v2.toInt = 0 ∨ v2.toInt = 1) ∧ (v2.toInt = 1 → Kn o_sets o_items x1.toInt) from ⟨by first | omega | exact fun z => absurd z (by omega) | exact fun _ => KnT_0 | exact fun _ => KnT_step (g31_7 (by omega)) (by omega) (by omega) (by omega) (by omega) | exact fun z => g31_3 ▸ Kn_of g31_0 g31_1 (g31_7 z) (by omega), by first | with_reducible assumption | with_reducible rfl | exact fun z => absurd z (by omega) | exact fun _ => KnT_0 | exact fun _ => KnT_step (g31_7 (by omega)) (by omega) (by omega) (by omega) (by omega) | exact fun z => g31_3 ▸ Kn_of g31_0 g31_1 (g31_7 z) (by omega) | omega⟩)
        · skip
          have c_25 : ¬ r_14.toInt = (0 : Int) := fun z => c_25 (i_eq.mpr z)
          exact l31 FU v1 1 0 w_15 o_noRings o_noTones o_noFuel w_16 w_17 w_18 w_19 w_20 w_21 w_22 w_23 (FU_gt (show (7 - (0 : Int)).toNat < 1000000000000 by omega)) (by first | with_reducible assumption | with_reducible rfl | exact fun z => absurd z (by omega) | exact fun _ => KnT_0 | exact fun _ => KnT_step (g31_7 (by omega)) (by omega) (by omega) (by omega) (by omega) | exact fun z => g31_3 ▸ Kn_of g31_0 g31_1 (g31_7 z) (by omega) | omega) (show w_15.toInt = (o_sets 2).toInt by first | omega | exact fun z => absurd z (by omega) | exact fun _ => KnT_0 | exact fun _ => KnT_step (g31_7 (by omega)) (by omega) (by omega) (by omega) (by omega) | exact fun z => g31_3 ▸ Kn_of g31_0 g31_1 (g31_7 z) (by omega)) (show wm w_15 w_16 < n16 by first | omega | exact fun z => absurd z (by omega) | exact fun _ => KnT_0 | exact fun _ => KnT_step (g31_7 (by omega)) (by omega) (by omega) (by omega) (by omega) | exact fun z => g31_3 ▸ Kn_of g31_0 g31_1 (g31_7 z) (by omega)) (show v1.toInt = x1.toInt by first | omega | exact fun z => absurd z (by omega) | exact fun _ => KnT_0 | exact fun _ => KnT_step (g31_7 (by omega)) (by omega) (by omega) (by omega) (by omega) | exact fun z => g31_3 ▸ Kn_of g31_0 g31_1 (g31_7 z) (by omega)) (show (1 : Int) = 0 ∨ (1 : Int) = 1 by first | omega | exact fun z => absurd z (by omega) | exact fun _ => KnT_0 | exact fun _ => KnT_step (g31_7 (by omega)) (by omega) (by omega) (by omega) (by omega) | exact fun z => g31_3 ▸ Kn_of g31_0 g31_1 (g31_7 z) (by omega)) (show 0 ≤ (0 : Int) by first | omega | exact fun z => absurd z (by omega) | exact fun _ => KnT_0 | exact fun _ => KnT_step (g31_7 (by omega)) (by omega) (by omega) (by omega) (by omega) | exact fun z => g31_3 ▸ Kn_of g31_0 g31_1 (g31_7 z) (by omega)) (show (0 : Int) ≤ (o_sets 2).toInt + 1 by first | omega | exact fun z => absurd z (by omega) | exact fun _ => KnT_0 | exact fun _ => KnT_step (g31_7 (by omega)) (by omega) (by omega) (by omega) (by omega) | exact fun z => g31_3 ▸ Kn_of g31_0 g31_1 (g31_7 z) (by omega)) (show (1 : Int) = 1 → KnT o_items w_17 v1.toInt (0 : Int) by first | with_reducible assumption | with_reducible rfl | exact fun z => absurd z (by omega) | exact fun _ => KnT_0 | exact fun _ => KnT_step (g31_7 (by omega)) (by omega) (by omega) (by omega) (by omega) | exact fun z => g31_3 ▸ Kn_of g31_0 g31_1 (g31_7 z) (by omega) | omega)
      · skip
        have c_13 : ¬ v2.toInt = (0 : Int) := fun z => c_13 (i_eq.mpr z)
        refine ok_chk (b01 (show v2.toInt = 0 ∨ v2.toInt = 1 by omega)) ?_
        exact ok_some (show (v2.toInt = 0 ∨ v2.toInt = 1) ∧ (v2.toInt = 1 → Kn o_sets o_items x1.toInt) from ⟨by first | omega | exact fun z => absurd z (by omega) | exact fun _ => KnT_0 | exact fun _ => KnT_step (g31_7 (by omega)) (by omega) (by omega) (by omega) (by omega) | exact fun z => g31_3 ▸ Kn_of g31_0 g31_1 (g31_7 z) (by omega), by first | with_reducible assumption | with_reducible rfl | exact fun z => absurd z (by omega) | exact fun _ => KnT_0 | exact fun _ => KnT_step (g31_7 (by omega)) (by omega) (by omega) (by omega) (by omega) | exact fun z => g31_3 ▸ Kn_of g31_0 g31_1 (g31_7 z) (by omega) | omega⟩)
  unfold f_X7_isKnown
  refine ok_bd3 (s_X7_asTold o_noRings o_noTones o_noFuel) (fun w_26 w_27 w_28 q_29 => ?_)
  refine ok_bd7 (s_X7_begins o_level o_sets o_code o_cellAt o_turnsAt o_slowAt o_fuelAt o_ringAt (by first | with_reducible assumption | with_reducible rfl | exact fun z => absurd z (by omega) | exact fun _ => KnT_0 | exact fun _ => KnT_step (g31_7 (by omega)) (by omega) (by omega) (by omega) (by omega) | exact fun z => g31_3 ▸ Kn_of g31_0 g31_1 (g31_7 z) (by omega) | omega)) (fun w_30 w_31 w_32 w_33 w_34 w_35 w_36 q_37 => ?_)
  replace q_37 : WI w_30 o_sets w_31 w_32 := q_37
  exact l16 FU x1 0 w_30 127 w_27 w_28 w_31 w_32 o_courseAt o_paceAt w_33 w_34 w_35 w_36 (FU_gt (wm_lt (by assumption) (by omega))) (by first | with_reducible assumption | with_reducible rfl | exact fun z => absurd z (by omega) | exact fun _ => KnT_0 | exact fun _ => KnT_step (g31_7 (by omega)) (by omega) (by omega) (by omega) (by omega) | exact fun z => g31_3 ▸ Kn_of g31_0 g31_1 (g31_7 z) (by omega) | omega) (show x1.toInt = x1.toInt by first | omega | exact fun z => absurd z (by omega) | exact fun _ => KnT_0 | exact fun _ => KnT_step (g31_7 (by omega)) (by omega) (by omega) (by omega) (by omega) | exact fun z => g31_3 ▸ Kn_of g31_0 g31_1 (g31_7 z) (by omega)) (show (0 : Int) = 0 ∨ (0 : Int) = 1 by first | omega | exact fun z => absurd z (by omega) | exact fun _ => KnT_0 | exact fun _ => KnT_step (g31_7 (by omega)) (by omega) (by omega) (by omega) (by omega) | exact fun z => g31_3 ▸ Kn_of g31_0 g31_1 (g31_7 z) (by omega)) (show (0 : Int) = 1 → Kn o_sets o_items x1.toInt by first | with_reducible assumption | with_reducible rfl | exact fun z => absurd z (by omega) | exact fun _ => KnT_0 | exact fun _ => KnT_step (g31_7 (by omega)) (by omega) (by omega) (by omega) (by omega) | exact fun z => g31_3 ▸ Kn_of g31_0 g31_1 (g31_7 z) (by omega) | omega)
set_option maxRecDepth 100000 in
set_option maxHeartbeats 4000000 in
theorem s_X7_held (x1 : Int32) (x2 : Int32) (x3 : Int32) (o_level : Int32) (o_noRings : Int32) (o_noTones : Int32) (o_noFuel : Int32) (o_pieces : Int32) (o_drags : Int32) (o_all : Int64) (o_noPieces : Int32) (o_noDrags : Int32) (o_sets : Nat → Int32) (o_ringFar : Nat → Int32) (o_ringTone : Nat → Int32) (o_currents : Nat → Int32) (o_warmths : Nat → Int32) (o_code : Nat → Int32) (o_cellAt : Nat → Int32) (o_courseAt : Nat → Int32) (o_paceAt : Nat → Int32) (o_turnsAt : Nat → Int32) (o_slowAt : Nat → Int32) (o_fuelAt : Nat → Int32) (o_ringAt : Nat → Int32) (o_pieceParts : Nat → Int32) (o_dragCell : Nat → Int32) (o_dragBy : Nat → Int32) (o_sums : Nat → Int64) (o_keptFar : Nat → Int32) (o_lanes : Nat → Int32) (o_sizes : Nat → Int32) (o_items : Nat → Int32) (h0 : SetOK o_sets) (h1 : 0 ≤ (o_pieces).toInt) (h2 : (o_pieces).toInt ≤ 4) (h3 : 0 ≤ (o_drags).toInt) (h4 : (o_drags).toInt ≤ 4) (h5 : ∀ j : Nat, j < 4 → 0 ≤ (o_sizes j).toInt ∧ (o_sizes j).toInt ≤ 16) : okP (f_X7_held x1 x2 x3 o_level o_noRings o_noTones o_noFuel o_pieces o_drags o_all o_noPieces o_noDrags o_sets o_ringFar o_ringTone o_currents o_warmths o_code o_cellAt o_courseAt o_paceAt o_turnsAt o_slowAt o_fuelAt o_ringAt o_pieceParts o_dragCell o_dragBy o_sums o_keptFar o_lanes o_sizes o_items) (fun u => True) := by
  obtain ⟨s0a, s0b, s1a, s1b, s2a, s2b, s3a, s3b, s4a, s4b, s5a, s5b, s6a, s6b, s7a, s7b⟩ := id h0
  have l187 : ∀ (n : Nat) (v5 : Int32) (v6 : Int32) (v7 : Int32) (o_level : Int32) (o_noRings : Int32) (o_noTones : Int32) (o_noFuel : Int32) (o_all : Int64) (o_noPieces : Int32) (o_noDrags : Int32) (o_ringFar : Nat → Int32) (o_code : Nat → Int32) (o_cellAt : Nat → Int32) (o_courseAt : Nat → Int32) (o_paceAt : Nat → Int32) (o_turnsAt : Nat → Int32) (o_slowAt : Nat → Int32) (o_fuelAt : Nat → Int32) (o_ringAt : Nat → Int32) (o_sums : Nat → Int64) (o_keptFar : Nat → Int32), (100 - v7.toInt).toNat < n → (0 ≤ v5.toInt) → (v5.toInt + (o_sets 2).toInt ≤ 63) → (0 ≤ v7.toInt) → (v7.toInt ≤ 100) → (Kn o_sets o_items v5.toInt) → okP (f_X7_held_L187 n v5 v6 v7 o_level o_noRings o_noTones o_noFuel o_pieces o_drags o_all o_noPieces o_noDrags o_sets o_ringFar o_ringTone o_currents o_warmths o_code o_cellAt o_courseAt o_paceAt o_turnsAt o_slowAt o_fuelAt o_ringAt o_pieceParts o_dragCell o_dragBy o_sums o_keptFar o_lanes o_sizes o_items) (fun u => True) := by
    intro n
    induction n with
    | zero =>
      intro v5 v6 v7 o_level o_noRings o_noTones o_noFuel o_all o_noPieces o_noDrags o_ringFar o_code o_cellAt o_courseAt o_paceAt o_turnsAt o_slowAt o_fuelAt o_ringAt o_sums o_keptFar hm
      exact absurd hm (Nat.not_lt_zero _)
    | succ n187 ih187 =>
      intro v5 v6 v7 o_level o_noRings o_noTones o_noFuel o_all o_noPieces o_noDrags o_ringFar o_code o_cellAt o_courseAt o_paceAt o_turnsAt o_slowAt o_fuelAt o_ringAt o_sums o_keptFar hm187 g187_0 g187_1 g187_2 g187_3 g187_4
      show okP (f_X7_held_L187b (f_X7_held_L187 n187) v5 v6 v7 o_level o_noRings o_noTones o_noFuel o_pieces o_drags o_all o_noPieces o_noDrags o_sets o_ringFar o_ringTone o_currents o_warmths o_code o_cellAt o_courseAt o_paceAt o_turnsAt o_slowAt o_fuelAt o_ringAt o_pieceParts o_dragCell o_dragBy o_sums o_keptFar o_lanes o_sizes o_items) (fun u => True)
      unfold f_X7_held_L187b
      refine ok_ite (fun c_1 => ?_) (fun c_1 => ?_)
      · skip
        have c_1 : (100 : Int) ≤ v7.toInt := i_le.mp c_1
        exact ok_some trivial
      · skip
        have c_1 : ¬ (100 : Int) ≤ v7.toInt := fun z => c_1 (i_le.mpr z)
        have ix_2 : ¬ (v7 < 0 ∨ 100 ≤ v7.toNatClampNeg) := ix (show 0 ≤ v7.toInt by omega) (show v7.toInt < (100 : Nat) by omega)
        refine ok_chk ix_2 ?_
        first | (have f_3 : (v5 + (o_sets 2)).toInt = v5.toInt + (o_sets 2).toInt := i_add2 rfl rfl (by omega) (by omega)) | skip
        have ix_4 : ¬ ((v5 + (o_sets 2)) < 0 ∨ 64 ≤ (v5 + (o_sets 2)).toNatClampNeg) := ix (show 0 ≤ (v5 + (o_sets 2)).toInt by omega) (show (v5 + (o_sets 2)).toInt < (64 : Nat) by omega)
        refine ok_chk ix_4 ?_
        have ld_5 := Kn_at (x := v5 + (o_sets 2)) (by assumption) (by omega) (by omega) (by omega)
        obtain ⟨ld_5a, ld_5b⟩ := ld_5
        have ix_6 : ¬ ((o_items (v5 + (o_sets 2)).toNatClampNeg) < 0 ∨ 100 ≤ (o_items (v5 + (o_sets 2)).toNatClampNeg).toNatClampNeg) := ix (show 0 ≤ (o_items (v5 + (o_sets 2)).toNatClampNeg).toInt by omega) (show (o_items (v5 + (o_sets 2)).toNatClampNeg).toInt < (100 : Nat) by omega)
        refine ok_chk ix_6 ?_
        refine ok_ite (fun c_7 => ?_) (fun c_7 => ?_)
        · skip
          have c_7 : (o_sums v7.toNatClampNeg).toInt ≤ (o_sums (o_items (v5 + (o_sets 2)).toNatClampNeg).toNatClampNeg).toInt := j_le.mp ((lg_cmp_le _ _).mp c_7)
          unfold f_X7_held_B231
          first | (have f_8 : (v6 + 0).toInt = v6.toInt + (0 : Int) := i_add2 rfl rfl (by omega) (by omega)) | skip
          refine ok_nmi (fun x_9 hx_9 kx_9 => ?_)
          first | (have f_10 : (v7 + 1).toInt = v7.toInt + (1 : Int) := i_add2 rfl rfl (by omega) (by omega)) | skip
          refine ok_nmi (fun x_11 hx_11 kx_11 => ?_)
          exact ih187 v5 x_9 x_11 o_level o_noRings o_noTones o_noFuel o_all o_noPieces o_noDrags o_ringFar o_code o_cellAt o_courseAt o_paceAt o_turnsAt o_slowAt o_fuelAt o_ringAt o_sums o_keptFar (show (100 - x_11.toInt).toNat < n187 by omega) (show 0 ≤ v5.toInt by first | omega | exact (by assumption : _ → _) (by omega)) (show v5.toInt + (o_sets 2).toInt ≤ 63 by first | omega | exact (by assumption : _ → _) (by omega)) (show 0 ≤ x_11.toInt by first | omega | exact (by assumption : _ → _) (by omega)) (show x_11.toInt ≤ 100 by first | omega | exact (by assumption : _ → _) (by omega)) (by first | with_reducible assumption | with_reducible rfl | exact (by assumption : _ → _) (by omega) | omega)
        · skip
          have c_7 : ¬ (o_sums v7.toNatClampNeg).toInt ≤ (o_sums (o_items (v5 + (o_sets 2)).toNatClampNeg).toNatClampNeg).toInt := fun z => c_7 ((lg_cmp_le _ _).mpr (j_le.mpr z))
          unfold f_X7_held_B231
          first | (have f_12 : (v6 + 1).toInt = v6.toInt + (1 : Int) := i_add2 rfl rfl (by omega) (by omega)) | skip
          refine ok_nmi (fun x_13 hx_13 kx_13 => ?_)
          first | (have f_14 : (v7 + 1).toInt = v7.toInt + (1 : Int) := i_add2 rfl rfl (by omega) (by omega)) | skip
          refine ok_nmi (fun x_15 hx_15 kx_15 => ?_)
          exact ih187 v5 x_13 x_15 o_level o_noRings o_noTones o_noFuel o_all o_noPieces o_noDrags o_ringFar o_code o_cellAt o_courseAt o_paceAt o_turnsAt o_slowAt o_fuelAt o_ringAt o_sums o_keptFar (show (100 - x_15.toInt).toNat < n187 by omega) (show 0 ≤ v5.toInt by first | omega | exact (by assumption : _ → _) (by omega)) (show v5.toInt + (o_sets 2).toInt ≤ 63 by first | omega | exact (by assumption : _ → _) (by omega)) (show 0 ≤ x_15.toInt by first | omega | exact (by assumption : _ → _) (by omega)) (show x_15.toInt ≤ 100 by first | omega | exact (by assumption : _ → _) (by omega)) (by first | with_reducible assumption | with_reducible rfl | exact (by assumption : _ → _) (by omega) | omega)
  have l154 : ∀ (n : Nat) (v5 : Int32) (v6 : Int32) (o_level : Int32) (o_noRings : Int32) (o_noTones : Int32) (o_noFuel : Int32) (o_all : Int64) (o_noPieces : Int32) (o_noDrags : Int32) (o_ringFar : Nat → Int32) (o_code : Nat → Int32) (o_cellAt : Nat → Int32) (o_courseAt : Nat → Int32) (o_paceAt : Nat → Int32) (o_turnsAt : Nat → Int32) (o_slowAt : Nat → Int32) (o_fuelAt : Nat → Int32) (o_ringAt : Nat → Int32) (o_sums : Nat → Int64) (o_keptFar : Nat → Int32), (7 - v6.toInt).toNat < n → (0 ≤ v5.toInt) → (v5.toInt + (o_sets 2).toInt ≤ 63) → (1 ≤ v6.toInt) → (v6.toInt ≤ 7) → (Kn o_sets o_items v5.toInt) → okP (f_X7_held_L154 n v5 v6 o_level o_noRings o_noTones o_noFuel o_pieces o_drags o_all o_noPieces o_noDrags o_sets o_ringFar o_ringTone o_currents o_warmths o_code o_cellAt o_courseAt o_paceAt o_turnsAt o_slowAt o_fuelAt o_ringAt o_pieceParts o_dragCell o_dragBy o_sums o_keptFar o_lanes o_sizes o_items) (fun u => True) := by
    intro n
    induction n with
    | zero =>
      intro v5 v6 o_level o_noRings o_noTones o_noFuel o_all o_noPieces o_noDrags o_ringFar o_code o_cellAt o_courseAt o_paceAt o_turnsAt o_slowAt o_fuelAt o_ringAt o_sums o_keptFar hm
      exact absurd hm (Nat.not_lt_zero _)
    | succ n154 ih154 =>
      intro v5 v6 o_level o_noRings o_noTones o_noFuel o_all o_noPieces o_noDrags o_ringFar o_code o_cellAt o_courseAt o_paceAt o_turnsAt o_slowAt o_fuelAt o_ringAt o_sums o_keptFar hm154 g154_0 g154_1 g154_2 g154_3 g154_4
      show okP (f_X7_held_L154b (f_X7_held_L154 n154) v5 v6 o_level o_noRings o_noTones o_noFuel o_pieces o_drags o_all o_noPieces o_noDrags o_sets o_ringFar o_ringTone o_currents o_warmths o_code o_cellAt o_courseAt o_paceAt o_turnsAt o_slowAt o_fuelAt o_ringAt o_pieceParts o_dragCell o_dragBy o_sums o_keptFar o_lanes o_sizes o_items) (fun u => True)
      unfold f_X7_held_L154b
      refine ok_ite (fun c_16 => ?_) (fun c_16 => ?_)
      · skip
        have c_16 : (7 : Int) ≤ v6.toInt := i_le.mp c_16
        exact l187 FU v5 0 0 o_level o_noRings o_noTones o_noFuel o_all o_noPieces o_noDrags o_ringFar o_code o_cellAt o_courseAt o_paceAt o_turnsAt o_slowAt o_fuelAt o_ringAt o_sums o_keptFar (FU_gt (show (100 - (0 : Int)).toNat < 1000000000000 by omega)) (show 0 ≤ v5.toInt by first | omega | exact (by assumption : _ → _) (by omega)) (show v5.toInt + (o_sets 2).toInt ≤ 63 by first | omega | exact (by assumption : _ → _) (by omega)) (show 0 ≤ (0 : Int) by first | omega | exact (by assumption : _ → _) (by omega)) (show (0 : Int) ≤ 100 by first | omega | exact (by assumption : _ → _) (by omega)) (by first | with_reducible assumption | with_reducible rfl | exact (by assumption : _ → _) (by omega) | omega)
      · skip
        have c_16 : ¬ (7 : Int) ≤ v6.toInt := fun z => c_16 (i_le.mpr z)
        have ix_17 : ¬ (v6 < 0 ∨ 7 ≤ v6.toNatClampNeg) := ix (show 0 ≤ v6.toInt by omega) (show v6.toInt < (7 : Nat) by omega)
        refine ok_chk ix_17 ?_
        refine ok_nmi (fun x_18 hx_18 kx_18 => ?_)
        refine ok_chk ix_17 ?_
        first | (have f_19 : (v6 + 1).toInt = v6.toInt + (1 : Int) := i_add2 rfl rfl (by omega) (by omega)) | skip
        refine ok_nmi (fun x_20 hx_20 kx_20 => ?_)
        exact ih154 v5 x_20 o_level o_noRings o_noTones o_noFuel o_all o_noPieces o_noDrags (upd o_ringFar v6.toNatClampNeg x_18) o_code o_cellAt o_courseAt o_paceAt o_turnsAt o_slowAt o_fuelAt o_ringAt o_sums o_keptFar (show (7 - x_20.toInt).toNat < n154 by omega) (show 0 ≤ v5.toInt by first | omega | exact (by assumption : _ → _) (by omega)) (show v5.toInt + (o_sets 2).toInt ≤ 63 by first | omega | exact (by assumption : _ → _) (by omega)) (show 1 ≤ x_20.toInt by first | omega | exact (by assumption : _ → _) (by omega)) (show x_20.toInt ≤ 7 by first | omega | exact (by assumption : _ → _) (by omega)) (by first | with_reducible assumption | with_reducible rfl | exact (by assumption : _ → _) (by omega) | omega)
  have l84 : ∀ (n : Nat) (v5 : Int32) (v6 : Int32) (o_level : Int32) (o_noRings : Int32) (o_noTones : Int32) (o_noFuel : Int32) (o_all : Int64) (o_noPieces : Int32) (o_noDrags : Int32) (o_ringFar : Nat → Int32) (o_code : Nat → Int32) (o_cellAt : Nat → Int32) (o_courseAt : Nat → Int32) (o_paceAt : Nat → Int32) (o_turnsAt : Nat → Int32) (o_slowAt : Nat → Int32) (o_fuelAt : Nat → Int32) (o_ringAt : Nat → Int32) (o_sums : Nat → Int64) (o_keptFar : Nat → Int32), (7 - v6.toInt).toNat < n → (0 ≤ v5.toInt) → (v5.toInt + (o_sets 2).toInt ≤ 63) → (1 ≤ v6.toInt) → (v6.toInt ≤ 7) → (Kn o_sets o_items v5.toInt) → okP (f_X7_held_L84 n v5 v6 o_level o_noRings o_noTones o_noFuel o_pieces o_drags o_all o_noPieces o_noDrags o_sets o_ringFar o_ringTone o_currents o_warmths o_code o_cellAt o_courseAt o_paceAt o_turnsAt o_slowAt o_fuelAt o_ringAt o_pieceParts o_dragCell o_dragBy o_sums o_keptFar o_lanes o_sizes o_items) (fun u => True) := by
    intro n
    induction n with
    | zero =>
      intro v5 v6 o_level o_noRings o_noTones o_noFuel o_all o_noPieces o_noDrags o_ringFar o_code o_cellAt o_courseAt o_paceAt o_turnsAt o_slowAt o_fuelAt o_ringAt o_sums o_keptFar hm
      exact absurd hm (Nat.not_lt_zero _)
    | succ n84 ih84 =>
      intro v5 v6 o_level o_noRings o_noTones o_noFuel o_all o_noPieces o_noDrags o_ringFar o_code o_cellAt o_courseAt o_paceAt o_turnsAt o_slowAt o_fuelAt o_ringAt o_sums o_keptFar hm84 g84_0 g84_1 g84_2 g84_3 g84_4
      show okP (f_X7_held_L84b (f_X7_held_L84 n84) v5 v6 o_level o_noRings o_noTones o_noFuel o_pieces o_drags o_all o_noPieces o_noDrags o_sets o_ringFar o_ringTone o_currents o_warmths o_code o_cellAt o_courseAt o_paceAt o_turnsAt o_slowAt o_fuelAt o_ringAt o_pieceParts o_dragCell o_dragBy o_sums o_keptFar o_lanes o_sizes o_items) (fun u => True)
      unfold f_X7_held_L84b
      refine ok_ite (fun c_21 => ?_) (fun c_21 => ?_)
      · skip
        have c_21 : (7 : Int) ≤ v6.toInt := i_le.mp c_21
        refine ok_bd11 (s_X7_ends o_level o_noRings o_noTones o_noFuel o_pieces o_drags o_all o_noPieces o_noDrags o_sets o_ringFar o_ringTone o_currents o_warmths o_code o_cellAt o_courseAt o_paceAt o_turnsAt o_slowAt o_fuelAt o_ringAt o_pieceParts o_dragCell o_dragBy o_sums (by first | with_reducible assumption | with_reducible rfl | exact (by assumption : _ → _) (by omega) | omega) (show 0 ≤ (o_pieces).toInt by first | omega | exact (by assumption : _ → _) (by omega)) (show (o_pieces).toInt ≤ 4 by first | omega | exact (by assumption : _ → _) (by omega)) (show 0 ≤ (o_drags).toInt by first | omega | exact (by assumption : _ → _) (by omega)) (show (o_drags).toInt ≤ 4 by first | omega | exact (by assumption : _ → _) (by omega))) (fun w_22 w_23 w_24 w_25 w_26 w_27 w_28 w_29 w_30 w_31 w_32 q_33 => ?_)
        exact l154 FU v5 1 w_22 o_noRings o_noTones o_noFuel w_23 o_noPieces o_noDrags o_ringFar w_24 w_25 w_26 w_27 w_28 w_29 w_30 w_31 w_32 o_keptFar (FU_gt (show (7 - (1 : Int)).toNat < 1000000000000 by omega)) (show 0 ≤ v5.toInt by first | omega | exact (by assumption : _ → _) (by omega)) (show v5.toInt + (o_sets 2).toInt ≤ 63 by first | omega | exact (by assumption : _ → _) (by omega)) (show 1 ≤ (1 : Int) by first | omega | exact (by assumption : _ → _) (by omega)) (show (1 : Int) ≤ 7 by first | omega | exact (by assumption : _ → _) (by omega)) (by first | with_reducible assumption | with_reducible rfl | exact (by assumption : _ → _) (by omega) | omega)
      · skip
        have c_21 : ¬ (7 : Int) ≤ v6.toInt := fun z => c_21 (i_le.mpr z)
        have ix_34 : ¬ (v6 < 0 ∨ 7 ≤ v6.toNatClampNeg) := ix (show 0 ≤ v6.toInt by omega) (show v6.toInt < (7 : Nat) by omega)
        refine ok_chk ix_34 ?_
        refine ok_nmi (fun x_35 hx_35 kx_35 => ?_)
        refine ok_chk ix_34 ?_
        refine ok_ite (fun c_36 => ?_) (fun c_36 => ?_)
        · skip
          have c_36 : (o_sets 2).toInt < v6.toInt := i_lt.mp c_36
          unfold f_X7_held_B140
          refine ok_chk ix_34 ?_
          first | (have f_37 : (v6 + 1).toInt = v6.toInt + (1 : Int) := i_add2 rfl rfl (by omega) (by omega)) | skip
          refine ok_nmi (fun x_38 hx_38 kx_38 => ?_)
          exact ih84 v5 x_38 o_level o_noRings o_noTones o_noFuel o_all o_noPieces o_noDrags (upd o_ringFar v6.toNatClampNeg (-1)) o_code o_cellAt o_courseAt o_paceAt o_turnsAt o_slowAt o_fuelAt o_ringAt o_sums (upd o_keptFar v6.toNatClampNeg x_35) (show (7 - x_38.toInt).toNat < n84 by omega) (show 0 ≤ v5.toInt by first | omega | exact (by assumption : _ → _) (by omega)) (show v5.toInt + (o_sets 2).toInt ≤ 63 by first | omega | exact (by assumption : _ → _) (by omega)) (show 1 ≤ x_38.toInt by first | omega | exact (by assumption : _ → _) (by omega)) (show x_38.toInt ≤ 7 by first | omega | exact (by assumption : _ → _) (by omega)) (by first | with_reducible assumption | with_reducible rfl | exact (by assumption : _ → _) (by omega) | omega)
        · skip
          have c_36 : ¬ (o_sets 2).toInt < v6.toInt := fun z => c_36 (i_lt.mpr z)
          first | (have f_39 : (v5 + v6).toInt = v5.toInt + v6.toInt := i_add2 rfl rfl (by omega) (by omega)) | skip
          have ix_40 : ¬ ((v5 + v6) < 0 ∨ 64 ≤ (v5 + v6).toNatClampNeg) := ix (show 0 ≤ (v5 + v6).toInt by omega) (show (v5 + v6).toInt < (64 : Nat) by omega)
          refine ok_chk ix_40 ?_
          have ld_41 := Kn_at (x := v5 + v6) (by assumption) (by omega) (by omega) (by omega)
          obtain ⟨ld_41a, ld_41b⟩ := ld_41
          refine ok_bd1 (s_X7_away (o_items (v5 + v6).toNatClampNeg) o_sets (show 0 ≤ ((o_items (v5 + v6).toNatClampNeg)).toInt by first | omega | exact (by assumption : _ → _) (by omega)) (show ((o_items (v5 + v6).toNatClampNeg)).toInt ≤ 99 by first | omega | exact (by assumption : _ → _) (by omega)) (show 0 ≤ (o_sets 0).toInt by first | omega | exact (by assumption : _ → _) (by omega)) (show (o_sets 0).toInt ≤ 99 by first | omega | exact (by assumption : _ → _) (by omega))) (fun r_42 q_43 => ?_)
          replace q_43 : r_42 = nI (rt (sqd (o_sets 0).toInt.toNat (o_items (v5 + v6).toNatClampNeg).toNatClampNeg)) := q_43
          unfold f_X7_held_B140
          refine ok_chk ix_34 ?_
          first | (have f_44 : (v6 + 1).toInt = v6.toInt + (1 : Int) := i_add2 rfl rfl (by omega) (by omega)) | skip
          refine ok_nmi (fun x_45 hx_45 kx_45 => ?_)
          exact ih84 v5 x_45 o_level o_noRings o_noTones o_noFuel o_all o_noPieces o_noDrags (upd o_ringFar v6.toNatClampNeg r_42) o_code o_cellAt o_courseAt o_paceAt o_turnsAt o_slowAt o_fuelAt o_ringAt o_sums (upd o_keptFar v6.toNatClampNeg x_35) (show (7 - x_45.toInt).toNat < n84 by omega) (show 0 ≤ v5.toInt by first | omega | exact (by assumption : _ → _) (by omega)) (show v5.toInt + (o_sets 2).toInt ≤ 63 by first | omega | exact (by assumption : _ → _) (by omega)) (show 1 ≤ x_45.toInt by first | omega | exact (by assumption : _ → _) (by omega)) (show x_45.toInt ≤ 7 by first | omega | exact (by assumption : _ → _) (by omega)) (by first | with_reducible assumption | with_reducible rfl | exact (by assumption : _ → _) (by omega) | omega)
  unfold f_X7_held
  refine ok_bd1 (s_X7_isSheet x1) (fun r_46 q_47 => ?_)
  replace q_47 : (r_46.toInt = 1 ∧ 0 ≤ x1.toInt ∧ x1.toInt < 4) ∨ (r_46.toInt = 0 ∧ (x1.toInt < 0 ∨ 4 ≤ x1.toInt)) := q_47
  refine ok_ite (fun c_48 => ?_) (fun c_48 => ?_)
  · skip
    have c_48 : r_46.toInt = (0 : Int) := i_eq.mp c_48
    replace q_47 : (x1.toInt < 0 ∨ 4 ≤ x1.toInt) := by omega
    exact ok_some trivial
  · skip
    have c_48 : ¬ r_46.toInt = (0 : Int) := fun z => c_48 (i_eq.mpr z)
    replace q_47 : 0 ≤ x1.toInt ∧ x1.toInt < 4 := by omega
    refine ok_bd1 (s_X7_isLane x2) (fun r_49 q_50 => ?_)
    replace q_50 : (r_49.toInt = 1 ∧ 0 ≤ x2.toInt ∧ x2.toInt < 3) ∨ (r_49.toInt = 0 ∧ (x2.toInt < 0 ∨ 3 ≤ x2.toInt)) := q_50
    refine ok_ite (fun c_51 => ?_) (fun c_51 => ?_)
    · skip
      have c_51 : r_49.toInt = (0 : Int) := i_eq.mp c_51
      replace q_50 : (x2.toInt < 0 ∨ 3 ≤ x2.toInt) := by omega
      exact ok_some trivial
    · skip
      have c_51 : ¬ r_49.toInt = (0 : Int) := fun z => c_51 (i_eq.mpr z)
      replace q_50 : 0 ≤ x2.toInt ∧ x2.toInt < 3 := by omega
      first | (have f_52 : ((o_sets 2) + 1).toInt = (o_sets 2).toInt + (1 : Int) := i_add2 rfl rfl (by omega) (by omega)) | skip
      obtain ⟨z5a, z5b⟩ := h5 x1.toNatClampNeg (by rw [i_cl]; omega)
      refine ok_bd1 (s_X7_refuses x1 x2 x3 ((o_sets 2) + 1) o_lanes o_sizes (show 0 ≤ (x1).toInt by first | omega | exact (by assumption : _ → _) (by omega)) (show (x1).toInt ≤ 3 by first | omega | exact (by assumption : _ → _) (by omega))) (fun r_53 q_54 => ?_)
      replace q_54 : ((o_lanes x1.toNatClampNeg).toInt < 0 ∧ r_53.toInt = -11) ∨ (0 ≤ (o_lanes x1.toNatClampNeg).toInt ∧ ¬ (o_lanes x1.toNatClampNeg).toInt = x2.toInt ∧ r_53.toInt = -12) ∨ (0 ≤ (o_lanes x1.toNatClampNeg).toInt ∧ (o_lanes x1.toNatClampNeg).toInt = x2.toInt ∧ (x3.toInt < 0 ∨ (o_sizes x1.toNatClampNeg).toInt < x3.toInt + ((o_sets 2) + 1).toInt) ∧ r_53.toInt = -13) ∨ (0 ≤ (o_lanes x1.toNatClampNeg).toInt ∧ (o_lanes x1.toNatClampNeg).toInt = x2.toInt ∧ 0 ≤ x3.toInt ∧ x3.toInt + ((o_sets 2) + 1).toInt ≤ (o_sizes x1.toNatClampNeg).toInt ∧ r_53.toInt = 0) := q_54
      refine ok_ite (fun c_55 => ?_) (fun c_55 => ?_)
      · skip
        have c_55 : (0 : Int) ≤ r_53.toInt := i_le.mp c_55
        first | (have f_56 : (16 * x1).toInt = (16 : Int) * x1.toInt := i_mul2 rfl rfl (by omega) (by omega)) | skip
        first | (have f_57 : ((16 * x1) + x3).toInt = (16 * x1).toInt + x3.toInt := i_add2 rfl rfl (by omega) (by omega)) | skip
        refine ok_nmi (fun x_58 hx_58 kx_58 => ?_)
        refine ok_bd13 (s_X7_isKnown x_58 o_level o_noRings o_noTones o_noFuel o_sets o_ringFar o_ringTone o_code o_cellAt o_courseAt o_paceAt o_turnsAt o_slowAt o_fuelAt o_ringAt o_items (by first | with_reducible assumption | with_reducible rfl | exact (by assumption : _ → _) (by omega) | omega) (show 0 ≤ x_58.toInt by first | omega | exact (by assumption : _ → _) (by omega)) (show x_58.toInt + (o_sets 2).toInt ≤ 63 by first | omega | exact (by assumption : _ → _) (by omega))) (fun r_59 w_60 w_61 w_62 w_63 w_64 w_65 w_66 w_67 w_68 w_69 w_70 w_71 q_72 => ?_)
        obtain ⟨q_72_0, q_72_1⟩ : (r_59.toInt = 0 ∨ r_59.toInt = 1) ∧ (r_59.toInt = 1 → Kn o_sets o_items x_58.toInt) := q_72
        refine ok_ite (fun c_73 => ?_) (fun c_73 => ?_)
        · skip
          have c_73 : r_59.toInt = (0 : Int) := i_eq.mp c_73
          exact ok_some trivial
        · skip
          have c_73 : ¬ r_59.toInt = (0 : Int) := fun z => c_73 (i_eq.mpr z)
          refine ok_bd3 (s_X7_asTold w_61 w_62 w_63) (fun w_74 w_75 w_76 q_77 => ?_)
          exact l84 FU x_58 1 w_60 w_74 1 w_76 o_all 15 1 o_ringFar w_64 w_65 w_66 w_67 w_68 w_69 w_70 w_71 o_sums o_keptFar (FU_gt (show (7 - (1 : Int)).toNat < 1000000000000 by omega)) (show 0 ≤ x_58.toInt by first | omega | exact (by assumption : _ → _) (by omega)) (show x_58.toInt + (o_sets 2).toInt ≤ 63 by first | omega | exact (by assumption : _ → _) (by omega)) (show 1 ≤ (1 : Int) by first | omega | exact (by assumption : _ → _) (by omega)) (show (1 : Int) ≤ 7 by first | omega | exact (by assumption : _ → _) (by omega)) (by first | with_reducible assumption | with_reducible rfl | exact (by assumption : _ → _) (by omega) | omega)
      · skip
        have c_55 : ¬ (0 : Int) ≤ r_53.toInt := fun z => c_55 (i_le.mpr z)
        exact ok_some trivial
set_option maxRecDepth 100000 in
set_option maxHeartbeats 4000000 in
theorem s_X7_film (x1 : Int32) (x2 : Int32) (x3 : Int32) (x4 : Int32) (o_level : Int32) (o_noRings : Int32) (o_noTones : Int32) (o_noFuel : Int32) (o_sets : Nat → Int32) (o_ringFar : Nat → Int32) (o_ringTone : Nat → Int32) (o_code : Nat → Int32) (o_cellAt : Nat → Int32) (o_courseAt : Nat → Int32) (o_paceAt : Nat → Int32) (o_turnsAt : Nat → Int32) (o_slowAt : Nat → Int32) (o_fuelAt : Nat → Int32) (o_ringAt : Nat → Int32) (o_lanes : Nat → Int32) (o_sizes : Nat → Int32) (o_items : Nat → Int32) (h0 : SetOK o_sets) (h1 : ∀ j : Nat, j < 4 → 0 ≤ (o_sizes j).toInt ∧ (o_sizes j).toInt ≤ 16) : okP (f_X7_film x1 x2 x3 x4 o_level o_noRings o_noTones o_noFuel o_sets o_ringFar o_ringTone o_code o_cellAt o_courseAt o_paceAt o_turnsAt o_slowAt o_fuelAt o_ringAt o_lanes o_sizes o_items) (fun u => True) := by
  obtain ⟨s0a, s0b, s1a, s1b, s2a, s2b, s3a, s3b, s4a, s4b, s5a, s5b, s6a, s6b, s7a, s7b⟩ := id h0
  have l60 : ∀ (n : Nat) (v2 : Int32) (v4 : Int32) (v6 : Int32) (o_level : Int32) (o_noRings : Int32) (o_noTones : Int32) (o_noFuel : Int32) (o_code : Nat → Int32) (o_cellAt : Nat → Int32) (o_courseAt : Nat → Int32) (o_paceAt : Nat → Int32) (o_turnsAt : Nat → Int32) (o_slowAt : Nat → Int32) (o_fuelAt : Nat → Int32) (o_ringAt : Nat → Int32) (o_items : Nat → Int32), (7 - v6.toInt).toNat < n → (0 ≤ (v2).toInt) → ((v2).toInt ≤ 3) → (0 ≤ v4.toInt) → (v4.toInt + (o_sets 2).toInt ≤ 15) → (0 ≤ v6.toInt) → (v6.toInt ≤ (o_sets 2).toInt + 1) → okP (f_X7_film_L60 n v2 v4 v6 o_level o_noRings o_noTones o_noFuel o_sets o_ringFar o_ringTone o_code o_cellAt o_courseAt o_paceAt o_turnsAt o_slowAt o_fuelAt o_ringAt o_lanes o_sizes o_items) (fun u => True) := by
    intro n
    induction n with
    | zero =>
      intro v2 v4 v6 o_level o_noRings o_noTones o_noFuel o_code o_cellAt o_courseAt o_paceAt o_turnsAt o_slowAt o_fuelAt o_ringAt o_items hm
      exact absurd hm (Nat.not_lt_zero _)
    | succ n60 ih60 =>
      intro v2 v4 v6 o_level o_noRings o_noTones o_noFuel o_code o_cellAt o_courseAt o_paceAt o_turnsAt o_slowAt o_fuelAt o_ringAt o_items hm60 g60_0 g60_1 g60_2 g60_3 g60_4 g60_5
      show okP (f_X7_film_L60b (f_X7_film_L60 n60) v2 v4 v6 o_level o_noRings o_noTones o_noFuel o_sets o_ringFar o_ringTone o_code o_cellAt o_courseAt o_paceAt o_turnsAt o_slowAt o_fuelAt o_ringAt o_lanes o_sizes o_items) (fun u => True)
      unfold f_X7_film_L60b
      refine ok_ite (fun c_1 => ?_) (fun c_1 => ?_)
      · skip
        have c_1 : (o_sets 2).toInt < v6.toInt := i_lt.mp c_1
        first | (have f_2 : ((o_sets 2) + 1).toInt = (o_sets 2).toInt + (1 : Int) := i_add2 rfl rfl (by omega) (by omega)) | skip
        exact ok_some trivial
      · skip
        have c_1 : ¬ (o_sets 2).toInt < v6.toInt := fun z => c_1 (i_lt.mpr z)
        first | (have f_3 : (16 * v2).toInt = (16 : Int) * v2.toInt := i_mul2 rfl rfl (by omega) (by omega)) | skip
        first | (have f_4 : ((16 * v2) + v4).toInt = (16 * v2).toInt + v4.toInt := i_add2 rfl rfl (by omega) (by omega)) | skip
        first | (have f_5 : (((16 * v2) + v4) + v6).toInt = ((16 * v2) + v4).toInt + v6.toInt := i_add2 rfl rfl (by omega) (by omega)) | skip
        have ix_6 : ¬ (v6 < 0 ∨ 7 ≤ v6.toNatClampNeg) := ix (show 0 ≤ v6.toInt by omega) (show v6.toInt < (7 : Nat) by omega)
        refine ok_chk ix_6 ?_
        refine ok_nmi (fun x_7 hx_7 kx_7 => ?_)
        have ix_8 : ¬ ((((16 * v2) + v4) + v6) < 0 ∨ 64 ≤ (((16 * v2) + v4) + v6).toNatClampNeg) := ix (show 0 ≤ (((16 * v2) + v4) + v6).toInt by omega) (show (((16 * v2) + v4) + v6).toInt < (64 : Nat) by omega)
        refine ok_chk ix_8 ?_
        first | (have f_9 : (v6 + 1).toInt = v6.toInt + (1 : Int) := i_add2 rfl rfl (by omega) (by omega)) | skip
        refine ok_nmi (fun x_10 hx_10 kx_10 => ?_)
        exact ih60 v2 v4 x_10 o_level o_noRings o_noTones o_noFuel o_code o_cellAt o_courseAt o_paceAt o_turnsAt o_slowAt o_fuelAt o_ringAt (upd o_items (((16 * v2) + v4) + v6).toNatClampNeg x_7) (show (7 - x_10.toInt).toNat < n60 by omega) (show 0 ≤ (v2).toInt by omega) (show (v2).toInt ≤ 3 by omega) (show 0 ≤ v4.toInt by omega) (show v4.toInt + (o_sets 2).toInt ≤ 15 by omega) (show 0 ≤ x_10.toInt by omega) (show x_10.toInt ≤ (o_sets 2).toInt + 1 by omega)
  unfold f_X7_film
  refine ok_ite (fun c_11 => ?_) (fun c_11 => ?_)
  · skip
    have c_11 : x1.toInt < (0 : Int) := i_lt.mp c_11
    exact ok_some trivial
  · skip
    have c_11 : ¬ x1.toInt < (0 : Int) := fun z => c_11 (i_lt.mpr z)
    refine ok_bd1 (s_X7_isSheet x2) (fun r_12 q_13 => ?_)
    replace q_13 : (r_12.toInt = 1 ∧ 0 ≤ x2.toInt ∧ x2.toInt < 4) ∨ (r_12.toInt = 0 ∧ (x2.toInt < 0 ∨ 4 ≤ x2.toInt)) := q_13
    refine ok_ite (fun c_14 => ?_) (fun c_14 => ?_)
    · skip
      have c_14 : r_12.toInt = (0 : Int) := i_eq.mp c_14
      replace q_13 : (x2.toInt < 0 ∨ 4 ≤ x2.toInt) := by omega
      exact ok_some trivial
    · skip
      have c_14 : ¬ r_12.toInt = (0 : Int) := fun z => c_14 (i_eq.mpr z)
      replace q_13 : 0 ≤ x2.toInt ∧ x2.toInt < 4 := by omega
      refine ok_bd1 (s_X7_isLane x3) (fun r_15 q_16 => ?_)
      replace q_16 : (r_15.toInt = 1 ∧ 0 ≤ x3.toInt ∧ x3.toInt < 3) ∨ (r_15.toInt = 0 ∧ (x3.toInt < 0 ∨ 3 ≤ x3.toInt)) := q_16
      refine ok_ite (fun c_17 => ?_) (fun c_17 => ?_)
      · skip
        have c_17 : r_15.toInt = (0 : Int) := i_eq.mp c_17
        replace q_16 : (x3.toInt < 0 ∨ 3 ≤ x3.toInt) := by omega
        exact ok_some trivial
      · skip
        have c_17 : ¬ r_15.toInt = (0 : Int) := fun z => c_17 (i_eq.mpr z)
        replace q_16 : 0 ≤ x3.toInt ∧ x3.toInt < 3 := by omega
        first | (have f_18 : ((o_sets 2) + 1).toInt = (o_sets 2).toInt + (1 : Int) := i_add2 rfl rfl (by omega) (by omega)) | skip
        obtain ⟨z5a, z5b⟩ := h1 x2.toNatClampNeg (by rw [i_cl]; omega)
        refine ok_bd1 (s_X7_refuses x2 x3 x4 ((o_sets 2) + 1) o_lanes o_sizes (show 0 ≤ (x2).toInt by omega) (show (x2).toInt ≤ 3 by omega)) (fun r_19 q_20 => ?_)
        replace q_20 : ((o_lanes x2.toNatClampNeg).toInt < 0 ∧ r_19.toInt = -11) ∨ (0 ≤ (o_lanes x2.toNatClampNeg).toInt ∧ ¬ (o_lanes x2.toNatClampNeg).toInt = x3.toInt ∧ r_19.toInt = -12) ∨ (0 ≤ (o_lanes x2.toNatClampNeg).toInt ∧ (o_lanes x2.toNatClampNeg).toInt = x3.toInt ∧ (x4.toInt < 0 ∨ (o_sizes x2.toNatClampNeg).toInt < x4.toInt + ((o_sets 2) + 1).toInt) ∧ r_19.toInt = -13) ∨ (0 ≤ (o_lanes x2.toNatClampNeg).toInt ∧ (o_lanes x2.toNatClampNeg).toInt = x3.toInt ∧ 0 ≤ x4.toInt ∧ x4.toInt + ((o_sets 2) + 1).toInt ≤ (o_sizes x2.toNatClampNeg).toInt ∧ r_19.toInt = 0) := q_20
        refine ok_ite (fun c_21 => ?_) (fun c_21 => ?_)
        · skip
          have c_21 : (0 : Int) ≤ r_19.toInt := i_le.mp c_21
          refine ok_bd13 (s_X7_finds x1 o_level o_noRings o_noTones o_noFuel o_sets o_ringFar o_ringTone o_code o_cellAt o_courseAt o_paceAt o_turnsAt o_slowAt o_fuelAt o_ringAt (by first | with_reducible assumption | with_reducible rfl | omega)) (fun r_22 w_23 w_24 w_25 w_26 w_27 w_28 w_29 w_30 w_31 w_32 w_33 w_34 q_35 => ?_)
          replace q_35 : r_22.toInt = 0 ∨ r_22.toInt = 1 := q_35
          refine ok_ite (fun c_36 => ?_) (fun c_36 => ?_)
          · skip
            have c_36 : r_22.toInt = (0 : Int) := i_eq.mp c_36
            exact ok_some trivial
          · skip
            have c_36 : ¬ r_22.toInt = (0 : Int) := fun z => c_36 (i_eq.mpr z)
            exact l60 FU x2 x4 0 w_23 w_24 w_25 w_26 w_27 w_28 w_29 w_30 w_31 w_32 w_33 w_34 o_items (FU_gt (show (7 - (0 : Int)).toNat < 1000000000000 by omega)) (show 0 ≤ (x2).toInt by omega) (show (x2).toInt ≤ 3 by omega) (show 0 ≤ x4.toInt by omega) (show x4.toInt + (o_sets 2).toInt ≤ 15 by omega) (show 0 ≤ (0 : Int) by omega) (show (0 : Int) ≤ (o_sets 2).toInt + 1 by omega)
        · skip
          have c_21 : ¬ (0 : Int) ≤ r_19.toInt := fun z => c_21 (i_le.mpr z)
          exact ok_some trivial
