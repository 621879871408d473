/-! A step by a course, a month, many months: class and model. -/
/-- currents keep to 0 .. 8 -/
def CurOK (cu : Nat → Int32) : Prop := ∀ j : Nat, j < 200 → 0 ≤ (cu j).toInt ∧ (cu j).toInt ≤ 8
def dD (k : Int) : Int := if k = 7 ∨ k < 2 then -1 else if 2 < k ∧ k < 6 then 1 else 0
def dR (k : Int) : Int := if 0 < k ∧ k < 4 then 1 else if 4 < k ∧ k < 8 then -1 else 0
def in1 (c k : Int) : Prop := 0 ≤ k ∧ k < 8 ∧ 0 ≤ c / 10 + dD k ∧ c / 10 + dD k ≤ 9 ∧ 0 ≤ c % 10 + dR k ∧ c % 10 + dR k ≤ 9
def Go1 (bey c k r : Int) : Prop := (in1 c k ∧ r = 10 * (c / 10 + dD k) + (c % 10 + dR k)) ∨ (¬ in1 c k ∧ r = bey)
theorem dD_rng (k : Int) : -1 ≤ dD k ∧ dD k ≤ 1 := by
  unfold dD
  split
  · omega
  · split <;> omega
theorem dR_rng (k : Int) : -1 ≤ dR k ∧ dR k ≤ 1 := by
  unfold dR
  split
  · omega
  · split <;> omega
theorem tab_D {k : Int32} (h0 : 0 ≤ k.toInt) (h1 : k.toInt < 8) : (tabD k.toNatClampNeg).toInt = dD k.toInt := by
  rcases i07 h0 h1 with h | h | h | h | h | h | h | h <;> subst h <;> decide
theorem tab_R {k : Int32} (h0 : 0 ≤ k.toInt) (h1 : k.toInt < 8) : (tabR k.toNatClampNeg).toInt = dR k.toInt := by
  rcases i07 h0 h1 with h | h | h | h | h | h | h | h <;> subst h <;> decide
theorem e_ahead1 (c k : Int32) (h0 : 0 ≤ c.toInt) (h1 : c.toInt ≤ 99) : okP (f_X6_ahead c k 1) (fun r => Go1 (-1) c.toInt k.toInt r.toInt) := by
  unfold f_X6_ahead
  rw [Int32.one_mul, Int32.one_mul]
  refine ok_ite (fun a => ?_) (fun a => ?_)
  · have : c.toInt < (0 : Int) := i_lt.mp a
    omega
  · refine ok_ite (fun a => ?_) (fun a => ?_)
    · have : (100 : Int) ≤ c.toInt := i_le.mp a
      omega
    · refine ok_ite (fun a => ?_) (fun a => ?_)
      · have a1 : k.toInt < (0 : Int) := i_lt.mp a
        exact ok_some (Or.inr ⟨fun z => by have := z.1; omega, rfl⟩)
      · have a1 : ¬ k.toInt < (0 : Int) := fun z => a (i_lt.mpr z)
        refine ok_ite (fun a => ?_) (fun a => ?_)
        · have a2 : k.toInt < (8 : Int) := i_lt.mp a
          have hx : ¬ (k < 0 ∨ 8 ≤ k.toNatClampNeg) := ix (by omega) (by omega)
          have eD := tab_D (k := k) (by omega) a2
          have eR := tab_R (k := k) (by omega) a2
          have rD := dD_rng k.toInt
          have rR := dR_rng k.toInt
          have f1 : (c / 10).toInt = c.toInt / (10 : Int) := i_div2 rfl rfl (by omega) (by omega)
          have f2 : (c - c / 10 * 10).toInt = c.toInt % (10 : Int) := i_rem2 rfl rfl (by omega) (by omega)
          have f3 : (c / 10 + tabD k.toNatClampNeg).toInt = (c / 10).toInt + (tabD k.toNatClampNeg).toInt := i_add2 rfl rfl (by omega) (by omega)
          have f4 : ((c - c / 10 * 10) + tabR k.toNatClampNeg).toInt = (c - c / 10 * 10).toInt + (tabR k.toNatClampNeg).toInt := i_add2 rfl rfl (by omega) (by omega)
          refine ok_chk hx ?_
          refine ok_nmi (fun x hx1 kx => ?_)
          refine ok_chk hx ?_
          refine ok_nmi (fun y hy1 ky => ?_)
          have hno : ¬ in1 c.toInt k.toInt → okP (f_X6_ahead_B75 x y) (fun r => Go1 (-1) c.toInt k.toInt r.toInt) := by
            intro hn
            unfold f_X6_ahead_B75 f_X6_ahead_B76
            refine ok_ite (fun _ => ?_) (fun z => absurd rfl z)
            exact ok_some (Or.inr ⟨hn, rfl⟩)
          refine ok_ite (fun b => ?_) (fun b => ?_)
          · have b1 : x.toInt < (0 : Int) := i_lt.mp b
            exact hno (fun z => by have := z.2.2.1; omega)
          · have b1 : ¬ x.toInt < (0 : Int) := fun z => b (i_lt.mpr z)
            refine ok_ite (fun b => ?_) (fun b => ?_)
            · have b2 : (10 : Int) ≤ x.toInt := i_le.mp b
              exact hno (fun z => by have := z.2.2.2.1; omega)
            · have b2 : ¬ (10 : Int) ≤ x.toInt := fun z => b (i_le.mpr z)
              refine ok_ite (fun b => ?_) (fun b => ?_)
              · have b3 : y.toInt < (0 : Int) := i_lt.mp b
                exact hno (fun z => by have := z.2.2.2.2.1; omega)
              · have b3 : ¬ y.toInt < (0 : Int) := fun z => b (i_lt.mpr z)
                refine ok_ite (fun b => ?_) (fun b => ?_)
                · have b4 : (10 : Int) ≤ y.toInt := i_le.mp b
                  exact hno (fun z => by have := z.2.2.2.2.2; omega)
                · have b4 : ¬ (10 : Int) ≤ y.toInt := fun z => b (i_le.mpr z)
                  unfold f_X6_ahead_B76
                  refine ok_ite (fun z => absurd z (by decide)) (fun _ => ?_)
                  have f5 : (10 * x).toInt = (10 : Int) * x.toInt := i_mul2 rfl rfl (by omega) (by omega)
                  have f6 : ((10 * x) + y).toInt = (10 * x).toInt + y.toInt := i_add2 rfl rfl (by omega) (by omega)
                  refine ok_some (Or.inl ⟨⟨by omega, a2, by omega, by omega, by omega, by omega⟩, ?_⟩)
                  omega
        · have a2 : ¬ k.toInt < (8 : Int) := fun z => a (i_lt.mpr z)
          exact ok_some (Or.inr ⟨fun z => by have := z.2.1; omega, rfl⟩)
theorem e_rowStep (k : Int32) : okP (f_X7_rowStep k) (fun r => r.toInt = dD k.toInt) := by
  unfold f_X7_rowStep
  refine ok_ite (fun a => ?_) (fun a => ?_)
  · have a1 : k.toInt = (7 : Int) := i_eq.mp a
    exact ok_some (by show (-1 : Int) = dD k.toInt; unfold dD; rw [if_pos (by omega)])
  · have a1 : ¬ k.toInt = (7 : Int) := fun z => a (i_eq.mpr z)
    refine ok_ite (fun a => ?_) (fun a => ?_)
    · have a2 : (2 : Int) ≤ k.toInt := i_le.mp a
      refine ok_ite (fun a => ?_) (fun a => ?_)
      · have a3 : k.toInt ≤ (2 : Int) := i_le.mp a
        exact ok_some (by show (0 : Int) = dD k.toInt; unfold dD; rw [if_neg (by omega), if_neg (by omega)])
      · have a3 : ¬ k.toInt ≤ (2 : Int) := fun z => a (i_le.mpr z)
        refine ok_ite (fun a => ?_) (fun a => ?_)
        · have a4 : (6 : Int) ≤ k.toInt := i_le.mp a
          exact ok_some (by show (0 : Int) = dD k.toInt; unfold dD; rw [if_neg (by omega), if_neg (by omega)])
        · have a4 : ¬ (6 : Int) ≤ k.toInt := fun z => a (i_le.mpr z)
          exact ok_some (by show (1 : Int) = dD k.toInt; unfold dD; rw [if_neg (by omega), if_pos (by omega)])
    · have a2 : ¬ (2 : Int) ≤ k.toInt := fun z => a (i_le.mpr z)
      exact ok_some (by show (-1 : Int) = dD k.toInt; unfold dD; rw [if_pos (by omega)])
theorem e_columnStep (k : Int32) : okP (f_X7_columnStep k) (fun r => r.toInt = dR k.toInt) := by
  unfold f_X7_columnStep
  have hB : (k.toInt ≤ 0 ∨ 4 ≤ k.toInt) → okP (f_X7_columnStep_B13 k) (fun r => r.toInt = dR k.toInt) := by
    intro hk
    unfold f_X7_columnStep_B13
    refine ok_ite (fun a => ?_) (fun a => ?_)
    · have a3 : k.toInt ≤ (4 : Int) := i_le.mp a
      exact ok_some (by show (0 : Int) = dR k.toInt; unfold dR; rw [if_neg (by omega), if_neg (by omega)])
    · have a3 : ¬ k.toInt ≤ (4 : Int) := fun z => a (i_le.mpr z)
      refine ok_ite (fun a => ?_) (fun a => ?_)
      · have a4 : (8 : Int) ≤ k.toInt := i_le.mp a
        exact ok_some (by show (0 : Int) = dR k.toInt; unfold dR; rw [if_neg (by omega), if_neg (by omega)])
      · have a4 : ¬ (8 : Int) ≤ k.toInt := fun z => a (i_le.mpr z)
        exact ok_some (by show (-1 : Int) = dR k.toInt; unfold dR; rw [if_neg (by omega), if_pos (by omega)])
  refine ok_ite (fun a => ?_) (fun a => ?_)
  · exact hB (Or.inl (i_le.mp a))
  · have a1 : ¬ k.toInt ≤ (0 : Int) := fun z => a (i_le.mpr z)
    refine ok_ite (fun a => ?_) (fun a => ?_)
    · exact hB (Or.inr (i_le.mp a))
    · have a2 : ¬ (4 : Int) ≤ k.toInt := fun z => a (i_le.mpr z)
      exact ok_some (by show (1 : Int) = dR k.toInt; unfold dR; rw [if_pos (by omega)])
theorem e_gone1 (c k : Int32) (h0 : 0 ≤ c.toInt) (h1 : c.toInt ≤ 99) (k0 : 0 ≤ k.toInt) (k1 : k.toInt < 8) : okP (f_X7_gone c k 1) (fun r => Go1 (-4) c.toInt k.toInt r.toInt) := by
  unfold f_X7_gone
  have rD := dD_rng k.toInt
  have rR := dR_rng k.toInt
  refine ok_bd1 (e_rowStep k) (fun r1 q1 => ?_)
  replace q1 : r1.toInt = dD k.toInt := q1
  rw [Int32.mul_one]
  have f1 : (c / 10).toInt = c.toInt / (10 : Int) := i_div2 rfl rfl (by omega) (by omega)
  have f2 : (c - c / 10 * 10).toInt = c.toInt % (10 : Int) := i_rem2 rfl rfl (by omega) (by omega)
  have f3 : (c / 10 + r1).toInt = (c / 10).toInt + r1.toInt := i_add2 rfl rfl (by omega) (by omega)
  refine ok_nmi (fun x hx kx => ?_)
  refine ok_bd1 (e_columnStep k) (fun r2 q2 => ?_)
  replace q2 : r2.toInt = dR k.toInt := q2
  rw [Int32.mul_one]
  have f4 : ((c - c / 10 * 10) + r2).toInt = (c - c / 10 * 10).toInt + r2.toInt := i_add2 rfl rfl (by omega) (by omega)
  refine ok_nmi (fun y hy ky => ?_)
  refine ok_bd1 (s_X7_in _ 0 9) (fun u hu => ?_)
  replace hu : (u.toInt = 1 ∧ (0 : Int) ≤ x.toInt64.toInt ∧ x.toInt64.toInt ≤ (9 : Int)) ∨ (u.toInt = 0 ∧ (x.toInt64.toInt < (0 : Int) ∨ (9 : Int) < x.toInt64.toInt)) := hu
  rw [j_i2l] at hu
  refine ok_ite (fun a => ?_) (fun a => ?_)
  · have a1 : u.toInt = (0 : Int) := i_eq.mp a
    exact ok_some (Or.inr ⟨fun z => by have z1 := z.2.2.1; have z2 := z.2.2.2.1; omega, rfl⟩)
  · have a1 : ¬ u.toInt = (0 : Int) := fun z => a (i_eq.mpr z)
    refine ok_bd1 (s_X7_in _ 0 9) (fun v hv => ?_)
    replace hv : (v.toInt = 1 ∧ (0 : Int) ≤ y.toInt64.toInt ∧ y.toInt64.toInt ≤ (9 : Int)) ∨ (v.toInt = 0 ∧ (y.toInt64.toInt < (0 : Int) ∨ (9 : Int) < y.toInt64.toInt)) := hv
    rw [j_i2l] at hv
    refine ok_ite (fun b => ?_) (fun b => ?_)
    · have b1 : v.toInt = (0 : Int) := i_eq.mp b
      exact ok_some (Or.inr ⟨fun z => by have z1 := z.2.2.2.2.1; have z2 := z.2.2.2.2.2; omega, rfl⟩)
    · have b1 : ¬ v.toInt = (0 : Int) := fun z => b (i_eq.mpr z)
      have f5 : (10 * x).toInt = (10 : Int) * x.toInt := i_mul2 rfl rfl (by omega) (by omega)
      have f6 : ((10 * x) + y).toInt = (10 * x).toInt + y.toInt := i_add2 rfl rfl (by omega) (by omega)
      refine ok_some (Or.inl ⟨⟨k0, k1, by omega, by omega, by omega, by omega⟩, ?_⟩)
      omega
/-- where one is a step on: there, or where it was -/
noncomputable def stp (c k : Int) : Int := Classical.epsilon (fun d => (in1 c k ∧ d = 10 * (c / 10 + dD k) + (c % 10 + dR k)) ∨ (¬ in1 c k ∧ d = c))
theorem stp_is (c k : Int) : (in1 c k ∧ stp c k = 10 * (c / 10 + dD k) + (c % 10 + dR k)) ∨ (¬ in1 c k ∧ stp c k = c) := by
  refine Classical.epsilon_spec (p := fun d => (in1 c k ∧ d = 10 * (c / 10 + dD k) + (c % 10 + dR k)) ∨ (¬ in1 c k ∧ d = c)) ?_
  by_cases h : in1 c k
  · exact ⟨_, Or.inl ⟨h, rfl⟩⟩
  · exact ⟨c, Or.inr ⟨h, rfl⟩⟩
theorem stp_rng {c k : Int} (h0 : 0 ≤ c) (h1 : c ≤ 99) : 0 ≤ stp c k ∧ stp c k ≤ 99 := by
  rcases stp_is c k with ⟨⟨a1, a2, a3, a4, a5, a6⟩, b⟩ | ⟨_, b⟩
  · omega
  · omega
theorem Go1_stp {c k r bey : Int} (h : Go1 bey c k r) (h0 : 0 ≤ c) (h1 : c ≤ 99) (hb : bey < 0) : (r = bey → stp c k = c) ∧ (¬ r = bey → stp c k = r ∧ 0 ≤ r) ∧ (r < 0 → stp c k = c) := by
  rcases h with ⟨a, b⟩ | ⟨a, b⟩
  · rcases stp_is c k with ⟨_, d⟩ | ⟨d, _⟩
    · obtain ⟨a1, a2, a3, a4, a5, a6⟩ := a
      refine ⟨fun z => by omega, fun _ => by omega, fun z => by omega⟩
    · exact absurd a d
  · rcases stp_is c k with ⟨d, _⟩ | ⟨_, d⟩
    · exact absurd d a
    · refine ⟨fun _ => d, fun z => absurd b z, fun _ => d⟩
theorem stp_8 {c k : Int} (h : ¬ (0 ≤ k ∧ k < 8)) : stp c k = c := by
  rcases stp_is c k with ⟨⟨a1, a2, _⟩, _⟩ | ⟨_, d⟩
  · exact absurd ⟨a1, a2⟩ h
  · exact d
noncomputable def mo (c kc w high : Int) : Int := if high = 1 then stp (stp c kc) w else stp c kc
noncomputable def drS (cu : Nat → Int32) (w high c : Int) : Nat → Int
  | 0 => c
  | m + 1 => mo (drS cu w high c m) (cu (100 * (m % 2) + (drS cu w high c m).toNat)).toInt w high
theorem mo_rng {c kc w high : Int} (h0 : 0 ≤ c) (h1 : c ≤ 99) : 0 ≤ mo c kc w high ∧ mo c kc w high ≤ 99 := by
  have h2 := stp_rng (k := kc) h0 h1
  unfold mo
  split
  · exact stp_rng h2.1 h2.2
  · exact h2
theorem drS_rng (cu : Nat → Int32) (w high : Int) {c : Int} (h0 : 0 ≤ c) (h1 : c ≤ 99) : ∀ m : Nat, 0 ≤ drS cu w high c m ∧ drS cu w high c m ≤ 99 := by
  intro m
  induction m with
  | zero => exact ⟨h0, h1⟩
  | succ m ih => exact mo_rng ih.1 ih.2
theorem e_month_B32 (hi a : Int32) (s cu : Nat → Int32) (h0 : 0 ≤ a.toInt) (h1 : a.toInt ≤ 99) : okP (f_X1_monthOn_B32 hi a s cu) (fun r => r.toInt = if hi.toInt = 1 then stp a.toInt (s 7).toInt else a.toInt) := by
  unfold f_X1_monthOn_B32
  refine ok_ite (fun c => ?_) (fun c => ?_)
  · have d : hi.toInt = (1 : Int) := i_eq.mp c
    refine ok_bd1 (e_ahead1 a (s 7) h0 h1) (fun r q => ?_)
    have hg := Go1_stp q h0 h1 (by omega)
    unfold f_X1_monthOn_B59
    refine ok_ite (fun c2 => ?_) (fun c2 => ?_)
    · have d2 : r.toInt = (-1 : Int) := i_eq.mp c2
      exact ok_some (by rw [if_pos d, hg.1 d2])
    · have d2 : ¬ r.toInt = (-1 : Int) := fun z => c2 (i_eq.mpr z)
      exact ok_some (by rw [if_pos d, (hg.2.1 d2).1])
  · have d : ¬ hi.toInt = (1 : Int) := fun z => c (i_eq.mpr z)
    unfold f_X1_monthOn_B59
    refine ok_ite (fun _ => ?_) (fun c2 => absurd rfl c2)
    exact ok_some (by rw [if_neg d])
theorem e_monthOn (c m hi : Int32) (s cu : Nat → Int32) (h0 : 0 ≤ c.toInt) (h1 : c.toInt ≤ 99) (h2 : 0 ≤ m.toInt) : okP (f_X1_monthOn c m hi s cu) (fun r => r.toInt = mo c.toInt (cu (100 * (m.toInt.toNat % 2) + c.toInt.toNat)).toInt (s 7).toInt hi.toInt) := by
  unfold f_X1_monthOn
  refine ok_bd1 (s_X1_inSeason m c h2 h0 h1) (fun r q => ?_)
  replace q : r.toInt = 100 * (m.toInt % 2) + c.toInt := q
  have e : r.toNatClampNeg = 100 * (m.toInt.toNat % 2) + c.toInt.toNat := by
    rw [i_cl]
    omega
  refine ok_chk (ix (by omega) (by omega)) ?_
  rw [e]
  refine ok_bd1 (e_ahead1 c _ h0 h1) (fun r3 q3 => ?_)
  have hg := Go1_stp q3 h0 h1 (by omega)
  have hs := stp_rng (k := (cu (100 * (m.toInt.toNat % 2) + c.toInt.toNat)).toInt) h0 h1
  refine ok_ite (fun c2 => ?_) (fun c2 => ?_)
  · have d2 : r3.toInt = (-1 : Int) := i_eq.mp c2
    refine ok_mono (e_month_B32 hi c s cu h0 h1) (fun u hu => ?_)
    rw [hu]
    unfold mo
    rw [hg.1 d2]
  · have d2 : ¬ r3.toInt = (-1 : Int) := fun z => c2 (i_eq.mpr z)
    have h3 := hg.2.1 d2
    refine ok_mono (e_month_B32 hi r3 s cu (by omega) (by omega)) (fun u hu => ?_)
    rw [hu]
    unfold mo
    rw [h3.1]
theorem e_drif_B46 (hi a : Int32) (s cu : Nat → Int32) (h0 : 0 ≤ a.toInt) (h1 : a.toInt ≤ 99) (hh : hi.toInt = 0 ∨ hi.toInt = 1) (w0 : 0 ≤ (s 7).toInt) (w1 : (s 7).toInt ≤ 8) : okP (f_X7_drifted_B46 hi a s cu) (fun r => r.toInt = if hi.toInt = 1 then stp a.toInt (s 7).toInt else a.toInt) := by
  have hsame : ∀ Q : Prop, Q → okP (f_X7_drifted_B64 a s cu) (fun r => r.toInt = a.toInt ∧ Q) := by
    intro Q hQ
    unfold f_X7_drifted_B64 f_X7_drifted_B82
    refine ok_ite (fun _ => ?_) (fun _ => ?_)
    · exact ok_some ⟨rfl, hQ⟩
    · exact ok_some ⟨rfl, hQ⟩
  unfold f_X7_drifted_B46
  refine ok_ite (fun c => ?_) (fun c => ?_)
  · have d : hi.toInt = (0 : Int) := i_eq.mp c
    refine ok_mono (hsame True trivial) (fun u hu => ?_)
    rw [if_neg (by omega)]
    exact hu.1
  · have d : ¬ hi.toInt = (0 : Int) := fun z => c (i_eq.mpr z)
    refine ok_ite (fun c2 => ?_) (fun c2 => ?_)
    · have d2 : (s 7).toInt = (8 : Int) := i_eq.mp c2
      refine ok_mono (hsame True trivial) (fun u hu => ?_)
      rw [if_pos (by omega), stp_8 (by omega)]
      exact hu.1
    · have d2 : ¬ (s 7).toInt = (8 : Int) := fun z => c2 (i_eq.mpr z)
      refine ok_bd1 (e_gone1 a (s 7) h0 h1 w0 (by omega)) (fun r q => ?_)
      have hg := Go1_stp q h0 h1 (by omega)
      unfold f_X7_drifted_B82
      refine ok_ite (fun c3 => ?_) (fun c3 => ?_)
      · have d3 : (0 : Int) ≤ r.toInt := i_le.mp c3
        exact ok_some (by rw [if_pos (by omega), (hg.2.1 (by omega)).1])
      · have d3 : ¬ (0 : Int) ≤ r.toInt := fun z => c3 (i_le.mpr z)
        exact ok_some (by rw [if_pos (by omega), hg.2.2 (by omega)])
theorem e_drifted (c m hi : Int32) (s cu : Nat → Int32) (h0 : 0 ≤ c.toInt) (h1 : c.toInt ≤ 99) (h2 : 0 ≤ m.toInt) (hh : hi.toInt = 0 ∨ hi.toInt = 1) (w0 : 0 ≤ (s 7).toInt) (w1 : (s 7).toInt ≤ 8) (hc : CurOK cu) : okP (f_X7_drifted c m hi s cu) (fun r => r.toInt = mo c.toInt (cu (100 * (m.toInt.toNat % 2) + c.toInt.toNat)).toInt (s 7).toInt hi.toInt) := by
  unfold f_X7_drifted
  have f1 : (m - m / 2 * 2).toInt = m.toInt % (2 : Int) := i_rem2 rfl rfl (by omega) (by omega)
  have f2 : (100 * (m - m / 2 * 2)).toInt = (100 : Int) * (m - m / 2 * 2).toInt := i_mul2 rfl rfl (by omega) (by omega)
  have f3 : ((100 * (m - m / 2 * 2)) + c).toInt = (100 * (m - m / 2 * 2)).toInt + c.toInt := i_add2 rfl rfl (by omega) (by omega)
  have e : ((100 * (m - m / 2 * 2)) + c).toNatClampNeg = 100 * (m.toInt.toNat % 2) + c.toInt.toNat := by
    rw [i_cl]
    omega
  have hk := hc (100 * (m.toInt.toNat % 2) + c.toInt.toNat) (by omega)
  refine ok_chk (ix (by omega) (by omega)) ?_
  rw [e]
  refine ok_nmi (fun k hk1 kk => ?_)
  rw [← hk1]
  rw [← hk1] at hk
  have hs := stp_rng (k := k.toInt) h0 h1
  have hB33 : ∀ y : Int32, (0 ≤ y.toInt → stp c.toInt k.toInt = y.toInt) → (y.toInt < 0 → stp c.toInt k.toInt = c.toInt) → okP (f_X7_drifted_B33 c hi y s cu) (fun r => r.toInt = mo c.toInt k.toInt (s 7).toInt hi.toInt) := by
    intro y y1 y2
    unfold f_X7_drifted_B33
    refine ok_ite (fun c3 => ?_) (fun c3 => ?_)
    · have d3 : (0 : Int) ≤ y.toInt := i_le.mp c3
      have y3 := y1 d3
      refine ok_mono (e_drif_B46 hi y s cu d3 (by omega) hh w0 w1) (fun u hu => ?_)
      rw [hu]
      unfold mo
      rw [y3]
    · have d3 : ¬ (0 : Int) ≤ y.toInt := fun z => c3 (i_le.mpr z)
      have y3 := y2 (by omega)
      refine ok_mono (e_drif_B46 hi c s cu h0 h1 hh w0 w1) (fun u hu => ?_)
      rw [hu]
      unfold mo
      rw [y3]
  refine ok_ite (fun c2 => ?_) (fun c2 => ?_)
  · have d2 : k.toInt = (8 : Int) := i_eq.mp c2
    exact hB33 c (fun _ => stp_8 (by omega)) (fun _ => stp_8 (by omega))
  · have d2 : ¬ k.toInt = (8 : Int) := fun z => c2 (i_eq.mpr z)
    refine ok_bd1 (e_gone1 c k h0 h1 hk.1 (by omega)) (fun r q => ?_)
    have hg := Go1_stp q h0 h1 (by omega)
    exact hB33 r (fun z => (hg.2.1 (by omega)).1) (fun z => hg.2.2 z)
theorem e_behind (c n hi : Int32) (s cu : Nat → Int32) (h0 : 0 ≤ c.toInt) (h1 : c.toInt ≤ 99) (n0 : 0 ≤ n.toInt) (n1 : n.toInt ≤ 1000) : okP (f_X1_behind c n hi s cu) (fun r => r.toInt = drS cu (s 7).toInt hi.toInt c.toInt n.toInt.toNat) := by
  have hl : ∀ (f m : Nat) (v4 v5 : Int32), n.toInt.toNat - m < f → m ≤ n.toInt.toNat → v5.toInt = (m : Int) → v4.toInt = drS cu (s 7).toInt hi.toInt c.toInt m → okP (f_X1_behind_L6 f n hi v4 v5 s cu) (fun r => r.toInt = drS cu (s 7).toInt hi.toInt c.toInt n.toInt.toNat) := by
    intro f
    induction f with
    | zero =>
      intro m v4 v5 hm
      exact absurd hm (Nat.not_lt_zero _)
    | succ f ih =>
      intro m v4 v5 hm hmn h5 h4
      show okP (f_X1_behind_L6b (f_X1_behind_L6 f) n hi v4 v5 s cu) _
      unfold f_X1_behind_L6b
      refine ok_ite (fun a => ?_) (fun a => ?_)
      · have d : n.toInt ≤ v5.toInt := i_le.mp a
        have e : m = n.toInt.toNat := by omega
        rw [e] at h4
        exact ok_some h4
      · have d : ¬ n.toInt ≤ v5.toInt := fun z => a (i_le.mpr z)
        have hr := drS_rng cu (s 7).toInt hi.toInt h0 h1 m
        refine ok_bd1 (e_monthOn v4 v5 hi s cu (by omega) (by omega) (by omega)) (fun r q => ?_)
        replace q : r.toInt = mo v4.toInt (cu (100 * (v5.toInt.toNat % 2) + v4.toInt.toNat)).toInt (s 7).toInt hi.toInt := q
        have fv : (v5 + 1).toInt = v5.toInt + (1 : Int) := i_add2 rfl rfl (by omega) (by omega)
        refine ok_nmi (fun x hx kx => ?_)
        refine ih (m + 1) r x (by omega) (by omega) (by omega) ?_
        have e5 : v5.toInt.toNat = m := by omega
        rw [q, h4, e5]
        rfl
  unfold f_X1_behind
  exact hl FU 0 c 0 (FU_gt (by omega)) (by omega) rfl rfl
theorem e_driftTo (c n hi : Int32) (s cu : Nat → Int32) (h0 : 0 ≤ c.toInt) (h1 : c.toInt ≤ 99) (n0 : 0 ≤ n.toInt) (n1 : n.toInt ≤ 1000) (hh : hi.toInt = 0 ∨ hi.toInt = 1) (w0 : 0 ≤ (s 7).toInt) (w1 : (s 7).toInt ≤ 8) (hc : CurOK cu) : okP (f_X7_driftTo c n hi s cu) (fun r => r.toInt = drS cu (s 7).toInt hi.toInt c.toInt n.toInt.toNat) := by
  have hl : ∀ (f m : Nat) (v4 v5 : Int32), n.toInt.toNat - m < f → m ≤ n.toInt.toNat → v5.toInt = (m : Int) → v4.toInt = drS cu (s 7).toInt hi.toInt c.toInt m → okP (f_X7_driftTo_L6 f n hi v4 v5 s cu) (fun r => r.toInt = drS cu (s 7).toInt hi.toInt c.toInt n.toInt.toNat) := by
    intro f
    induction f with
    | zero =>
      intro m v4 v5 hm
      exact absurd hm (Nat.not_lt_zero _)
    | succ f ih =>
      intro m v4 v5 hm hmn h5 h4
      show okP (f_X7_driftTo_L6b (f_X7_driftTo_L6 f) n hi v4 v5 s cu) _
      unfold f_X7_driftTo_L6b
      refine ok_ite (fun a => ?_) (fun a => ?_)
      · have d : n.toInt ≤ v5.toInt := i_le.mp a
        have e : m = n.toInt.toNat := by omega
        rw [e] at h4
        exact ok_some h4
      · have d : ¬ n.toInt ≤ v5.toInt := fun z => a (i_le.mpr z)
        have hr := drS_rng cu (s 7).toInt hi.toInt h0 h1 m
        refine ok_bd1 (e_drifted v4 v5 hi s cu (by omega) (by omega) (by omega) hh w0 w1 hc) (fun r q => ?_)
        replace q : r.toInt = mo v4.toInt (cu (100 * (v5.toInt.toNat % 2) + v4.toInt.toNat)).toInt (s 7).toInt hi.toInt := q
        have fv : (v5 + 1).toInt = v5.toInt + (1 : Int) := i_add2 rfl rfl (by omega) (by omega)
        refine ok_nmi (fun x hx kx => ?_)
        refine ih (m + 1) r x (by omega) (by omega) (by omega) ?_
        have e5 : v5.toInt.toNat = m := by omega
        rw [q, h4, e5]
        rfl
  unfold f_X7_driftTo
  exact hl FU 0 c 0 (FU_gt (by omega)) (by omega) rfl rfl
theorem drS_congr {cu cu2 : Nat → Int32} (h : ∀ j : Nat, j < 200 → cu j = cu2 j) (w high : Int) {c : Int} (h0 : 0 ≤ c) (h1 : c ≤ 99) : ∀ m : Nat, drS cu w high c m = drS cu2 w high c m := by
  intro m
  induction m with
  | zero => rfl
  | succ m ih =>
    have hr := drS_rng cu w high h0 h1 m
    show mo (drS cu w high c m) (cu (100 * (m % 2) + (drS cu w high c m).toNat)).toInt w high = mo (drS cu2 w high c m) (cu2 (100 * (m % 2) + (drS cu2 w high c m).toNat)).toInt w high
    rw [← ih, h _ (by omega)]
