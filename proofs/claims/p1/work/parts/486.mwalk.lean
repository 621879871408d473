/-! The model's walk, where nothing is told of rings: a stack of what was done. -/
def stepF (h : Nat) (x c k p t : Int) : Option (Int × Int × Int × Int) :=
  if h = 0 then (if gI c (x / 3) (x % 3 + 1) = -1 then none else some (gI c (x / 3) (x % 3 + 1), x / 3, x % 3 + 1, t))
  else if 1 < x then (if x / 2 - 1 = k then none else if x % 2 = 1 then none else if 1 < t + 1 then none else if gI c (x / 2 - 1) p = -1 then none else some (gI c (x / 2 - 1) p, x / 2 - 1, p, t + 1))
  else (if x % 2 = 1 then none else if 1 < t then none else if gI c k p = -1 then none else some (gI c k p, k, p, t))
def MOK (se rf rt : Nat → Int32) : Prop := se = jSet ∧ ∀ j : Nat, j < 7 → rf j = -1 ∧ rt j = 0
theorem e_ringed1 (x1 nr nt : Int32) {se rf rt : Nat → Int32} (ca : Nat → Int32) (h : MOK se rf rt) (h0 : 1 ≤ x1.toInt) (h1 : x1.toInt ≤ 6) (c0 : 0 ≤ (ca x1.toNatClampNeg).toInt) (c1 : (ca x1.toNatClampNeg).toInt ≤ 99) (d0 : 0 ≤ (ca (x1 - 1).toNatClampNeg).toInt) (d1 : (ca (x1 - 1).toNatClampNeg).toInt ≤ 99) : okP (f_X7_ringed x1 nr nt se rf rt ca) (fun r => r = 1) := by
  obtain ⟨hs, hj⟩ := h
  obtain ⟨e1, e2⟩ := hj x1.toNatClampNeg (by rw [i_cl]; omega)
  have hx : ¬ (x1 < 0 ∨ 7 ≤ x1.toNatClampNeg) := ix (by omega) (by omega)
  have f1 : (x1 - 1).toInt = x1.toInt - (1 : Int) := i_sub2 rfl rfl (by omega) (by omega)
  have hx1 : ¬ (x1 - 1 < 0 ∨ 7 ≤ (x1 - 1).toNatClampNeg) := ix (by omega) (by omega)
  have s0 : 0 ≤ (se 0).toInt := by rw [hs]; decide
  have s1 : (se 0).toInt ≤ 99 := by rw [hs]; decide
  have hB : ∀ v2 : Int32, okP (f_X7_ringed_B81 x1 v2 nr nt se rf rt ca) (fun r => r = 1) := by
    intro v2
    unfold f_X7_ringed_B81
    refine ok_chk hx ?_
    rw [e1]
    refine ok_ite (fun z => absurd z (by decide)) (fun _ => ?_)
    unfold f_X7_ringed_B123
    exact ok_ite (fun z => absurd z (by decide)) (fun _ => ok_some rfl)
  have hC : ∀ v2 v3 y : Int32, y = 0 → okP (f_X7_ringed_B55 x1 v2 v3 y nr nt se rf rt ca) (fun r => r = 1) := by
    intro v2 v3 y hy
    subst hy
    unfold f_X7_ringed_B55
    refine ok_ite (fun z => absurd z (by decide)) (fun _ => ?_)
    unfold f_X7_ringed_B68
    exact ok_ite (fun z => absurd z (by decide)) (fun _ => hB v2)
  unfold f_X7_ringed
  refine ok_ite (fun _ => ok_some rfl) (fun _ => ?_)
  refine ok_chk hx ?_
  refine ok_bd1 (s_X7_away (ca x1.toNatClampNeg) se c0 c1 s0 s1) (fun r1 _ => ?_)
  refine ok_chk hx1 ?_
  refine ok_bd1 (s_X7_away (ca (x1 - 1).toNatClampNeg) se d0 d1 s0 s1) (fun r2 _ => ?_)
  refine ok_ite (fun _ => ?_) (fun _ => hC r1 r2 0 rfl)
  refine ok_chk hx ?_
  exact hC r1 r2 _ e2
def GmP (h : Nat) (s : Option (Int × Int × Int × Int)) (ca co pa ta sl fu ri : Nat → Int32) (u : Int32 × (Nat → Int32) × (Nat → Int32) × (Nat → Int32) × (Nat → Int32) × (Nat → Int32) × (Nat → Int32) × (Nat → Int32)) : Prop :=
  (s = none ∧ u = (0, ca, co, pa, ta, sl, fu, ri)) ∨ (∃ c k p t : Int32, s = some (c.toInt, k.toInt, p.toInt, t.toInt) ∧ ∃ f : Int32, 0 ≤ f.toInt ∧ f.toInt ≤ 9 * ((h : Int) + 1) ∧ 0 ≤ c.toInt ∧ c.toInt ≤ 99 ∧ 0 ≤ k.toInt ∧ k.toInt < 8 ∧ 1 ≤ p.toInt ∧ p.toInt ≤ 3 ∧ 0 ≤ t.toInt ∧ t.toInt ≤ 1 ∧ u = (1, upd ca (h + 1) c, upd co h k, upd pa h p, upd ta (h + 1) t, upd sl (h + 1) 0, upd fu (h + 1) f, upd ri (h + 1) 1))
set_option maxHeartbeats 4000000 in
theorem e_goes1 (h : Nat) (le nr nt nf : Int32) (se rf rt cd ca co pa ta sl fu ri : Nat → Int32) (hM : MOK se rf rt) (hl : le.toInt = (h : Int)) (h6 : h < 6) (x0 : 0 ≤ (cd h).toInt) (x1 : (cd h).toInt ≤ 23) (x2 : h = 0 ∨ (cd h).toInt ≤ 17) (c0 : 0 ≤ (ca h).toInt) (c1 : (ca h).toInt ≤ 99) (k0 : h = 0 ∨ (0 ≤ (co (h - 1)).toInt ∧ (co (h - 1)).toInt < 8)) (p0 : h = 0 ∨ (1 ≤ (pa (h - 1)).toInt ∧ (pa (h - 1)).toInt ≤ 3)) (t0 : 0 ≤ (ta h).toInt) (t1 : (ta h).toInt ≤ 1) (ht0 : h = 0 → (ta h).toInt = 0) (s0 : sl h = 0) (f0 : 0 ≤ (fu h).toInt) (f1 : (fu h).toInt ≤ 9 * (h : Int)) (r0 : ri h = 1) : okP (f_X7_goes le nr nt nf se rf rt cd ca co pa ta sl fu ri) (GmP h (stepF h (cd h).toInt (ca h).toInt (co (h - 1)).toInt (pa (h - 1)).toInt (ta h).toInt) ca co pa ta sl fu ri) := by
  have hM2 := hM
  obtain ⟨hs, hj⟩ := hM
  have q3 : se 3 = 1 := by rw [hs]; decide
  have q4 : se 4 = 0 := by rw [hs]; decide
  have q5 : se 5 = 60 := by rw [hs]; decide
  have el : le.toNatClampNeg = h := by
    rw [i_cl]
    omega
  have g1 : (le + 1).toInt = le.toInt + (1 : Int) := i_add2 rfl rfl (by omega) (by omega)
  have el1 : (le + 1).toNatClampNeg = h + 1 := by
    rw [i_cl]
    omega
  have hx : ¬ (le < 0 ∨ 7 ≤ le.toNatClampNeg) := ix (by omega) (by omega)
  have hx1 : ¬ (le + 1 < 0 ∨ 7 ≤ (le + 1).toNatClampNeg) := ix (by omega) (by omega)
  -- the last block: it goes
  have hB208 : ∀ v3 v5 v6 v7 v8 : Int32, 0 ≤ v8.toInt → v8.toInt ≤ 99 → 0 ≤ v5.toInt → v5.toInt < 8 → 1 ≤ v6.toInt → v6.toInt ≤ 3 → 0 ≤ v3.toInt → v3.toInt ≤ 1 → 0 ≤ v7.toInt → v7.toInt ≤ 9 * ((h : Int) + 1) → okP (f_X7_goes_B208 le v3 0 v5 v6 v7 v8 le nr nt nf se rf rt cd ca co pa ta sl fu ri) (GmP h (some (v8.toInt, v5.toInt, v6.toInt, v3.toInt)) ca co pa ta sl fu ri) := by
    intro v3 v5 v6 v7 v8 a1 a2 a3 a4 a5 a6 a7 a8 a9 a10
    unfold f_X7_goes_B208
    refine ok_chk hx ?_
    refine ok_chk hx ?_
    refine ok_chk hx1 ?_
    refine ok_chk hx1 ?_
    refine ok_chk hx1 ?_
    refine ok_chk hx1 ?_
    refine ok_chk hx ?_
    have g2 : (le + 1 - 1).toNatClampNeg = h := by
      have g3 : (le + 1 - 1).toInt = (le + 1).toInt - (1 : Int) := i_sub2 rfl rfl (by omega) (by omega)
      rw [i_cl]
      omega
    have z1 : upd ca (le + 1).toNatClampNeg v8 (le + 1).toNatClampNeg = v8 := upd_is
    have z2 : upd ca (le + 1).toNatClampNeg v8 (le + 1 - 1).toNatClampNeg = ca h := by
      rw [g2, upd_no (by omega)]
    refine ok_bd1 (e_ringed1 (le + 1) nr nt (upd ca (le + 1).toNatClampNeg v8) hM2 (by omega) (by omega) (by rw [z1]; exact a1) (by rw [z1]; exact a2) (by rw [z2]; exact c0) (by rw [z2]; exact c1)) (fun r q => ?_)
    replace q : r = 1 := q
    refine ok_nmx (fun x hx2 => ?_)
    rw [el, r0, q, show (1 * 1 : Int32) = 1 by decide] at hx2
    refine ok_chk hx1 ?_
    refine ok_chk hx1 ?_
    rw [upd_is, hx2, el, el1]
    refine ok_ite (fun z => absurd z (by decide)) (fun _ => ?_)
    exact ok_some (Or.inr ⟨v8, v5, v6, v3, rfl, v7, a9, a10, a1, a2, a3, a4, a5, a6, a7, a8, rfl⟩)
  -- ahead of it: turns, cell, fuel
  have hB125 : ∀ v3 v5 v6 : Int32, 0 ≤ v5.toInt → v5.toInt < 8 → 1 ≤ v6.toInt → v6.toInt ≤ 3 → 0 ≤ v3.toInt → v3.toInt ≤ 2 → okP (f_X7_goes_B125 le v3 0 v5 v6 le nr nt nf se rf rt cd ca co pa ta sl fu ri) (GmP h (if 1 < v3.toInt then none else if gI (ca h).toInt v5.toInt v6.toInt = -1 then none else some (gI (ca h).toInt v5.toInt v6.toInt, v5.toInt, v6.toInt, v3.toInt)) ca co pa ta sl fu ri) := by
    intro v3 v5 v6 a3 a4 a5 a6 a7 a8
    unfold f_X7_goes_B125
    rw [q3, q4, q5]
    refine ok_ite (fun z => ?_) (fun z => ?_)
    · have z1 : (1 : Int) < v3.toInt := i_lt.mp z
      rw [if_pos z1]
      exact ok_some (Or.inl ⟨rfl, rfl⟩)
    · have z1 : ¬ (1 : Int) < v3.toInt := fun y => z (i_lt.mpr y)
      rw [if_neg z1]
      refine ok_ite (fun y => absurd y (by decide)) (fun _ => ?_)
      refine ok_ite (fun _ => ?_) (fun y => ?_)
      · have sq : 1 ≤ v6.toInt * v6.toInt ∧ v6.toInt * v6.toInt ≤ 9 := by
          have h : v6.toInt = 1 ∨ v6.toInt = 2 ∨ v6.toInt = 3 := by omega
          rcases h with h | h | h <;> rw [h] <;> omega
        have m1 : (v6 * v6).toInt = v6.toInt * v6.toInt := i_mul2 rfl rfl (by omega) (by omega)
        have m2 : (fu h + v6 * v6).toInt = (fu h).toInt + (v6 * v6).toInt := i_add2 rfl rfl (by omega) (by omega)
        refine ok_chk hx ?_
        rw [el]
        refine ok_nmi (fun f hf kf => ?_)
        have hx0 := hx
        rw [el] at hx0
        refine ok_chk hx0 ?_
        refine ok_bd1 (e_goneS (ca h) v5 v6 c0 c1 a3 a4 (by omega) a6) (fun r q => ?_)
        have hg := gI_rng (c := (ca h).toInt) (k := v5.toInt) (s := v6.toInt)
        refine ok_ite (fun y => ?_) (fun y => ?_)
        · have y1 : r.toInt < (0 : Int) := i_lt.mp y
          rw [if_pos (by rcases q with ⟨q, _⟩ | ⟨_, q⟩ <;> omega)]
          exact ok_some (Or.inl ⟨rfl, rfl⟩)
        · have y1 : ¬ r.toInt < (0 : Int) := fun w => y (i_lt.mpr w)
          have q2 : ¬ gI (ca h).toInt v5.toInt v6.toInt = -1 ∧ r.toInt = gI (ca h).toInt v5.toInt v6.toInt := by
            rcases q with ⟨_, q⟩ | q
            · omega
            · exact q
          rw [if_neg q2.1, ← q2.2]
          have hgo := hB208 v3 v5 v6 f r (by omega) (by omega) a3 a4 a5 a6 a7 (by omega) (by omega) (by omega)
          refine ok_ite (fun _ => ?_) (fun _ => hgo)
          refine ok_ite (fun _ => hgo) (fun w => ?_)
          have w1 : ¬ f.toInt ≤ (60 : Int) := fun v => w (i_le.mpr v)
          omega
      · have y1 : ¬ (1 : Int) ≤ v6.toInt := fun w => y (i_le.mpr w)
        omega
  unfold f_X7_goes
  rw [el]
  have hx0 := hx
  rw [el] at hx0
  refine ok_chk hx0 ?_
  refine ok_nmi (fun x hxx kx => ?_)
  refine ok_chk hx0 ?_
  refine ok_nmi (fun t htt kt => ?_)
  refine ok_chk hx0 ?_
  refine ok_nmx (fun s hss => ?_)
  rw [s0] at hss
  subst hss
  rw [← kx, ← kt]
  rw [← kx] at x0 x1 x2
  rw [← kt] at t0 t1 ht0
  refine ok_ite (fun z => ?_) (fun z => ?_)
  · have z1 : le.toInt = (0 : Int) := i_eq.mp z
    have eh : h = 0 := by omega
    have d1 : (x / 3).toInt = x.toInt / (3 : Int) := i_div2 rfl rfl (by omega) (by omega)
    have d2 : (x - x / 3 * 3).toInt = x.toInt % (3 : Int) := i_rem2 rfl rfl (by omega) (by omega)
    have d3 : ((x - x / 3 * 3) + 1).toInt = (x - x / 3 * 3).toInt + (1 : Int) := i_add2 rfl rfl (by omega) (by omega)
    unfold f_X7_goes_B45
    refine ok_ite (fun _ => ?_) (fun y => absurd z y)
    unfold f_X7_goes_B67
    refine ok_ite (fun _ => ?_) (fun y => ?_)
    · have hh := hB125 t (x / 3) ((x - x / 3 * 3) + 1) (by omega) (by omega) (by omega) (by omega) t0 (by omega)
      rw [if_neg (by omega), d3, d2, d1] at hh
      unfold stepF
      rw [if_pos eh]
      exact hh
    · have : ¬ le.toInt ≤ (0 : Int) := fun w => y (i_le.mpr w)
      omega
  · have z1 : ¬ le.toInt = (0 : Int) := fun w => z (i_eq.mpr w)
    have eh : ¬ h = 0 := by omega
    have k0 := k0.resolve_left eh
    have p0 := p0.resolve_left eh
    have x2 := x2.resolve_left eh
    have g3 : (le - 1).toInt = le.toInt - (1 : Int) := i_sub2 rfl rfl (by omega) (by omega)
    have elm : (le - 1).toNatClampNeg = h - 1 := by
      rw [i_cl]
      omega
    have hxm : ¬ (le - 1 < 0 ∨ 7 ≤ (le - 1).toNatClampNeg) := ix (by omega) (by omega)
    refine ok_chk hxm ?_
    rw [elm]
    unfold f_X7_goes_B45
    refine ok_ite (fun y => absurd y z) (fun _ => ?_)
    refine ok_chk hxm ?_
    rw [elm]
    generalize co (h - 1) = k at *
    generalize pa (h - 1) = p at *
    unfold f_X7_goes_B67
    have d2 : (x - x / 2 * 2).toInt = x.toInt % (2 : Int) := i_rem2 rfl rfl (by omega) (by omega)
    have d1 : (x / 2).toInt = x.toInt / (2 : Int) := i_div2 rfl rfl (by omega) (by omega)
    have d4 : (x / 2 - 1).toInt = (x / 2).toInt - (1 : Int) := i_sub2 rfl rfl (by omega) (by omega)
    have d5 : (t + 1).toInt = t.toInt + (1 : Int) := i_add2 rfl rfl (by omega) (by omega)
    -- slowed: none
    have hslow : ∀ v3 v5 : Int32, x.toInt % 2 = 1 → okP (f_X7_goes_B112 le x v3 0 v5 p le nr nt nf se rf rt cd ca co pa ta sl fu ri) (GmP h none ca co pa ta sl fu ri) := by
      intro v3 v5 hodd
      unfold f_X7_goes_B112
      refine ok_ite (fun _ => ?_) (fun y => ?_)
      · refine ok_nmx (fun s5 h5 => ?_)
        refine ok_nmx (fun s6 _ => ?_)
        unfold f_X7_goes_B125
        rw [q3, q4]
        refine ok_ite (fun _ => ok_some (Or.inl ⟨rfl, rfl⟩)) (fun _ => ?_)
        refine ok_ite (fun _ => ok_some (Or.inl ⟨rfl, rfl⟩)) (fun w => ?_)
        rw [h5] at w
        exact absurd (show (0 : Int32) < 0 + 1 by decide) w
      · have y1 : ¬ (x - x / 2 * 2).toInt = (1 : Int) := fun w => y (i_eq.mpr w)
        omega
    have hnot : ∀ v3 v5 : Int32, ¬ x.toInt % 2 = 1 → f_X7_goes_B112 le x v3 0 v5 p le nr nt nf se rf rt cd ca co pa ta sl fu ri = f_X7_goes_B125 le v3 0 v5 p le nr nt nf se rf rt cd ca co pa ta sl fu ri := by
      intro v3 v5 hodd
      unfold f_X7_goes_B112
      rw [if_neg (fun y => hodd (by have y1 : (x - x / 2 * 2).toInt = (1 : Int) := i_eq.mp y; omega))]
    refine ok_ite (fun y => ?_) (fun y => ?_)
    · have : le.toInt ≤ (0 : Int) := i_le.mp y
      omega
    refine ok_ite (fun y => ?_) (fun y => ?_)
    · have y1 : x.toInt ≤ (1 : Int) := i_le.mp y
      unfold f_X7_goes_B83
      refine ok_ite (fun _ => ?_) (fun w => absurd rfl w)
      unfold stepF
      rw [if_neg eh, if_neg (by omega)]
      by_cases hodd : x.toInt % 2 = 1
      · rw [if_pos hodd]
        exact hslow t k hodd
      · rw [if_neg hodd, hnot t k hodd]
        exact hB125 t k p k0.1 k0.2 p0.1 p0.2 t0 (by omega)
    · have y1 : ¬ x.toInt ≤ (1 : Int) := fun w => y (i_le.mpr w)
      unfold f_X7_goes_B83
      refine ok_ite (fun w => absurd w (by decide)) (fun _ => ?_)
      refine ok_ite (fun w => ?_) (fun w => ?_)
      · have w1 : (x / 2 - 1).toInt = k.toInt := i_eq.mp w
        unfold stepF
        rw [if_neg eh, if_pos (by omega), if_pos (by omega)]
        exact ok_some (Or.inl ⟨rfl, rfl⟩)
      · have w1 : ¬ (x / 2 - 1).toInt = k.toInt := fun v => w (i_eq.mpr v)
        unfold stepF
        rw [if_neg eh, if_pos (by omega), if_neg (by omega)]
        refine ok_nmi (fun k2 hk2 kk2 => ?_)
        refine ok_nmi (fun t2 ht2 kt2 => ?_)
        by_cases hodd : x.toInt % 2 = 1
        · rw [if_pos hodd]
          exact hslow t2 k2 hodd
        · rw [if_neg hodd, hnot t2 k2 hodd]
          have hh := hB125 t2 k2 p (by omega) (by omega) p0.1 p0.2 (by omega) (by omega)
          rw [show t2.toInt = t.toInt + 1 by omega, show k2.toInt = x.toInt / 2 - 1 by omega] at hh
          exact hh
