def SeaSt (tape : Nat → Int32) (taped : Int32) (k : Nat) (v3 at0 wrong : Int32) (rs : Nat → Int32) : Prop := ((wrong.toInt = 0 ∧ at0.toInt = sp tape taped.toInt k ∧ v3.toInt = cn tape taped.toInt k ∧ (∀ i : Nat, i < k → okD tape taped.toInt i) ∧ (∀ j : Nat, j < k → (rs j).toInt = dg tape taped.toInt j)) ∨ (wrong.toInt = 1 ∧ ∃ k0 : Nat, k0 < 10 ∧ (∀ i : Nat, i < k0 → okD tape taped.toInt i) ∧ ¬ okD tape taped.toInt k0 ∧ at0.toInt = sk tape taped.toInt (sp tape taped.toInt k0)))
def SeaNx (tape : Nat → Int32) (taped : Int32) (k : Nat) (wrong r w2 w3 : Int32) : Prop := (w3.toInt = 0 ∧ 0 ≤ w2.toInt ∧ w2.toInt ≤ taped.toInt ∧ wrong.toInt = 0 ∧ okD tape taped.toInt k ∧ w2.toInt = sp tape taped.toInt (k + 1) ∧ r.toInt = dg tape taped.toInt k ∧ 0 ≤ r.toInt ∧ r.toInt ≤ 8) ∨ (w3.toInt = 1 ∧ 0 ≤ w2.toInt ∧ w2.toInt ≤ taped.toInt ∧ ∃ k0 : Nat, k0 < 10 ∧ (∀ i : Nat, i < k0 → okD tape taped.toInt i) ∧ ¬ okD tape taped.toInt k0 ∧ w2.toInt = sk tape taped.toInt (sp tape taped.toInt k0))
set_option maxHeartbeats 4000000 in
theorem e_sea_L39 (s ro taped : Int32) (tape cur : Nat → Int32) (hs0 : 0 ≤ s.toInt) (hs1 : s.toInt ≤ 1) (hr0 : 0 ≤ ro.toInt) (hr1 : ro.toInt ≤ 9) (h0 : 0 ≤ taped.toInt) (h1 : taped.toInt ≤ 60) (hT : TRng tape taped.toInt) : ∀ (n k : Nat) (v3 v4 at0 wrong : Int32) (rs : Nat → Int32), 10 - k < n → k ≤ 10 → v4.toInt = (k : Int) → 0 ≤ at0.toInt → at0.toInt ≤ taped.toInt → SeaSt tape taped k v3 at0 wrong rs → okP (f_X7_sea_L39 n s ro v3 v4 taped at0 wrong cur tape rs) (fun u => u.2.1.toInt = 0 ∧ SeaP tape taped.toInt cur u.2.2.2.2.1 (100 * s.toInt + 10 * ro.toInt) u.1) := by
  intro n
  induction n with
  | zero =>
    intro k v3 v4 at0 wrong rs hm
    exact absurd hm (Nat.not_lt_zero _)
  | succ n ih =>
    intro k v3 v4 at0 wrong rs hm hk hv4 ha0 ha1 hst
    show okP (f_X7_sea_L39b (f_X7_sea_L39 n) s ro v3 v4 taped at0 wrong cur tape rs) _
    unfold f_X7_sea_L39b
    have hend : ∀ a w : Int32, 0 ≤ a.toInt → a.toInt ≤ 60 → SeaP tape taped.toInt cur cur (100 * s.toInt + 10 * ro.toInt) ((-20) - a) → okP (f_X7_sea_B101 s ro v3 taped a w cur tape rs) (fun u => u.2.1.toInt = 0 ∧ SeaP tape taped.toInt cur u.2.2.2.2.1 (100 * s.toInt + 10 * ro.toInt) u.1) := by
      intro a w z0 z1 hp
      unfold f_X7_sea_B101 f_X7_sea_B106
      refine ok_chk (Or.inr rfl) ?_
      refine ok_ite (fun c => absurd c (by decide)) (fun _ => ?_)
      exact ok_some ⟨rfl, hp⟩
    have f20 : ∀ a : Int32, 0 ≤ a.toInt → a.toInt ≤ 60 → ((-20) - a).toInt = -20 - a.toInt := fun a z0 z1 => i_sub2 rfl rfl (by omega) (by omega)
    refine ok_ite (fun c => ?_) (fun c => ?_)
    · have d : (10 : Int) ≤ v4.toInt := i_le.mp c
      have hk10 : k = 10 := by omega
      subst hk10
      refine ok_ite (fun c2 => ?_) (fun c2 => ?_)
      · have d2 : wrong.toInt = (0 : Int) := i_eq.mp c2
        obtain ⟨_, hat, hv3, hok, hrs⟩ | ⟨hw1, _⟩ := hst
        · refine ok_bd2 (s_X7_here taped at0 tape h0 h1 ha0 ha1) (fun r w hh => ?_)
          replace hh : HereP taped tape at0 r w := hh
          have hsk := HereP_sk ha0 hh
          obtain ⟨g1, g2, g3, g4, g5, g6⟩ := id hh
          have hw : sk tape taped.toInt (sp tape taped.toInt 10) = w.toInt := by
            rw [← hat]
            exact sk_eq hsk
          refine ok_ite (fun c3 => ?_) (fun c3 => ?_)
          · have d3 : r.toInt = (0 : Int) := i_eq.mp c3
            have hwt : w.toInt = taped.toInt := by
              rcases g4 with ⟨_, b⟩ | ⟨a, b, _⟩
              · exact b
              · have := hT w.toNatClampNeg (by rw [i_cl]; omega)
                omega
            unfold f_X7_sea_B106
            refine ok_chk (Or.inl rfl) ?_
            refine ok_ite (fun _ => ?_) (fun c4 => absurd rfl c4)
            have hF : (((100 * s.toInt + 10 * ro.toInt).toNat : Nat) : Int) = 100 * s.toInt + 10 * ro.toInt := by omega
            refine ok_mono (e_sea_L132 s ro 0 w 0 v3 tape cur rs (100 * s.toInt + 10 * ro.toInt).toNat hs0 hs1 hr0 hr1 hF FU 0 0 cur rfl (by omega) (FU_gt (by omega)) (fun j hj => by omega) (fun j _ => rfl)) (fun u q => ?_)
            obtain ⟨q1, q2, q3, q4⟩ := q
            refine ⟨by rw [q2]; rfl, Or.inr (Or.inr ⟨hok, by omega, by rw [q1]; exact hv3, fun j hj => ?_, fun j hj => q4 j (by omega)⟩)⟩
            rw [q3 j hj]
            exact hrs j hj
          · have d3 : ¬ r.toInt = (0 : Int) := fun z => c3 (i_eq.mpr z)
            have e60 : w.toInt ≤ 60 := by omega
            have hlt : sk tape taped.toInt (sp tape taped.toInt 10) < taped.toInt := by
              rcases g4 with ⟨z, _⟩ | ⟨z, _, _⟩
              · exact absurd z d3
              · rw [hw]
                exact z
            exact hend w wrong g1 e60 (Or.inr (Or.inl ⟨hok, hlt, by rw [f20 w g1 e60, hw], rfl⟩))
        · omega
      · have d2 : ¬ wrong.toInt = (0 : Int) := fun z => c2 (i_eq.mpr z)
        obtain ⟨hw0, _⟩ | ⟨_, k0, z1, z2, z3, z4⟩ := hst
        · omega
        · have e60 : at0.toInt ≤ 60 := by omega
          exact hend at0 wrong ha0 e60 (Or.inl ⟨k0, z1, z2, z3, by rw [f20 at0 ha0 e60, z4], rfl⟩)
    · have d : ¬ (10 : Int) ≤ v4.toInt := fun z => c (i_le.mpr z)
      refine ok_bd3 (e_digit taped at0 wrong tape h0 h1 ha0 ha1) (fun r w2 w3 hd => ?_)
      replace hd : DigP taped tape at0 wrong r w2 w3 := hd
      have hx : ¬ (v4 < 0 ∨ 10 ≤ v4.toNatClampNeg) := ix (by omega) (by omega)
      refine ok_chk hx ?_
      refine ok_chk hx ?_
      rw [upd_is]
      have hcl : v4.toNatClampNeg = k := by
        rw [i_cl]
        omega
      have fv : (v4 + 1).toInt = v4.toInt + (1 : Int) := i_add2 rfl rfl (by omega) (by omega)
      -- what is known behind the digit
      have hnext : SeaNx tape taped k wrong r w2 w3 := by
        rcases hd with ⟨a1, a2, a3, a4⟩ | ⟨a1, q, hq, ⟨b1, b2, b3, b4, b5, b6⟩ | ⟨b1, b2, b3, b4⟩⟩
        · rcases hst with ⟨hw0, _⟩ | ⟨_, k0, z1, z2, z3, z4⟩
          · omega
          · exact Or.inr ⟨a4, by omega, by omega, k0, z1, z2, z3, by omega⟩
        · rcases hst with ⟨_, hat, hv3, hok, hrs⟩ | ⟨hw1, _⟩
          · have hqs : sk tape taped.toInt (sp tape taped.toInt k) = q := by
              rw [← hat]
              exact sk_eq hq
            have h01 := hq.2.1
            refine Or.inl ⟨b6, by omega, by omega, a1, ⟨by omega, by omega, by rw [hqs]; exact b2, by rw [hqs]; exact b3⟩, ?_, ?_, by omega, by omega⟩
            · show w2.toInt = sk tape taped.toInt (sp tape taped.toInt k) + 1
              rw [hqs]
              exact b5
            · unfold dg
              rw [hqs]
              exact b4
          · omega
        · rcases hst with ⟨_, hat, hv3, hok, hrs⟩ | ⟨hw1, _⟩
          · have hqs : sk tape taped.toInt (sp tape taped.toInt k) = q := by
              rw [← hat]
              exact sk_eq hq
            have h01 := hq.2.1
            have h02 := hq.2.2.1
            refine Or.inr ⟨b4, by omega, by omega, k, by omega, hok, fun z => b1 ?_, by rw [hqs]; exact b3⟩
            have z1 := z.2.1
            have z2 := z.2.2.1
            have z3 := z.2.2.2
            rw [hqs] at z1 z2 z3
            exact ⟨z1, z2, z3⟩
          · omega
      have hgo : ∀ x3 x4 : Int32, x4.toInt = v4.toInt + 1 → (w3.toInt = 0 → x3.toInt = cn tape taped.toInt (k + 1)) → okP (f_X7_sea_L39 n s ro x3 x4 taped w2 w3 cur tape (upd rs v4.toNatClampNeg r)) (fun u => u.2.1.toInt = 0 ∧ SeaP tape taped.toInt cur u.2.2.2.2.1 (100 * s.toInt + 10 * ro.toInt) u.1) := by
        intro x3 x4 hx4 hx3
        rcases hnext with ⟨a1, a2, a3, a4, a5, a6, a7, a8, a9⟩ | ⟨a1, a2, a3, k0, z1, z2, z3, z4⟩
        · rcases hst with ⟨_, hat, hv3, hok, hrs⟩ | ⟨hw1, _⟩
          · refine ih (k + 1) x3 x4 w2 w3 _ (by omega) (by omega) (by omega) a2 a3 (Or.inl ⟨a1, a6, hx3 a1, fun i hi => ?_, fun j hj => ?_⟩)
            · by_cases e : i = k
              · rw [e]
                exact a5
              · exact hok i (by omega)
            · rw [hcl]
              by_cases e : j = k
              · rw [e, upd_is]
                exact a7
              · rw [upd_no e]
                exact hrs j (by omega)
          · omega
        · exact ih (k + 1) x3 x4 w2 w3 _ (by omega) (by omega) (by omega) a2 a3 (Or.inr ⟨a1, k0, z1, z2, z3, z4⟩)
      have hv3r : w3.toInt = 0 → v3.toInt = cn tape taped.toInt k ∧ r.toInt = dg tape taped.toInt k ∧ r.toInt ≤ 8 := by
        intro z
        rcases hnext with ⟨a1, a2, a3, a4, a5, a6, a7, a8, a9⟩ | ⟨a1, _⟩
        · rcases hst with ⟨_, hat, hv3, hok, hrs⟩ | ⟨hw1, _⟩
          · exact ⟨hv3, a7, a9⟩
          · omega
        · omega
      have hcn := cn_rng tape taped.toInt k
      have hcs : cn tape taped.toInt (k + 1) = cn tape taped.toInt k + (if dg tape taped.toInt k = 8 then 0 else 1) := rfl
      refine ok_ite (fun c2 => ?_) (fun c2 => ?_)
      · have d2 : (8 : Int) ≤ r.toInt := i_le.mp c2
        unfold f_X7_sea_B78
        refine ok_nmi (fun x3 hx3 kx3 => ok_nmi (fun x4 hx4 kx4 => ?_))
        refine hgo x3 x4 (by omega) (fun z => ?_)
        obtain ⟨y1, y2, y3⟩ := hv3r z
        have fs : (v3 + 0).toInt = v3.toInt + (0 : Int) := i_add2 rfl rfl (by omega) (by omega)
        rw [hcs, if_pos (by omega)]
        omega
      · have d2 : ¬ (8 : Int) ≤ r.toInt := fun z => c2 (i_le.mpr z)
        unfold f_X7_sea_B78
        refine ok_nmi (fun x3 hx3 kx3 => ok_nmi (fun x4 hx4 kx4 => ?_))
        refine hgo x3 x4 (by omega) (fun z => ?_)
        obtain ⟨y1, y2, y3⟩ := hv3r z
        have fs : (v3 + 1).toInt = v3.toInt + (1 : Int) := i_add2 rfl rfl (by omega) (by omega)
        rw [hcs, if_neg (by omega)]
        omega

/-! Both sides alike. -/
theorem sk_congr {b t : Nat → Int32} {len : Int} (h : ∀ j : Nat, (j : Int) < len → b j = t j) (p : Int) : sk b len p = sk t len p := by
  have e : (fun q => SkP b len p q) = (fun q => SkP t len p q) := by
    funext q
    apply propext
    constructor
    · rintro ⟨a0, a1, a2, a3, a4⟩
      exact ⟨a0, a1, a2, fun j z1 z2 => by rw [← h j (by omega)]; exact a3 j z1 z2, fun z => by rw [← h q.toNat (by omega)]; exact a4 z⟩
    · rintro ⟨a0, a1, a2, a3, a4⟩
      exact ⟨a0, a1, a2, fun j z1 z2 => by rw [h j (by omega)]; exact a3 j z1 z2, fun z => by rw [h q.toNat (by omega)]; exact a4 z⟩
  unfold sk
  rw [e]
theorem sp_congr {b t : Nat → Int32} {len : Int} (h : ∀ j : Nat, (j : Int) < len → b j = t j) : ∀ k : Nat, sp b len k = sp t len k := by
  intro k
  induction k with
  | zero => rfl
  | succ k ih =>
    show sk b len (sp b len k) + 1 = sk t len (sp t len k) + 1
    rw [ih, sk_congr h]
theorem okD_congr {b t : Nat → Int32} {len : Int} (h : ∀ j : Nat, (j : Int) < len → b j = t j) (k : Nat) : okD b len k ↔ okD t len k := by
  unfold okD
  rw [sp_congr h k, sk_congr h]
  constructor
  · rintro ⟨a0, a1, a2, a3⟩
    rw [h _ (by omega)] at a2 a3
    exact ⟨a0, a1, a2, a3⟩
  · rintro ⟨a0, a1, a2, a3⟩
    rw [← h _ (by omega)] at a2 a3
    exact ⟨a0, a1, a2, a3⟩
theorem dg_congr {b t : Nat → Int32} {len : Int} (h : ∀ j : Nat, (j : Int) < len → b j = t j) {k : Nat} (hk : okD b len k) : dg b len k = dg t len k := by
  have h0 := hk.1
  have h1 := hk.2.1
  unfold dg
  rw [← sp_congr h k, ← sk_congr h, h (sk b len (sp b len k)).toNat (by omega)]
theorem cn_congr {b t : Nat → Int32} {len : Int} (h : ∀ j : Nat, (j : Int) < len → b j = t j) : ∀ k : Nat, (∀ i : Nat, i < k → okD b len i) → cn b len k = cn t len k := by
  intro k
  induction k with
  | zero => intro _; rfl
  | succ k ih =>
    intro hk
    show cn b len k + (if dg b len k = 8 then 0 else 1) = cn t len k + (if dg t len k = 8 then 0 else 1)
    rw [ih (fun i hi => hk i (by omega)), dg_congr h (hk k (by omega))]
theorem sea_first {b : Nat → Int32} {len : Int} {k k' : Nat} (h1 : ∀ i : Nat, i < k → okD b len i) (h2 : ¬ okD b len k) (h1' : ∀ i : Nat, i < k' → okD b len i) (h2' : ¬ okD b len k') : k = k' := by
  rcases Nat.lt_trichotomy k k' with hl | hl | hl
  · exact absurd (h1' k hl) h2
  · exact hl
  · exact absurd (h1 k' hl) h2'
theorem sea_same {b t cur cur' cu2 cu2' : Nat → Int32} {len F : Int} {ra rb : Int32} (h : ∀ j : Nat, (j : Int) < len → b j = t j) (hF0 : 0 ≤ F) (hA : SeaP b len cur cur' F ra) (hB : SeaP t len cu2 cu2' F rb) : ra.toInt = rb.toInt ∧ (EqN 200 cur cu2 → EqN 200 cur' cu2') := by
  rcases hA with ⟨k, k1, k2, k3, k4, k5⟩ | ⟨k2, k3, k4, k5⟩ | ⟨k2, k3, k4, k5, k6⟩ <;> rcases hB with ⟨m, m1, m2, m3, m4, m5⟩ | ⟨m2, m3, m4, m5⟩ | ⟨m2, m3, m4, m5, m6⟩
  · have hkm : k = m := sea_first k2 k3 (fun i hi => (okD_congr h i).mpr (m2 i hi)) (fun z => m3 ((okD_congr h m).mp z))
    subst hkm
    rw [k5, m5, k4, m4, sp_congr h, sk_congr h]
    exact ⟨rfl, fun e => e⟩
  · exact absurd ((okD_congr h k).mpr (m2 k k1)) k3
  · exact absurd ((okD_congr h k).mpr (m2 k k1)) k3
  · exact absurd ((okD_congr h m).mp (k2 m m1)) m3
  · rw [k5, m5, k4, m4, sp_congr h, sk_congr h]
    exact ⟨rfl, fun e => e⟩
  · rw [sp_congr h, sk_congr h] at k3
    exact absurd k3 m3
  · exact absurd ((okD_congr h m).mp (k2 m m1)) m3
  · rw [sp_congr h, sk_congr h] at k3
    exact absurd m3 k3
  · rw [k4, m4, cn_congr h 10 k2]
    refine ⟨rfl, fun e j hj => ?_⟩
    by_cases hin : (j : Int) < F ∨ F + 10 ≤ (j : Int)
    · rw [k6 j hin, m6 j hin]
      exact e j hj
    · have a := k5 (j - F.toNat) (by omega)
      have c := m5 (j - F.toNat) (by omega)
      have ej : F.toNat + (j - F.toNat) = j := by omega
      rw [ej] at a c
      have hd := dg_congr h (k2 (j - F.toNat) (by omega))
      exact i_eq.mpr (by omega)
theorem l_X7_sea (x1 x2 o_taped o_at o_wrong : Int32) (o_currents o_tape o_readSea : Nat → Int32) (h0 : 0 ≤ (o_taped).toInt) (h1 : (o_taped).toInt ≤ 60) (hT : TRng o_tape o_taped.toInt) : okP (f_X7_sea x1 x2 o_taped o_at o_wrong o_currents o_tape o_readSea) (fun u => (0 ≤ u.2.1.toInt) ∧ (u.2.1.toInt ≤ 60) ∧ ((¬ (0 ≤ x1.toInt ∧ x1.toInt ≤ 1 ∧ 0 ≤ x2.toInt ∧ x2.toInt ≤ 9) ∧ u.1.toInt = -1 ∧ u.2.1.toInt = o_taped.toInt ∧ u.2.2.2.2.1 = o_currents) ∨ ((0 ≤ x1.toInt ∧ x1.toInt ≤ 1 ∧ 0 ≤ x2.toInt ∧ x2.toInt ≤ 9) ∧ u.2.1.toInt = 0 ∧ SeaP o_tape o_taped.toInt o_currents u.2.2.2.2.1 (100 * x1.toInt + 10 * x2.toInt) u.1))) := by
  unfold f_X7_sea
  refine ok_bd1 (s_X7_in _ 0 1) (fun y hy => ?_)
  replace hy : (y.toInt = 1 ∧ (0 : Int) ≤ x1.toInt64.toInt ∧ x1.toInt64.toInt ≤ (1 : Int)) ∨ (y.toInt = 0 ∧ (x1.toInt64.toInt < (0 : Int) ∨ (1 : Int) < x1.toInt64.toInt)) := hy
  rw [j_i2l] at hy
  refine ok_ite (fun c => ?_) (fun c => ?_)
  · have d : y.toInt = (0 : Int) := i_eq.mp c
    exact ok_some ⟨h0, h1, Or.inl ⟨by omega, rfl, rfl, rfl⟩⟩
  · have d : ¬ y.toInt = (0 : Int) := fun z => c (i_eq.mpr z)
    refine ok_bd1 (s_X7_in _ 0 9) (fun y2 hy2 => ?_)
    replace hy2 : (y2.toInt = 1 ∧ (0 : Int) ≤ x2.toInt64.toInt ∧ x2.toInt64.toInt ≤ (9 : Int)) ∨ (y2.toInt = 0 ∧ (x2.toInt64.toInt < (0 : Int) ∨ (9 : Int) < x2.toInt64.toInt)) := hy2
    rw [j_i2l] at hy2
    refine ok_ite (fun c2 => ?_) (fun c2 => ?_)
    · have d2 : y2.toInt = (0 : Int) := i_eq.mp c2
      exact ok_some ⟨h0, h1, Or.inl ⟨by omega, rfl, rfl, rfl⟩⟩
    · have d2 : ¬ y2.toInt = (0 : Int) := fun z => c2 (i_eq.mpr z)
      refine ok_mono (e_sea_L39 x1 x2 o_taped o_tape o_currents (by omega) (by omega) (by omega) (by omega) h0 h1 hT FU 0 0 0 0 0 o_readSea (FU_gt (by omega)) (by omega) rfl (show (0 : Int) ≤ 0 by omega) (show (0 : Int) ≤ o_taped.toInt by omega) (Or.inl ⟨rfl, rfl, rfl, fun i hi => by omega, fun j hj => by omega⟩)) (fun u q => ?_)
      exact ⟨by have := q.1; omega, by have := q.1; omega, Or.inr ⟨by omega, q.1, q.2⟩⟩
