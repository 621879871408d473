/-! One way is found. -/
def PathAt (h : Int) (p : List Int) (ca : Nat → Int32) : Prop := ∀ j i : Nat, j < p.length → (i : Int) = h + 1 + (j : Int) → (ca i).toInt = p.getD j 0
def EffF (P : List (List Int × Int)) (h : Int) (n count : Int32) (ca : Nat → Int32) (u : Int32 × Int64 × Int32 × Int32 × Int32 × Int32 × (Nat → Int32) × (Nat → Int64) × (Nat → Int32)) : Prop := u.1 = count ∧ (∀ j : Nat, (j : Int) ≤ h → u.2.2.2.2.2.2.1 j = ca j) ∧ ((n.toInt < (P.length : Int) ∧ u.2.2.1 = -2 ∧ ∃ it, P[n.toInt.toNat]? = some it ∧ u.2.2.2.1 = wt it.2 ∧ u.2.2.2.2.1.toInt = it.2 ∧ u.2.2.2.2.2.1 = 0 ∧ PathAt h it.1 u.2.2.2.2.2.2.1) ∨ ((P.length : Int) ≤ n.toInt ∧ u.2.2.1.toInt = n.toInt - (P.length : Int)))
theorem EffF_nil (h : Int) (n count : Int32) (ws : Int64) (fw ft fs : Int32) (en : Nat → Int64) (se ca : Nat → Int32) (n0 : 0 ≤ n.toInt) : EffF [] h n count ca (count, ws, n, fw, ft, fs, ca, en, se) := ⟨rfl, fun _ _ => rfl, Or.inr ⟨n0, by show n.toInt = n.toInt - 0; omega⟩⟩
theorem EffF_left {A B : List (List Int × Int)} {h : Int} {n count : Int32} {ca : Nat → Int32} {u : Int32 × Int64 × Int32 × Int32 × Int32 × Int32 × (Nat → Int32) × (Nat → Int64) × (Nat → Int32)} (n0 : 0 ≤ n.toInt) (a : EffF A h n count ca u) (f : u.2.2.1 = -2) : EffF (A ++ B) h n count ca u := by
  obtain ⟨a1, a2, a3⟩ := a
  refine ⟨a1, a2, Or.inl ?_⟩
  rcases a3 with ⟨b1, b2, it, b3, b4, b5, b6, b7⟩ | ⟨b1, b2⟩
  · refine ⟨by rw [List.length_append]; omega, b2, it, ?_, b4, b5, b6, b7⟩
    rw [List.getElem?_append_left (by omega)]
    exact b3
  · rw [f] at b2
    have e : (-2 : Int32).toInt = -2 := rfl
    omega
theorem EffF_right {A B : List (List Int × Int)} {h : Int} {n count : Int32} {ca : Nat → Int32} {w1 : Int32} {w2 : Int64} {w3 w4 w5 w6 : Int32} {w7 : Nat → Int32} {w8 : Nat → Int64} {w9 : Nat → Int32} {v : Int32 × Int64 × Int32 × Int32 × Int32 × Int32 × (Nat → Int32) × (Nat → Int64) × (Nat → Int32)} (a : EffF A h n count ca (w1, w2, w3, w4, w5, w6, w7, w8, w9)) (f : ¬ w3 = -2) (b : EffF B h w3 w1 w7 v) : EffF (A ++ B) h n count ca v := by
  obtain ⟨a1, a2, a3⟩ := a
  have a1 : w1 = count := a1
  rcases a3 with ⟨_, b2, _⟩ | ⟨b1, b2⟩
  · exact absurd b2 f
  · have b2 : w3.toInt = n.toInt - (A.length : Int) := b2
    obtain ⟨c1, c2, c3⟩ := b
    refine ⟨by rw [c1, a1], fun j hj => by rw [c2 j hj]; exact a2 j hj, ?_⟩
    rcases c3 with ⟨d1, d2, it, d3, d4, d5, d6, d7⟩ | ⟨d1, d2⟩
    · refine Or.inl ⟨by rw [List.length_append]; omega, d2, it, ?_, d4, d5, d6, d7⟩
      rw [List.getElem?_append_right (by omega), show n.toInt.toNat - A.length = w3.toInt.toNat by omega]
      exact d3
    · refine Or.inr ⟨by rw [List.length_append]; omega, ?_⟩
      rw [List.length_append, d2]
      omega
def FlyF (d : Nat) : Prop := ∀ (m : Nat) (x1 x2 x3 x4 x7 n count : Int32) (ws : Int64) (fw ft fs : Int32) (hf to on fa ca : Nat → Int32) (en : Nat → Int64) (se : Nat → Int32), 7 ≤ x1.toInt + (d : Int) → 1 ≤ m → x1.toInt + (m : Int) = 6 → 0 ≤ x1.toInt → 0 ≤ x2.toInt → x2.toInt < 8 → 1 ≤ x3.toInt → x3.toInt ≤ 3 → (x4.toInt = 0 ∨ x4.toInt = 1) → 9 * (m : Int) ≤ x7.toInt → x7.toInt ≤ 60 → RNone hf to on → 0 ≤ (ca x1.toNatClampNeg).toInt → (ca x1.toNatClampNeg).toInt ≤ 99 → 0 ≤ n.toInt → okP (f_X5_fly d x1 x2 x3 x4 0 1 x7 6 1 0 1 count ws n fw ft fs hf to on fa ca en se) (EffF (flyP m (ca x1.toNatClampNeg).toInt x2.toInt x3.toInt x4.toInt) x1.toInt n count ca)
theorem e_isF (n : Int32) : okP (f_X5_isFound n) (fun r => (n = -2 ∧ r = 1) ∨ (¬ n = -2 ∧ r = 0)) := by
  unfold f_X5_isFound
  exact ok_ite (fun z => ok_some (Or.inl ⟨z, rfl⟩)) (fun z => ok_some (Or.inr ⟨z, rfl⟩))
set_option maxHeartbeats 4000000 in
theorem chooseF (d : Nat) (ihf : FlyF d) (m : Nat) (x1 x2 x3 x4 x7 n count : Int32) (ws : Int64) (fw ft fs : Int32) (hf to on fa ca : Nat → Int32) (en : Nat → Int64) (se : Nat → Int32) (h1 : 7 ≤ x1.toInt + (d : Int)) (hm : 1 ≤ m) (h2 : x1.toInt + (m : Int) = 6) (h3 : 0 ≤ x1.toInt) (k0 : 0 ≤ x2.toInt) (k1 : x2.toInt < 8) (p0 : 1 ≤ x3.toInt) (p1 : x3.toInt ≤ 3) (t01 : x4.toInt = 0 ∨ x4.toInt = 1) (f0 : 9 * (m : Int) ≤ x7.toInt) (f1 : x7.toInt ≤ 60) (hR : RNone hf to on) (c0 : 0 ≤ (ca x1.toNatClampNeg).toInt) (c1 : (ca x1.toNatClampNeg).toInt ≤ 99) (n0 : 0 ≤ n.toInt) : okP (f_X5_choose (f_X5_fly d) x1 x2 x3 x4 0 1 x7 6 1 0 1 count ws n fw ft fs hf to on fa ca en se) (EffF (chF (flyP m) (ca x1.toNatClampNeg).toInt x2.toInt x3.toInt x4.toInt) x1.toInt n count ca) := by
  have cx : (x1.toNatClampNeg : Int) = x1.toInt := clI h3
  generalize hc : (ca x1.toNatClampNeg).toInt = c at *
  -- found: the loop ends
  have hend : ∀ (f : Nat) (v9 count : Int32) (ws : Int64) (fw ft fs : Int32) (ca : Nat → Int32) (en : Nat → Int64) (se : Nat → Int32) (Q : Int32 × Int64 × Int32 × Int32 × Int32 × Int32 × (Nat → Int32) × (Nat → Int64) × (Nat → Int32) → Prop), Q (count, ws, -2, fw, ft, fs, ca, en, se) → okP (f_X5_choose_L80 (f_X5_fly d) (f + 1) x1 x2 x3 x4 0 1 x7 0 v9 6 1 0 1 count ws (-2) fw ft fs hf to on fa ca en se) Q := by
    intro f v9 count ws fw ft fs ca en se Q hQ
    show okP (f_X5_choose_L80b (f_X5_fly d) (f_X5_choose_L80 (f_X5_fly d) f) x1 x2 x3 x4 0 1 x7 0 v9 6 1 0 1 count ws (-2) fw ft fs hf to on fa ca en se) _
    unfold f_X5_choose_L80b
    refine ok_ite (fun _ => ok_some hQ) (fun _ => ?_)
    refine ok_bd1 (e_isF (-2)) (fun r q => ?_)
    have q : r = 1 := by
      rcases q with ⟨_, q⟩ | ⟨q, _⟩
      · exact q
      · exact absurd rfl q
    refine ok_ite (fun z => ?_) (fun _ => ok_some hQ)
    rw [q] at z
    exact absurd z (by decide)
  have hl : x4.toInt = 0 → ∀ (f : Nat) (v9 n count : Int32) (ws : Int64) (fw ft fs : Int32) (ca : Nat → Int32) (en : Nat → Int64) (se : Nat → Int32), (8 - v9.toInt).toNat < f → 0 ≤ v9.toInt → v9.toInt ≤ 8 → (ca x1.toNatClampNeg).toInt = c → 0 ≤ n.toInt → okP (f_X5_choose_L80 (f_X5_fly d) f x1 x2 x3 x4 0 1 x7 0 v9 6 1 0 1 count ws n fw ft fs hf to on fa ca en se) (EffF (othF (flyP m) c x2.toInt x3.toInt x4.toInt (8 - v9.toInt).toNat v9.toInt) x1.toInt n count ca) := by
    intro t0 f
    induction f with
    | zero =>
      intro v9 n count ws fw ft fs ca en se hm9
      exact absurd hm9 (Nat.not_lt_zero _)
    | succ f ih =>
      intro v9 n count ws fw ft fs ca en se hm9 v0 v1 hcc n0
      show okP (f_X5_choose_L80b (f_X5_fly d) (f_X5_choose_L80 (f_X5_fly d) f) x1 x2 x3 x4 0 1 x7 0 v9 6 1 0 1 count ws n fw ft fs hf to on fa ca en se) _
      unfold f_X5_choose_L80b
      refine ok_ite (fun a => ?_) (fun a => ?_)
      · have a1 : (8 : Int) ≤ v9.toInt := i_le.mp a
        rw [show (8 - v9.toInt).toNat = 0 by omega]
        exact ok_some (EffF_nil _ _ _ _ _ _ _ _ _ _ n0)
      · have a1 : ¬ (8 : Int) ≤ v9.toInt := fun z => a (i_le.mpr z)
        obtain ⟨n', hn', hn2⟩ : ∃ n' : Nat, (8 - v9.toInt).toNat = n' + 1 ∧ (8 - (v9.toInt + 1)).toNat = n' := ⟨(8 - (v9.toInt + 1)).toNat, by omega, rfl⟩
        have fv : (v9 + 1).toInt = v9.toInt + (1 : Int) := i_add2 rfl rfl (by omega) (by omega)
        have fx : (x4 + 1).toInt = x4.toInt + (1 : Int) := i_add2 rfl rfl (by omega) (by omega)
        have nf : ¬ n = -2 := fun z => by
          rw [z] at n0
          exact absurd n0 (by decide)
        rw [hn']
        refine ok_bd1 (e_isF n) (fun r q => ?_)
        have q : r = 0 := by
          rcases q with ⟨q, _⟩ | ⟨_, q⟩
          · exact absurd q nf
          · exact q
        refine ok_ite (fun _ => ?_) (fun z => absurd q z)
        have step : ∀ (w1 : Int32) (w2 : Int64) (w3 w4 w5 w6 : Int32) (w7 : Nat → Int32) (w8 : Nat → Int64) (w9 : Nat → Int32), (w7 x1.toNatClampNeg).toInt = c → 0 ≤ w3.toInt → okP (f_X5_choose_B152 (f_X5_fly d) (f_X5_choose_L80 (f_X5_fly d) f) x1 x2 x3 x4 0 1 x7 0 v9 6 1 0 1 w1 w2 w3 w4 w5 w6 hf to on fa w7 w8 w9) (EffF (othF (flyP m) c x2.toInt x3.toInt x4.toInt n' (v9.toInt + 1)) x1.toInt w3 w1 w7) := by
          intro w1 w2 w3 w4 w5 w6 w7 w8 w9 e7 e1
          unfold f_X5_choose_B152
          refine ok_nmi (fun x hx kx => ?_)
          have kx2 : x.toInt = v9.toInt + 1 := by omega
          have hh := ih x w3 w1 w2 w4 w5 w6 w7 w8 w9 (by omega) (by omega) (by omega) e7 e1
          rw [kx2, hn2] at hh
          exact hh
        refine ok_ite (fun b => ?_) (fun b => ?_)
        · have b1 : v9.toInt = x2.toInt := i_eq.mp b
          have eP : othF (flyP m) c x2.toInt x3.toInt x4.toInt (n' + 1) v9.toInt = othF (flyP m) c x2.toInt x3.toInt x4.toInt n' (v9.toInt + 1) := by
            show (if v9.toInt = x2.toInt then [] else _) ++ _ = _
            rw [if_pos b1, List.nil_append]
          rw [eP]
          exact step count ws n fw ft fs ca en se hcc n0
        · have b1 : ¬ v9.toInt = x2.toInt := fun z => b (i_eq.mpr z)
          have eP : othF (flyP m) c x2.toInt x3.toInt x4.toInt (n' + 1) v9.toInt = flyP m c v9.toInt x3.toInt (x4.toInt + 1) ++ othF (flyP m) c x2.toInt x3.toInt x4.toInt n' (v9.toInt + 1) := by
            show (if v9.toInt = x2.toInt then [] else _) ++ _ = _
            rw [if_neg b1]
          rw [eP]
          have hh := ihf m x1 v9 x3 (x4 + 1) x7 n count ws fw ft fs hf to on fa ca en se h1 hm h2 h3 v0 (by omega) p0 p1 (by omega) f0 f1 hR (by omega) (by omega) n0
          rw [hcc, fx] at hh
          refine ok_bd9 hh (fun w1 w2 w3 w4 w5 w6 w7 w8 w9 q => ?_)
          have q0 := q
          obtain ⟨q1, q2, q3⟩ := q
          have e7 : w7 x1.toNatClampNeg = ca x1.toNatClampNeg := q2 _ (by omega)
          refine ok_ite (fun _ => ?_) (fun z => absurd rfl z)
          by_cases hw : w3 = -2
          · subst hw
            unfold f_X5_choose_B152
            refine ok_nmx (fun x hx => ?_)
            obtain ⟨f', hf'⟩ : ∃ f' : Nat, f = f' + 1 := ⟨f - 1, by omega⟩
            rw [hf']
            exact hend f' x w1 w2 w4 w5 w6 w7 w8 w9 _ (EffF_left n0 q0 rfl)
          · have w30 : 0 ≤ w3.toInt := by
              rcases q3 with ⟨_, z, _⟩ | ⟨z1, z2⟩
              · exact absurd z hw
              · have z2 : w3.toInt = n.toInt - ((flyP m c v9.toInt x3.toInt (x4.toInt + 1)).length : Int) := z2
                omega
            refine ok_mono (step w1 w2 w3 w4 w5 w6 w7 w8 w9 (by rw [e7]; exact hcc) w30) (fun v hv => EffF_right q0 hw hv)
  unfold f_X5_choose
  refine ok_ite (fun _ => ?_) (fun z => absurd rfl z)
  unfold f_X5_choose_B21 f_X5_choose_B22
  have hh := ihf m x1 x2 x3 x4 x7 n count ws fw ft fs hf to on fa ca en se h1 hm h2 h3 k0 k1 p0 p1 t01 f0 f1 hR (by omega) (by omega) n0
  rw [hc] at hh
  refine ok_bd9 hh (fun w1 w2 w3 w4 w5 w6 w7 w8 w9 q => ?_)
  have q0 := q
  obtain ⟨q1, q2, q3⟩ := q
  have e7 : w7 x1.toNatClampNeg = ca x1.toNatClampNeg := q2 _ (by omega)
  refine ok_ite (fun _ => ?_) (fun z => absurd rfl z)
  unfold f_X5_choose_B67 chF
  refine ok_ite (fun a => ?_) (fun a => ?_)
  · have a1 : x4.toInt < (1 : Int) := i_lt.mp a
    rw [if_pos a1]
    by_cases hw : w3 = -2
    · subst hw
      obtain ⟨f', hf'⟩ := FU_s 1 (by omega)
      rw [hf']
      exact hend f' 0 w1 w2 w4 w5 w6 w7 w8 w9 _ (EffF_left n0 q0 rfl)
    · have w30 : 0 ≤ w3.toInt := by
        rcases q3 with ⟨_, z, _⟩ | ⟨z1, z2⟩
        · exact absurd z hw
        · have z2 : w3.toInt = n.toInt - ((flyP m c x2.toInt x3.toInt x4.toInt).length : Int) := z2
          omega
      exact ok_mono (hl (by omega) FU 0 w3 w1 w2 w4 w5 w6 w7 w8 w9 (FU_gt (by decide)) (by decide) (by decide) (by rw [e7]; exact hc) w30) (fun v hv => EffF_right q0 hw hv)
  · have a1 : ¬ x4.toInt < (1 : Int) := fun z => a (i_lt.mpr z)
    rw [if_neg a1, List.append_nil]
    exact ok_some q0
theorem e_arriveF (x1 x2 n count : Int32) (ws : Int64) (fw ft fs : Int32) (ca : Nat → Int32) (en : Nat → Int64) (ht : x2.toInt = 0 ∨ x2.toInt = 1) (n0 : 0 ≤ n.toInt) : okP (f_X5_arrive x1 x2 0 1 6 1 count ws n fw ft fs ca en) (fun u => u.1 = count ∧ ((n.toInt = 0 ∧ u.2.2.1 = -2 ∧ u.2.2.2.1 = wt x2.toInt ∧ u.2.2.2.2.1 = x2 ∧ u.2.2.2.2.2.1 = 0) ∨ (1 ≤ n.toInt ∧ u.2.2.1.toInt = n.toInt - 1))) := by
  unfold f_X5_arrive
  refine ok_nmx (fun w hw => ?_)
  have hw2 := wt_is ht hw
  refine ok_ite (fun a => ?_) (fun a => ?_)
  · have a1 : n.toInt ≤ (0 : Int) := i_le.mp a
    refine ok_ite (fun b => ?_) (fun b => ?_)
    · exact ok_some ⟨rfl, Or.inl ⟨by omega, rfl, hw2, rfl, rfl⟩⟩
    · have b1 : ¬ n.toInt = (0 : Int) := fun z => b (i_eq.mpr z)
      omega
  · have a1 : ¬ n.toInt ≤ (0 : Int) := fun z => a (i_le.mpr z)
    have fn : (n - 1).toInt = n.toInt - (1 : Int) := i_sub2 rfl rfl (by omega) (by have := i_hi n; omega)
    refine ok_nmi (fun x hx kx => ?_)
    exact ok_some ⟨rfl, Or.inr ⟨by omega, by show x.toInt = _; omega⟩⟩
set_option maxHeartbeats 4000000 in
theorem flyF : ∀ d : Nat, FlyF d := by
  intro d
  induction d with
  | zero =>
    intro m x1 x2 x3 x4 x7 n count ws fw ft fs hf to on fa ca en se h1 hm h2
    exfalso
    omega
  | succ d ih =>
    intro m x1 x2 x3 x4 x7 n count ws fw ft fs hf to on fa ca en se h1 hm h2 h3 k0 k1 p0 p1 t01 f0 f1 hR c0 c1 n0
    have cx : (x1.toNatClampNeg : Int) = x1.toInt := clI h3
    show okP (f_X5_flyb (f_X5_fly d) x1 x2 x3 x4 0 1 x7 6 1 0 1 count ws n fw ft fs hf to on fa ca en se) _
    generalize hc : ca x1.toNatClampNeg = cc at *
    obtain ⟨m', hm'⟩ : ∃ m' : Nat, m = m' + 1 := ⟨m - 1, by omega⟩
    subst hm'
    unfold f_X5_flyb
    rw [hc]
    have sq : 1 ≤ x3.toInt * x3.toInt ∧ x3.toInt * x3.toInt ≤ 9 := by
      have h : x3.toInt = 1 ∨ x3.toInt = 2 ∨ x3.toInt = 3 := by omega
      rcases h with h | h | h <;> rw [h] <;> omega
    have g1 : (x3 * x3).toInt = x3.toInt * x3.toInt := i_mul2 rfl rfl (by omega) (by omega)
    have g2 : (x7 - (x3 * x3)).toInt = x7.toInt - (x3 * x3).toInt := i_sub2 rfl rfl (by omega) (by omega)
    have g3 : (x1 + 1).toInt = x1.toInt + (1 : Int) := i_add2 rfl rfl (by omega) (by omega)
    have cx1 : ((x1 + 1).toNatClampNeg : Int) = x1.toInt + 1 := by
      rw [clI (by omega)]
      omega
    refine ok_nmi (fun fl hfl kfl => ?_)
    refine ok_ite (fun a => ?_) (fun a => ?_)
    · have : x1.toInt < (0 : Int) := i_lt.mp a
      omega
    refine ok_ite (fun a => ?_) (fun a => ?_)
    · have : (6 : Int) ≤ x1.toInt := i_le.mp a
      omega
    refine ok_ite (fun a => ?_) (fun a => ?_)
    · have : (6 : Int) ≤ x1.toInt := i_le.mp a
      omega
    refine ok_ite (fun a => ?_) (fun a => ?_)
    rotate_left
    · have : ¬ (0 : Int) ≤ fl.toInt := fun z => a (i_le.mpr z)
      omega
    refine ok_chk (ix (by omega) (by omega)) ?_
    refine ok_nmx (fun c3 hc3 => ?_)
    subst hc3
    refine ok_bd1 (e_aheadS c3 x2 x3 c0 c1 k0 k1 (by omega) p1) (fun g q => ?_)
    replace q : g.toInt = gI c3.toInt x2.toInt x3.toInt := q
    have hg := gI_rng (c := c3.toInt) (k := x2.toInt) (s := x3.toInt)
    refine ok_ite (fun a => ?_) (fun a => ?_)
    · have a1 : g.toInt = (-1 : Int) := i_eq.mp a
      have eP : flyP (m' + 1) c3.toInt x2.toInt x3.toInt x4.toInt = [] := by
        show (if gI c3.toInt x2.toInt x3.toInt = -1 then [] else _) = []
        rw [if_pos (by omega)]
      rw [eP]
      exact ok_some (EffF_nil _ _ _ _ _ _ _ _ _ _ n0)
    have a1 : ¬ g.toInt = (-1 : Int) := fun z => a (i_eq.mpr z)
    refine ok_bd1 (s_X6_isCell c3) (fun r5 q5 => ?_)
    replace q5 : (r5.toInt = 1 ∧ 0 ≤ c3.toInt ∧ c3.toInt < 100) ∨ (r5.toInt = 0 ∧ (c3.toInt < 0 ∨ 100 ≤ c3.toInt)) := q5
    refine ok_ite (fun b => ?_) (fun b => ?_)
    · have : r5.toInt = (0 : Int) := i_eq.mp b
      omega
    refine ok_bd1 (e_isLet1 x1 c3 hR h3 (by omega)) (fun r6 q6 => ?_)
    replace q6 : r6 = 1 := q6
    refine ok_ite (fun b => ?_) (fun b => ?_)
    · rw [q6] at b
      exact absurd b (by decide)
    refine ok_bd1 (e_isLet1 (x1 + 1) g hR (by omega) (by omega)) (fun r7 q7 => ?_)
    replace q7 : r7 = 1 := q7
    refine ok_ite (fun b => ?_) (fun b => ?_)
    · rw [q7] at b
      exact absurd b (by decide)
    refine ok_chk (ix (by omega) (by omega)) ?_
    refine ok_chk (ix (by omega) (by omega)) ?_
    refine ok_bd1 (e_ringGives1 (x1 + 1) _ _ hR (by omega) (by omega)) (fun r8 q8 => ?_)
    replace q8 : r8 = 1 := q8
    refine ok_nmx (fun h9 hh9 => ?_)
    rw [q8, show (1 * 1 : Int32) = 1 by decide] at hh9
    subst hh9
    refine ok_ite (fun b => absurd b (by decide)) (fun _ => ?_)
    refine ok_chk (ix (by omega) (by omega)) ?_
    have gq : ¬ gI c3.toInt x2.toInt x3.toInt = -1 := by omega
    have up : ∀ j : Nat, (j : Int) ≤ x1.toInt → upd ca (x1 + 1).toNatClampNeg g j = ca j := fun j hj => upd_no (by omega)
    refine ok_ite (fun b => ?_) (fun b => ?_)
    · have b1 : (x1 + 1).toInt = (6 : Int) := i_eq.mp b
      have e0 : m' = 0 := by omega
      subst e0
      have eP : flyP (0 + 1) c3.toInt x2.toInt x3.toInt x4.toInt = [([g.toInt], x4.toInt)] := by
        show (if gI c3.toInt x2.toInt x3.toInt = -1 then [] else if 0 = 0 then [([gI c3.toInt x2.toInt x3.toInt], x4.toInt)] else _) = _
        rw [if_neg gq, if_pos rfl, q]
      rw [eP]
      refine ok_bd7 (e_arriveF x2 x4 n count ws fw ft fs (upd ca (x1 + 1).toNatClampNeg g) en t01 n0) (fun w1 w2 w3 w4 w5 w6 w7 qa => ?_)
      obtain ⟨y1, y2⟩ := qa
      have y1 : w1 = count := y1
      subst y1
      unfold f_X5_fly_B175
      refine ok_ite (fun _ => ?_) (fun z => absurd (Int32.le_refl w1) z)
      refine ok_some ⟨rfl, up, ?_⟩
      rcases y2 with ⟨z0, z1, z2, z3, z4⟩ | ⟨z0, z1⟩
      · refine Or.inl ⟨by show n.toInt < 1; omega, z1, ([g.toInt], x4.toInt), ?_, z2, ?_, z4, ?_⟩
        · rw [z0]
          rfl
        · have z3 : w5 = x4 := z3
          show w5.toInt = x4.toInt
          rw [z3]
        · intro j i hj hi
          have hj : j < 1 := hj
          have ej : j = 0 := by omega
          subst ej
          have ei : i = (x1 + 1).toNatClampNeg := by omega
          show (upd ca (x1 + 1).toNatClampNeg g i).toInt = g.toInt
          rw [ei, upd_is]
      · exact Or.inr ⟨z0, z1⟩
    · have b1 : ¬ (x1 + 1).toInt = (6 : Int) := fun z => b (i_eq.mpr z)
      have e0 : ¬ m' = 0 := by omega
      have eP : flyP (m' + 1) c3.toInt x2.toInt x3.toInt x4.toInt = (chF (flyP m') g.toInt x2.toInt x3.toInt x4.toInt).map (fun it => (g.toInt :: it.1, it.2)) := by
        show (if gI c3.toInt x2.toInt x3.toInt = -1 then [] else if m' = 0 then _ else (chF (flyP m') (gI c3.toInt x2.toInt x3.toInt) x2.toInt x3.toInt x4.toInt).map (fun it => (gI c3.toInt x2.toInt x3.toInt :: it.1, it.2))) = _
        rw [if_neg gq, if_neg e0, q]
      rw [eP]
      have ug : upd ca (x1 + 1).toNatClampNeg g (x1 + 1).toNatClampNeg = g := upd_is
      have hh := chooseF d ih m' (x1 + 1) x2 x3 x4 fl n count ws fw ft fs hf to on fa (upd ca (x1 + 1).toNatClampNeg g) en se (by omega) (by omega) (by omega) (by omega) k0 k1 p0 p1 t01 (by omega) (by omega) hR (by rw [ug]; omega) (by rw [ug]; omega) n0
      rw [ug] at hh
      refine ok_bd9 hh (fun w1 w2 w3 w4 w5 w6 w7 w8 w9 q => ?_)
      obtain ⟨y1, y2, y3⟩ := q
      have y1 : w1 = count := y1
      have y2 : ∀ j : Nat, (j : Int) ≤ (x1 + 1).toInt → w7 j = upd ca (x1 + 1).toNatClampNeg g j := y2
      subst y1
      have up2 : ∀ j : Nat, (j : Int) ≤ x1.toInt → w7 j = ca j := fun j hj => by
        rw [y2 j (by omega)]
        exact up j hj
      unfold f_X5_fly_B175
      refine ok_ite (fun _ => ?_) (fun z => absurd (Int32.le_refl w1) z)
      refine ok_some ⟨rfl, up2, ?_⟩
      rcases y3 with ⟨z0, z1, it, z2, z3, z4, z5, z6⟩ | ⟨z0, z1⟩
      · refine Or.inl ⟨by rw [List.length_map]; exact z0, z1, (g.toInt :: it.1, it.2), ?_, z3, z4, z5, ?_⟩
        · rw [List.getElem?_map, z2]
          rfl
        · intro j i hj hi
          show (w7 i).toInt = (g.toInt :: it.1).getD j 0
          have hj : j < it.1.length + 1 := hj
          cases j with
          | zero =>
            have ei : i = (x1 + 1).toNatClampNeg := by omega
            rw [y2 i (by omega), ei, upd_is]
            rfl
          | succ j =>
            exact z6 j i (by omega) (by omega)
      · exact Or.inr ⟨by rw [List.length_map]; exact z0, by rw [List.length_map]; exact z1⟩
