/-! All ways are counted and weighed. -/
def EffN (A : List (Int × Int × Int)) (S : List (Int × Int)) (h : Int) (count : Int32) (ws : Int64) (en : Nat → Int64) (se ca : Nat → Int32) (u : Int32 × Int64 × Int32 × Int32 × Int32 × Int32 × (Nat → Int32) × (Nat → Int64) × (Nat → Int32)) : Prop := u.1.toInt = count.toInt + (A.length : Int) ∧ u.2.1 = A.foldl wsU ws ∧ u.2.2.1 = -1 ∧ (∀ j : Nat, (j : Int) ≤ h → u.2.2.2.2.2.2.1 j = ca j) ∧ u.2.2.2.2.2.2.2.1 = A.foldl arrU en ∧ u.2.2.2.2.2.2.2.2 = S.foldl seeU se
theorem EffN_nil (h : Int) (count : Int32) (ws : Int64) (fw ft fs : Int32) (en : Nat → Int64) (se ca : Nat → Int32) : EffN [] [] h count ws en se ca (count, ws, -1, fw, ft, fs, ca, en, se) := ⟨by show count.toInt = count.toInt + 0; omega, rfl, rfl, fun _ _ => rfl, rfl, rfl⟩
theorem EffN_app {A B : List (Int × Int × Int)} {S T : List (Int × Int)} {h : Int} {count : Int32} {ws : Int64} {en : Nat → Int64} {se ca : Nat → Int32} {w1 : Int32} {w2 : Int64} {w3 w4 w5 w6 : Int32} {w7 : Nat → Int32} {w8 : Nat → Int64} {w9 : Nat → Int32} {v : Int32 × Int64 × Int32 × Int32 × Int32 × Int32 × (Nat → Int32) × (Nat → Int64) × (Nat → Int32)} (a : EffN A S h count ws en se ca (w1, w2, w3, w4, w5, w6, w7, w8, w9)) (b : EffN B T h w1 w2 w8 w9 w7 v) : EffN (A ++ B) (S ++ T) h count ws en se ca v := by
  obtain ⟨a1, a2, a3, a4, a5, a6⟩ := a
  obtain ⟨b1, b2, b3, b4, b5, b6⟩ := b
  have a1 : w1.toInt = count.toInt + (A.length : Int) := a1
  have a2 : w2 = A.foldl wsU ws := a2
  have a5 : w8 = A.foldl arrU en := a5
  have a6 : w9 = S.foldl seeU se := a6
  refine ⟨?_, ?_, b3, fun j hj => ?_, ?_, ?_⟩
  · rw [List.length_append, b1, a1]
    omega
  · rw [b2, a2, List.foldl_append]
  · rw [b4 j hj]
    exact a4 j hj
  · rw [b5, a5, List.foldl_append]
  · rw [b6, a6, List.foldl_append]
def FlyN (d : Nat) : Prop := ∀ (m : Nat) (x1 x2 x3 x4 x7 count : Int32) (ws : Int64) (fw ft fs : Int32) (hf to on fa ca : Nat → Int32) (en : Nat → Int64) (se : Nat → Int32), 7 ≤ x1.toInt + (d : Int) → 1 ≤ m → x1.toInt + (m : Int) = 6 → 0 ≤ x1.toInt → 0 ≤ x2.toInt → x2.toInt < 8 → 1 ≤ x3.toInt → x3.toInt ≤ 3 → (x4.toInt = 0 ∨ x4.toInt = 1) → 9 * (m : Int) ≤ x7.toInt → x7.toInt ≤ 60 → RNone hf to on → 0 ≤ (ca x1.toNatClampNeg).toInt → (ca x1.toNatClampNeg).toInt ≤ 99 → 0 ≤ count.toInt → count.toInt + ((flyE m (ca x1.toNatClampNeg).toInt x2.toInt x3.toInt x4.toInt).length : Int) ≤ 100000 → okP (f_X5_fly d x1 x2 x3 x4 0 1 x7 6 1 0 1 count ws (-1) fw ft fs hf to on fa ca en se) (EffN (flyE m (ca x1.toNatClampNeg).toInt x2.toInt x3.toInt x4.toInt) (flyS m (ca x1.toNatClampNeg).toInt x2.toInt x3.toInt x4.toInt) x1.toInt count ws en se ca)
theorem e_nf : okP (f_X5_isFound (-1)) (fun r => r = 0) := by
  unfold f_X5_isFound
  exact ok_ite (fun z => absurd z (by decide)) (fun _ => ok_some rfl)
set_option maxHeartbeats 4000000 in
theorem chooseN (d : Nat) (ihf : FlyN d) (m : Nat) (x1 x2 x3 x4 x7 count : Int32) (ws : Int64) (fw ft fs : Int32) (hf to on fa ca : Nat → Int32) (en : Nat → Int64) (se : Nat → Int32) (h1 : 7 ≤ x1.toInt + (d : Int)) (hm : 1 ≤ m) (h2 : x1.toInt + (m : Int) = 6) (h3 : 0 ≤ x1.toInt) (k0 : 0 ≤ x2.toInt) (k1 : x2.toInt < 8) (p0 : 1 ≤ x3.toInt) (p1 : x3.toInt ≤ 3) (t01 : x4.toInt = 0 ∨ x4.toInt = 1) (f0 : 9 * (m : Int) ≤ x7.toInt) (f1 : x7.toInt ≤ 60) (hR : RNone hf to on) (c0 : 0 ≤ (ca x1.toNatClampNeg).toInt) (c1 : (ca x1.toNatClampNeg).toInt ≤ 99) (n0 : 0 ≤ count.toInt) (n1 : count.toInt + ((chF (flyE m) (ca x1.toNatClampNeg).toInt x2.toInt x3.toInt x4.toInt).length : Int) ≤ 100000) : okP (f_X5_choose (f_X5_fly d) x1 x2 x3 x4 0 1 x7 6 1 0 1 count ws (-1) fw ft fs hf to on fa ca en se) (EffN (chF (flyE m) (ca x1.toNatClampNeg).toInt x2.toInt x3.toInt x4.toInt) (chF (flyS m) (ca x1.toNatClampNeg).toInt x2.toInt x3.toInt x4.toInt) x1.toInt count ws en se ca) := by
  have cx : (x1.toNatClampNeg : Int) = x1.toInt := clI h3
  generalize hc : (ca x1.toNatClampNeg).toInt = c at *
  have hl : x4.toInt = 0 → ∀ (n : Nat) (v9 count : Int32) (ws : Int64) (fw ft fs : Int32) (ca : Nat → Int32) (en : Nat → Int64) (se : Nat → Int32), (8 - v9.toInt).toNat < n → 0 ≤ v9.toInt → v9.toInt ≤ 8 → (ca x1.toNatClampNeg).toInt = c → 0 ≤ count.toInt → count.toInt + ((othF (flyE m) c x2.toInt x3.toInt x4.toInt (8 - v9.toInt).toNat v9.toInt).length : Int) ≤ 100000 → okP (f_X5_choose_L80 (f_X5_fly d) n x1 x2 x3 x4 0 1 x7 0 v9 6 1 0 1 count ws (-1) fw ft fs hf to on fa ca en se) (EffN (othF (flyE m) c x2.toInt x3.toInt x4.toInt (8 - v9.toInt).toNat v9.toInt) (othF (flyS m) c x2.toInt x3.toInt x4.toInt (8 - v9.toInt).toNat v9.toInt) x1.toInt count ws en se ca) := by
    intro t0 n
    induction n with
    | zero =>
      intro v9 count ws fw ft fs ca en se hm9
      exact absurd hm9 (Nat.not_lt_zero _)
    | succ n ih =>
      intro v9 count ws fw ft fs ca en se hm9 v0 v1 hcc n0 n1
      show okP (f_X5_choose_L80b (f_X5_fly d) (f_X5_choose_L80 (f_X5_fly d) n) x1 x2 x3 x4 0 1 x7 0 v9 6 1 0 1 count ws (-1) fw ft fs hf to on fa ca en se) _
      unfold f_X5_choose_L80b
      refine ok_ite (fun a => ?_) (fun a => ?_)
      · have a1 : (8 : Int) ≤ v9.toInt := i_le.mp a
        rw [show (8 - v9.toInt).toNat = 0 by omega]
        exact ok_some (EffN_nil _ _ _ _ _ _ _ _ _)
      · have a1 : ¬ (8 : Int) ≤ v9.toInt := fun z => a (i_le.mpr z)
        obtain ⟨n', hn', hn2⟩ : ∃ n' : Nat, (8 - v9.toInt).toNat = n' + 1 ∧ (8 - (v9.toInt + 1)).toNat = n' := ⟨(8 - (v9.toInt + 1)).toNat, by omega, rfl⟩
        have fv : (v9 + 1).toInt = v9.toInt + (1 : Int) := i_add2 rfl rfl (by omega) (by omega)
        have fx : (x4 + 1).toInt = x4.toInt + (1 : Int) := i_add2 rfl rfl (by omega) (by omega)
        rw [hn'] at n1 ⊢
        refine ok_bd1 e_nf (fun r q => ?_)
        replace q : r = 0 := q
        refine ok_ite (fun _ => ?_) (fun z => absurd q z)
        have step : ∀ (w1 : Int32) (w2 : Int64) (w4 w5 w6 : Int32) (w7 : Nat → Int32) (w8 : Nat → Int64) (w9 : Nat → Int32), (w7 x1.toNatClampNeg).toInt = c → 0 ≤ w1.toInt → w1.toInt + ((othF (flyE m) c x2.toInt x3.toInt x4.toInt n' (v9.toInt + 1)).length : Int) ≤ 100000 → okP (f_X5_choose_B152 (f_X5_fly d) (f_X5_choose_L80 (f_X5_fly d) n) x1 x2 x3 x4 0 1 x7 0 v9 6 1 0 1 w1 w2 (-1) w4 w5 w6 hf to on fa w7 w8 w9) (EffN (othF (flyE m) c x2.toInt x3.toInt x4.toInt n' (v9.toInt + 1)) (othF (flyS m) c x2.toInt x3.toInt x4.toInt n' (v9.toInt + 1)) x1.toInt w1 w2 w8 w9 w7) := by
          intro w1 w2 w4 w5 w6 w7 w8 w9 e7 e1 e2
          unfold f_X5_choose_B152
          refine ok_nmi (fun x hx kx => ?_)
          have kx2 : x.toInt = v9.toInt + 1 := by omega
          have hh := ih x w1 w2 w4 w5 w6 w7 w8 w9 (by omega) (by omega) (by omega) e7 e1
          rw [kx2, hn2] at hh
          exact hh e2
        refine ok_ite (fun b => ?_) (fun b => ?_)
        · have b1 : v9.toInt = x2.toInt := i_eq.mp b
          have eE : othF (flyE m) c x2.toInt x3.toInt x4.toInt (n' + 1) v9.toInt = othF (flyE m) c x2.toInt x3.toInt x4.toInt n' (v9.toInt + 1) := by
            show (if v9.toInt = x2.toInt then [] else _) ++ _ = _
            rw [if_pos b1, List.nil_append]
          have eS : othF (flyS m) c x2.toInt x3.toInt x4.toInt (n' + 1) v9.toInt = othF (flyS m) c x2.toInt x3.toInt x4.toInt n' (v9.toInt + 1) := by
            show (if v9.toInt = x2.toInt then [] else _) ++ _ = _
            rw [if_pos b1, List.nil_append]
          rw [eE] at n1 ⊢
          rw [eS]
          exact step count ws fw ft fs ca en se hcc n0 n1
        · have b1 : ¬ v9.toInt = x2.toInt := fun z => b (i_eq.mpr z)
          have eE : othF (flyE m) c x2.toInt x3.toInt x4.toInt (n' + 1) v9.toInt = flyE m c v9.toInt x3.toInt (x4.toInt + 1) ++ othF (flyE m) c x2.toInt x3.toInt x4.toInt n' (v9.toInt + 1) := by
            show (if v9.toInt = x2.toInt then [] else _) ++ _ = _
            rw [if_neg b1]
          have eS : othF (flyS m) c x2.toInt x3.toInt x4.toInt (n' + 1) v9.toInt = flyS m c v9.toInt x3.toInt (x4.toInt + 1) ++ othF (flyS m) c x2.toInt x3.toInt x4.toInt n' (v9.toInt + 1) := by
            show (if v9.toInt = x2.toInt then [] else _) ++ _ = _
            rw [if_neg b1]
          rw [eE, List.length_append] at n1
          rw [eE, eS]
          have hh := ihf m x1 v9 x3 (x4 + 1) x7 count ws fw ft fs hf to on fa ca en se h1 hm h2 h3 v0 (by omega) p0 p1 (by omega) f0 f1 hR (by omega) (by omega) n0
          rw [hcc, fx] at hh
          refine ok_bd9 (hh (by omega)) (fun w1 w2 w3 w4 w5 w6 w7 w8 w9 q => ?_)
          have q0 := q
          obtain ⟨q1, q2, q3, q4, q5, q6⟩ := q
          have e1 : w1.toInt = count.toInt + ((flyE m c v9.toInt x3.toInt (x4.toInt + 1)).length : Int) := q1
          have e3 : w3 = -1 := q3
          have e7 : w7 x1.toNatClampNeg = ca x1.toNatClampNeg := q4 _ (by omega)
          subst e3
          refine ok_ite (fun _ => ?_) (fun z => absurd rfl z)
          refine ok_mono (step w1 w2 w4 w5 w6 w7 w8 w9 (by rw [e7]; exact hcc) (by omega) (by omega)) (fun v hv => EffN_app q0 hv)
  unfold f_X5_choose
  refine ok_ite (fun _ => ?_) (fun z => absurd rfl z)
  unfold f_X5_choose_B21 f_X5_choose_B22
  have nA : (chF (flyE m) c x2.toInt x3.toInt x4.toInt).length = (flyE m c x2.toInt x3.toInt x4.toInt).length + (if x4.toInt < 1 then othF (flyE m) c x2.toInt x3.toInt x4.toInt 8 0 else []).length := by
    unfold chF
    rw [List.length_append]
  rw [nA] at n1
  have hh := ihf m x1 x2 x3 x4 x7 count ws fw ft fs hf to on fa ca en se h1 hm h2 h3 k0 k1 p0 p1 t01 f0 f1 hR (by omega) (by omega) n0
  rw [hc] at hh
  refine ok_bd9 (hh (by omega)) (fun w1 w2 w3 w4 w5 w6 w7 w8 w9 q => ?_)
  have q0 := q
  obtain ⟨q1, q2, q3, q4, q5, q6⟩ := q
  have e1 : w1.toInt = count.toInt + ((flyE m c x2.toInt x3.toInt x4.toInt).length : Int) := q1
  have e3 : w3 = -1 := q3
  have e7 : w7 x1.toNatClampNeg = ca x1.toNatClampNeg := q4 _ (by omega)
  subst e3
  refine ok_ite (fun _ => ?_) (fun z => absurd rfl z)
  unfold f_X5_choose_B67 chF
  refine ok_ite (fun a => ?_) (fun a => ?_)
  · have a1 : x4.toInt < (1 : Int) := i_lt.mp a
    rw [if_pos a1] at n1
    rw [if_pos a1, if_pos a1]
    refine ok_mono (hl (by omega) FU 0 w1 w2 w4 w5 w6 w7 w8 w9 (FU_gt (by decide)) (by decide) (by decide) (by rw [e7]; exact hc) (by omega) ?_) (fun v hv => EffN_app q0 hv)
    show w1.toInt + ((othF (flyE m) c x2.toInt x3.toInt x4.toInt 8 0).length : Int) ≤ 100000
    omega
  · have a1 : ¬ x4.toInt < (1 : Int) := fun z => a (i_lt.mpr z)
    rw [if_neg a1, if_neg a1, List.append_nil, List.append_nil]
    exact ok_some q0
set_option maxHeartbeats 4000000 in
theorem flyN : ∀ d : Nat, FlyN d := by
  intro d
  induction d with
  | zero =>
    intro m x1 x2 x3 x4 x7 count ws fw ft fs hf to on fa ca en se h1 hm h2
    exfalso
    omega
  | succ d ih =>
    intro m x1 x2 x3 x4 x7 count ws fw ft fs hf to on fa ca en se h1 hm h2 h3 k0 k1 p0 p1 t01 f0 f1 hR c0 c1 n0 n1
    have cx : (x1.toNatClampNeg : Int) = x1.toInt := clI h3
    show okP (f_X5_flyb (f_X5_fly d) x1 x2 x3 x4 0 1 x7 6 1 0 1 count ws (-1) fw ft fs hf to on fa ca en se) _
    generalize hc : ca x1.toNatClampNeg = cc at *
    obtain ⟨m', hm'⟩ : ∃ m' : Nat, m = m' + 1 := ⟨m - 1, by omega⟩
    subst hm'
    unfold f_X5_flyb
    rw [hc]
    have sq : 1 ≤ x3.toInt * x3.toInt ∧ x3.toInt * x3.toInt ≤ 9 := by
      have h : x3.toInt = 1 ∨ x3.toInt = 2 ∨ x3.toInt = 3 := by omega
      rcases h with h | h | h <;> rw [h] <;> omega
    have g1 : (x3 * x3).toInt = x3.toInt * x3.toInt := i_mul2 rfl rfl (by omega) (by omega)
    have g2 : (x7 - (x3 * x3)).toInt = x7.toInt - (x3 * x3).toInt := i_sub2 rfl rfl (by omega) (by omega)
    have g3 : (x1 + 1).toInt = x1.toInt + (1 : Int) := i_add2 rfl rfl (by omega) (by omega)
    have cx1 : ((x1 + 1).toNatClampNeg : Int) = x1.toInt + 1 := by
      rw [clI (by omega)]
      omega
    refine ok_nmi (fun fl hfl kfl => ?_)
    refine ok_ite (fun a => ?_) (fun a => ?_)
    · have : x1.toInt < (0 : Int) := i_lt.mp a
      omega
    refine ok_ite (fun a => ?_) (fun a => ?_)
    · have : (6 : Int) ≤ x1.toInt := i_le.mp a
      omega
    refine ok_ite (fun a => ?_) (fun a => ?_)
    · have : (6 : Int) ≤ x1.toInt := i_le.mp a
      omega
    refine ok_ite (fun a => ?_) (fun a => ?_)
    rotate_left
    · have : ¬ (0 : Int) ≤ fl.toInt := fun z => a (i_le.mpr z)
      omega
    refine ok_chk (ix (by omega) (by omega)) ?_
    refine ok_nmx (fun c3 hc3 => ?_)
    subst hc3
    refine ok_bd1 (e_aheadS c3 x2 x3 c0 c1 k0 k1 (by omega) p1) (fun g q => ?_)
    replace q : g.toInt = gI c3.toInt x2.toInt x3.toInt := q
    have hg := gI_rng (c := c3.toInt) (k := x2.toInt) (s := x3.toInt)
    refine ok_ite (fun a => ?_) (fun a => ?_)
    · have a1 : g.toInt = (-1 : Int) := i_eq.mp a
      have eE : flyE (m' + 1) c3.toInt x2.toInt x3.toInt x4.toInt = [] := by
        show (if gI c3.toInt x2.toInt x3.toInt = -1 then [] else _) = []
        rw [if_pos (by omega)]
      have eS : flyS (m' + 1) c3.toInt x2.toInt x3.toInt x4.toInt = [] := by
        show (if gI c3.toInt x2.toInt x3.toInt = -1 then [] else _) = []
        rw [if_pos (by omega)]
      rw [eE, eS]
      exact ok_some (EffN_nil _ _ _ _ _ _ _ _ _)
    have a1 : ¬ g.toInt = (-1 : Int) := fun z => a (i_eq.mpr z)
    refine ok_bd1 (s_X6_isCell c3) (fun r5 q5 => ?_)
    replace q5 : (r5.toInt = 1 ∧ 0 ≤ c3.toInt ∧ c3.toInt < 100) ∨ (r5.toInt = 0 ∧ (c3.toInt < 0 ∨ 100 ≤ c3.toInt)) := q5
    refine ok_ite (fun b => ?_) (fun b => ?_)
    · have : r5.toInt = (0 : Int) := i_eq.mp b
      omega
    refine ok_bd1 (e_isLet1 x1 c3 hR h3 (by omega)) (fun r6 q6 => ?_)
    replace q6 : r6 = 1 := q6
    refine ok_ite (fun b => ?_) (fun b => ?_)
    · rw [q6] at b
      exact absurd b (by decide)
    refine ok_bd1 (e_isLet1 (x1 + 1) g hR (by omega) (by omega)) (fun r7 q7 => ?_)
    replace q7 : r7 = 1 := q7
    refine ok_ite (fun b => ?_) (fun b => ?_)
    · rw [q7] at b
      exact absurd b (by decide)
    refine ok_chk (ix (by omega) (by omega)) ?_
    refine ok_chk (ix (by omega) (by omega)) ?_
    refine ok_bd1 (e_ringGives1 (x1 + 1) _ _ hR (by omega) (by omega)) (fun r8 q8 => ?_)
    replace q8 : r8 = 1 := q8
    refine ok_nmx (fun h9 hh9 => ?_)
    rw [q8, show (1 * 1 : Int32) = 1 by decide] at hh9
    subst hh9
    refine ok_ite (fun b => absurd b (by decide)) (fun _ => ?_)
    refine ok_chk (ix (by omega) (by omega)) ?_
    have gq : ¬ gI c3.toInt x2.toInt x3.toInt = -1 := by omega
    have up : ∀ j : Nat, (j : Int) ≤ x1.toInt → upd ca (x1 + 1).toNatClampNeg g j = ca j := fun j hj => upd_no (by omega)
    refine ok_ite (fun b => ?_) (fun b => ?_)
    · have b1 : (x1 + 1).toInt = (6 : Int) := i_eq.mp b
      have e6 : (x1 + 1).toNatClampNeg = 6 := by omega
      have e0 : m' = 0 := by omega
      subst e0
      have eE : flyE (0 + 1) c3.toInt x2.toInt x3.toInt x4.toInt = [(g.toInt, x2.toInt, x4.toInt)] := by
        show (if gI c3.toInt x2.toInt x3.toInt = -1 then [] else if 0 = 0 then [(gI c3.toInt x2.toInt x3.toInt, x2.toInt, x4.toInt)] else _) = _
        rw [if_neg gq, if_pos rfl, q]
      have eS : flyS (0 + 1) c3.toInt x2.toInt x3.toInt x4.toInt = [(6, g.toInt)] := by
        show (if gI c3.toInt x2.toInt x3.toInt = -1 then [] else if 0 = 0 then [(6, gI c3.toInt x2.toInt x3.toInt)] else _) = _
        rw [if_neg gq, if_pos rfl, q]
      rw [eE] at n1
      rw [eE, eS]
      have n2 : count.toInt + 1 ≤ 100000 := n1
      have ug : upd ca (x1 + 1).toNatClampNeg g 6 = g := by rw [e6, upd_is]
      have ha := e_arriveN x2 x4 count ws fw ft fs (upd ca (x1 + 1).toNatClampNeg g) en k0 k1 t01 (by rw [ug]; omega) (by rw [ug]; omega) n0 (by omega)
      rw [ug] at ha
      refine ok_bd7 ha (fun w1 w2 w3 w4 w5 w6 w7 qa => ?_)
      obtain ⟨y1, y2, y3, y4⟩ := qa
      have y1 : w1.toInt = count.toInt + 1 := y1
      have y3 : w3 = -1 := y3
      have y4 : w7 = arrU en (g.toInt, x2.toInt, x4.toInt) := y4
      subst y3
      unfold f_X5_fly_B175
      refine ok_ite (fun z => ?_) (fun z => ?_)
      · have : w1.toInt ≤ count.toInt := i_le.mp z
        omega
      refine ok_bd1 (e_see1 (x1 + 1) g se (by omega) (by omega) (by omega) (by omega)) (fun s1 qs => ?_)
      replace qs : s1 = seeU se ((x1 + 1).toInt, g.toInt) := qs
      rw [b1] at qs
      exact ok_some ⟨y1, y2, rfl, up, y4, qs⟩
    · have b1 : ¬ (x1 + 1).toInt = (6 : Int) := fun z => b (i_eq.mpr z)
      have e0 : ¬ m' = 0 := by omega
      have eE : flyE (m' + 1) c3.toInt x2.toInt x3.toInt x4.toInt = chF (flyE m') g.toInt x2.toInt x3.toInt x4.toInt := by
        show (if gI c3.toInt x2.toInt x3.toInt = -1 then [] else if m' = 0 then _ else chF (flyE m') (gI c3.toInt x2.toInt x3.toInt) x2.toInt x3.toInt x4.toInt) = _
        rw [if_neg gq, if_neg e0, q]
      have eS : flyS (m' + 1) c3.toInt x2.toInt x3.toInt x4.toInt = chF (flyS m') g.toInt x2.toInt x3.toInt x4.toInt ++ (if (chF (flyE m') g.toInt x2.toInt x3.toInt x4.toInt).length = 0 then [] else [(x1.toInt + 1, g.toInt)]) := by
        show (if gI c3.toInt x2.toInt x3.toInt = -1 then [] else if m' = 0 then _ else chF (flyS m') (gI c3.toInt x2.toInt x3.toInt) x2.toInt x3.toInt x4.toInt ++ (if (chF (flyE m') (gI c3.toInt x2.toInt x3.toInt) x2.toInt x3.toInt x4.toInt).length = 0 then [] else [(6 - (m' : Int), gI c3.toInt x2.toInt x3.toInt)])) = _
        rw [if_neg gq, if_neg e0, ← q, show 6 - (m' : Int) = x1.toInt + 1 by omega]
      rw [eE] at n1
      rw [eE, eS]
      have ug : upd ca (x1 + 1).toNatClampNeg g (x1 + 1).toNatClampNeg = g := upd_is
      have hh := chooseN d ih m' (x1 + 1) x2 x3 x4 fl count ws fw ft fs hf to on fa (upd ca (x1 + 1).toNatClampNeg g) en se (by omega) (by omega) (by omega) (by omega) k0 k1 p0 p1 t01 (by omega) (by omega) hR (by rw [ug]; omega) (by rw [ug]; omega) n0
      rw [ug] at hh
      refine ok_bd9 (hh n1) (fun w1 w2 w3 w4 w5 w6 w7 w8 w9 q => ?_)
      obtain ⟨y1, y2, y3, y4, y5, y6⟩ := q
      have y1 : w1.toInt = count.toInt + ((chF (flyE m') g.toInt x2.toInt x3.toInt x4.toInt).length : Int) := y1
      have y3 : w3 = -1 := y3
      have y6 : w9 = (chF (flyS m') g.toInt x2.toInt x3.toInt x4.toInt).foldl seeU se := y6
      subst y3
      have up2 : ∀ j : Nat, (j : Int) ≤ x1.toInt → w7 j = ca j := fun j hj => by
        have z : w7 j = upd ca (x1 + 1).toNatClampNeg g j := y4 j (by omega)
        rw [z]
        exact up j hj
      unfold f_X5_fly_B175
      refine ok_ite (fun z => ?_) (fun z => ?_)
      · have z1 : w1.toInt ≤ count.toInt := i_le.mp z
        rw [if_pos (by omega), List.append_nil]
        exact ok_some ⟨y1, y2, rfl, up2, y5, y6⟩
      · have z1 : ¬ w1.toInt ≤ count.toInt := fun y => z (i_le.mpr y)
        refine ok_bd1 (e_see1 (x1 + 1) g w9 (by omega) (by omega) (by omega) (by omega)) (fun s1 qs => ?_)
        replace qs : s1 = seeU w9 ((x1 + 1).toInt, g.toInt) := qs
        rw [if_neg (by omega)]
        refine ok_some ⟨y1, y2, rfl, up2, y5, ?_⟩
        rw [List.foldl_append, ← y6, ← g3]
        exact qs
