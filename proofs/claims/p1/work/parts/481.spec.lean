/-! Steps of any length; ways as lists; what arriving and seeing do. -/
def gI (c k s : Int) : Int := if 0 ≤ c / 10 + s * dD k ∧ c / 10 + s * dD k ≤ 9 ∧ 0 ≤ c % 10 + s * dR k ∧ c % 10 + s * dR k ≤ 9 then 10 * (c / 10 + s * dD k) + (c % 10 + s * dR k) else -1
theorem gI_rng {c k s : Int} : gI c k s = -1 ∨ (0 ≤ gI c k s ∧ gI c k s ≤ 99) := by
  unfold gI
  split
  · exact Or.inr (by omega)
  · exact Or.inl rfl
theorem sd3 {s d : Int} (s0 : 0 ≤ s) (s1 : s ≤ 3) (h0 : -1 ≤ d) (h1 : d ≤ 1) : -3 ≤ s * d ∧ s * d ≤ 3 := by
  have h : d = -1 ∨ d = 0 ∨ d = 1 := by omega
  rcases h with h | h | h <;> subst h <;> omega
theorem e_aheadS (c k s : Int32) (h0 : 0 ≤ c.toInt) (h1 : c.toInt ≤ 99) (k0 : 0 ≤ k.toInt) (k1 : k.toInt < 8) (s0 : 0 ≤ s.toInt) (s1 : s.toInt ≤ 3) : okP (f_X6_ahead c k s) (fun r => r.toInt = gI c.toInt k.toInt s.toInt) := by
  unfold f_X6_ahead
  refine ok_ite (fun a => ?_) (fun a => ?_)
  · have : c.toInt < (0 : Int) := i_lt.mp a
    omega
  · refine ok_ite (fun a => ?_) (fun a => ?_)
    · have : (100 : Int) ≤ c.toInt := i_le.mp a
      omega
    · refine ok_ite (fun a => ?_) (fun a => ?_)
      · have a1 : k.toInt < (0 : Int) := i_lt.mp a
        omega
      · refine ok_ite (fun a => ?_) (fun a => ?_)
        · have hx : ¬ (k < 0 ∨ 8 ≤ k.toNatClampNeg) := ix (by omega) (by omega)
          have eD := tab_D (k := k) k0 k1
          have eR := tab_R (k := k) k0 k1
          have pD := sd3 s0 s1 (dD_rng k.toInt).1 (dD_rng k.toInt).2
          have pR := sd3 s0 s1 (dR_rng k.toInt).1 (dR_rng k.toInt).2
          have m1 : (s * tabD k.toNatClampNeg).toInt = s.toInt * dD k.toInt := i_mul2 rfl eD (by omega) (by omega)
          have m2 : (s * tabR k.toNatClampNeg).toInt = s.toInt * dR k.toInt := i_mul2 rfl eR (by omega) (by omega)
          have f1 : (c / 10).toInt = c.toInt / (10 : Int) := i_div2 rfl rfl (by omega) (by omega)
          have f2 : (c - c / 10 * 10).toInt = c.toInt % (10 : Int) := i_rem2 rfl rfl (by omega) (by omega)
          have f3 : (c / 10 + s * tabD k.toNatClampNeg).toInt = (c / 10).toInt + (s * tabD k.toNatClampNeg).toInt := i_add2 rfl rfl (by omega) (by omega)
          have f4 : ((c - c / 10 * 10) + s * tabR k.toNatClampNeg).toInt = (c - c / 10 * 10).toInt + (s * tabR k.toNatClampNeg).toInt := i_add2 rfl rfl (by omega) (by omega)
          refine ok_chk hx ?_
          refine ok_nmi (fun x hx1 kx => ?_)
          refine ok_chk hx ?_
          refine ok_nmi (fun y hy1 ky => ?_)
          have kx2 : x.toInt = c.toInt / 10 + s.toInt * dD k.toInt := by omega
          have ky2 : y.toInt = c.toInt % 10 + s.toInt * dR k.toInt := by omega
          have hg : gI c.toInt k.toInt s.toInt = if 0 ≤ x.toInt ∧ x.toInt ≤ 9 ∧ 0 ≤ y.toInt ∧ y.toInt ≤ 9 then 10 * x.toInt + y.toInt else -1 := by
            unfold gI
            rw [kx2, ky2]
          rw [hg]
          clear hg kx2 ky2 kx ky f1 f2 f3 f4 m1 m2 pD pR eD eR hx1 hy1
          have hno : ¬ (0 ≤ x.toInt ∧ x.toInt ≤ 9 ∧ 0 ≤ y.toInt ∧ y.toInt ≤ 9) → okP (f_X6_ahead_B75 x y) (fun r => r.toInt = if 0 ≤ x.toInt ∧ x.toInt ≤ 9 ∧ 0 ≤ y.toInt ∧ y.toInt ≤ 9 then 10 * x.toInt + y.toInt else -1) := by
            intro hn
            unfold f_X6_ahead_B75 f_X6_ahead_B76
            refine ok_ite (fun _ => ?_) (fun z => absurd rfl z)
            exact ok_some (by rw [if_neg hn]; rfl)
          refine ok_ite (fun b => ?_) (fun b => ?_)
          · have b1 : x.toInt < (0 : Int) := i_lt.mp b
            exact hno (by omega)
          · have b1 : ¬ x.toInt < (0 : Int) := fun z => b (i_lt.mpr z)
            refine ok_ite (fun b => ?_) (fun b => ?_)
            · have b2 : (10 : Int) ≤ x.toInt := i_le.mp b
              exact hno (by omega)
            · have b2 : ¬ (10 : Int) ≤ x.toInt := fun z => b (i_le.mpr z)
              refine ok_ite (fun b => ?_) (fun b => ?_)
              · have b3 : y.toInt < (0 : Int) := i_lt.mp b
                exact hno (by omega)
              · have b3 : ¬ y.toInt < (0 : Int) := fun z => b (i_lt.mpr z)
                refine ok_ite (fun b => ?_) (fun b => ?_)
                · have b4 : (10 : Int) ≤ y.toInt := i_le.mp b
                  exact hno (by omega)
                · have b4 : ¬ (10 : Int) ≤ y.toInt := fun z => b (i_le.mpr z)
                  unfold f_X6_ahead_B76
                  refine ok_ite (fun z => absurd z (by decide)) (fun _ => ?_)
                  have f5 : (10 * x).toInt = (10 : Int) * x.toInt := i_mul2 rfl rfl (by omega) (by omega)
                  have f6 : ((10 * x) + y).toInt = (10 * x).toInt + y.toInt := i_add2 rfl rfl (by omega) (by omega)
                  exact ok_some (by rw [if_pos (by omega)]; omega)
        · have a2 : ¬ k.toInt < (8 : Int) := fun z => a (i_lt.mpr z)
          omega
theorem e_goneS (c k s : Int32) (h0 : 0 ≤ c.toInt) (h1 : c.toInt ≤ 99) (k0 : 0 ≤ k.toInt) (k1 : k.toInt < 8) (s0 : 0 ≤ s.toInt) (s1 : s.toInt ≤ 3) : okP (f_X7_gone c k s) (fun r => (gI c.toInt k.toInt s.toInt = -1 ∧ r.toInt = -4) ∨ (¬ gI c.toInt k.toInt s.toInt = -1 ∧ r.toInt = gI c.toInt k.toInt s.toInt)) := by
  unfold f_X7_gone
  have pD := sd3 s0 s1 (dD_rng k.toInt).1 (dD_rng k.toInt).2
  have pR := sd3 s0 s1 (dR_rng k.toInt).1 (dR_rng k.toInt).2
  refine ok_bd1 (e_rowStep k) (fun r1 q1 => ?_)
  replace q1 : r1.toInt = dD k.toInt := q1
  have cm1 : r1.toInt * s.toInt = s.toInt * dD k.toInt := by rw [q1, Int.mul_comm]
  have m1 : (r1 * s).toInt = r1.toInt * s.toInt := i_mul2 rfl rfl (by omega) (by omega)
  have f1 : (c / 10).toInt = c.toInt / (10 : Int) := i_div2 rfl rfl (by omega) (by omega)
  have f2 : (c - c / 10 * 10).toInt = c.toInt % (10 : Int) := i_rem2 rfl rfl (by omega) (by omega)
  have f3 : (c / 10 + r1 * s).toInt = (c / 10).toInt + (r1 * s).toInt := i_add2 rfl rfl (by omega) (by omega)
  refine ok_nmi (fun x hx kx => ?_)
  refine ok_bd1 (e_columnStep k) (fun r2 q2 => ?_)
  replace q2 : r2.toInt = dR k.toInt := q2
  have cm2 : r2.toInt * s.toInt = s.toInt * dR k.toInt := by rw [q2, Int.mul_comm]
  have m2 : (r2 * s).toInt = r2.toInt * s.toInt := i_mul2 rfl rfl (by omega) (by omega)
  have f4 : ((c - c / 10 * 10) + r2 * s).toInt = (c - c / 10 * 10).toInt + (r2 * s).toInt := i_add2 rfl rfl (by omega) (by omega)
  refine ok_nmi (fun y hy ky => ?_)
  have kx2 : x.toInt = c.toInt / 10 + s.toInt * dD k.toInt := by omega
  have ky2 : y.toInt = c.toInt % 10 + s.toInt * dR k.toInt := by omega
  have hg : gI c.toInt k.toInt s.toInt = if 0 ≤ x.toInt ∧ x.toInt ≤ 9 ∧ 0 ≤ y.toInt ∧ y.toInt ≤ 9 then 10 * x.toInt + y.toInt else -1 := by
    unfold gI
    rw [kx2, ky2]
  rw [hg]
  clear hg kx2 ky2 kx ky f1 f2 f3 f4 m1 m2 cm1 cm2 pD pR q1 q2 hx hy
  refine ok_bd1 (s_X7_in _ 0 9) (fun u hu => ?_)
  replace hu : (u.toInt = 1 ∧ (0 : Int) ≤ x.toInt64.toInt ∧ x.toInt64.toInt ≤ (9 : Int)) ∨ (u.toInt = 0 ∧ (x.toInt64.toInt < (0 : Int) ∨ (9 : Int) < x.toInt64.toInt)) := hu
  rw [j_i2l] at hu
  refine ok_ite (fun a => ?_) (fun a => ?_)
  · have a1 : u.toInt = (0 : Int) := i_eq.mp a
    exact ok_some (by rw [if_neg (by omega)]; exact Or.inl ⟨rfl, rfl⟩)
  · have a1 : ¬ u.toInt = (0 : Int) := fun z => a (i_eq.mpr z)
    refine ok_bd1 (s_X7_in _ 0 9) (fun v hv => ?_)
    replace hv : (v.toInt = 1 ∧ (0 : Int) ≤ y.toInt64.toInt ∧ y.toInt64.toInt ≤ (9 : Int)) ∨ (v.toInt = 0 ∧ (y.toInt64.toInt < (0 : Int) ∨ (9 : Int) < y.toInt64.toInt)) := hv
    rw [j_i2l] at hv
    refine ok_ite (fun b => ?_) (fun b => ?_)
    · have b1 : v.toInt = (0 : Int) := i_eq.mp b
      exact ok_some (by rw [if_neg (by omega)]; exact Or.inl ⟨rfl, rfl⟩)
    · have b1 : ¬ v.toInt = (0 : Int) := fun z => b (i_eq.mpr z)
      have f5 : (10 * x).toInt = (10 : Int) * x.toInt := i_mul2 rfl rfl (by omega) (by omega)
      have f6 : ((10 * x) + y).toInt = (10 * x).toInt + y.toInt := i_add2 rfl rfl (by omega) (by omega)
      exact ok_some (by rw [if_pos (by omega)]; exact Or.inr ⟨by omega, by omega⟩)
/-- all that can be done, in order -/
def othF {α : Type} (F : Int → Int → Int → Int → List α) (c k p t : Int) : Nat → Int → List α
  | 0, _ => []
  | n + 1, o => (if o = k then [] else F c o p (t + 1)) ++ othF F c k p t n (o + 1)
def chF {α : Type} (F : Int → Int → Int → Int → List α) (c k p t : Int) : List α := F c k p t ++ (if t < 1 then othF F c k p t 8 0 else [])
/-- ways by where they end, by what course, with how many turns -/
def flyE : Nat → Int → Int → Int → Int → List (Int × Int × Int)
  | 0 => fun _ _ _ _ => []
  | d + 1 => fun c k p t => if gI c k p = -1 then [] else if d = 0 then [(gI c k p, k, t)] else chF (flyE d) (gI c k p) k p t
/-- what is seen at which hour -/
def flyS : Nat → Int → Int → Int → Int → List (Int × Int)
  | 0 => fun _ _ _ _ => []
  | d + 1 => fun c k p t => if gI c k p = -1 then [] else if d = 0 then [(6, gI c k p)] else chF (flyS d) (gI c k p) k p t ++ (if (chF (flyE d) (gI c k p) k p t).length = 0 then [] else [(6 - (d : Int), gI c k p)])
/-- ways by their cells -/
def flyP : Nat → Int → Int → Int → Int → List (List Int × Int)
  | 0 => fun _ _ _ _ => []
  | d + 1 => fun c k p t => if gI c k p = -1 then [] else if d = 0 then [([gI c k p], t)] else (chF (flyP d) (gI c k p) k p t).map (fun it => (gI c k p :: it.1, it.2))
def wt (t : Int) : Int32 := if t = 0 then 32 else 8
def arrU (f : Nat → Int64) (it : Int × Int × Int) : Nat → Int64 := fun c => f c + (if (c : Int) = it.1 then (2 * wt it.2.2).toInt64 else 0) + (if (c : Int) = gI it.1 it.2.1 1 then (wt it.2.2).toInt64 else 0)
def seeU (f : Nat → Int32) (e : Int × Int) : Nat → Int32 := fun i => if (i : Int) = 10 * e.1 + e.2 / 10 then f i ||| ((1 : Int32) <<< (Int32.ofInt (e.2 % 10))) else f i
def wsU (w : Int64) (it : Int × Int × Int) : Int64 := w + (wt it.2.2).toInt64
