/-! A sea is read, in class and model. -/
def TRng (b : Nat → Int32) (len : Int) : Prop := ∀ j : Nat, (j : Int) < len → 32 ≤ (b j).toInt ∧ (b j).toInt ≤ 126
theorem SkP_self {b : Nat → Int32} {len p : Int} (h0 : 0 ≤ p) (h : p ≤ len) (h1 : p < len → ¬ (b p.toNat).toInt = 32) : SkP b len p p := ⟨h0, Int.le_refl _, h, fun j q1 q2 => by omega, h1⟩
theorem cn_rng (b : Nat → Int32) (len : Int) : ∀ k : Nat, 0 ≤ cn b len k ∧ cn b len k ≤ (k : Int) := by
  intro k
  induction k with
  | zero => exact ⟨Int.le_refl _, Int.le_refl _⟩
  | succ k ih =>
    show 0 ≤ cn b len k + (if dg b len k = 8 then 0 else 1) ∧ cn b len k + (if dg b len k = 8 then 0 else 1) ≤ ((k + 1 : Nat) : Int)
    split <;> omega
theorem s_fault0 {len place : Int32} {b : Nat → Int32} (h0 : 0 ≤ len.toInt) (h1 : len.toInt ≤ 60) (h2 : 0 ≤ place.toInt) (h3 : place.toInt ≤ len.toInt) (hs : SkP b len.toInt place.toInt place.toInt) : okP (f_X3_fault len place b) (fun u => u.1.toInt = -20 - place.toInt) := by
  refine ok_mono (s_X3_fault len place b h0 h1 h2 h3) (fun u q => ?_)
  obtain ⟨q1, q2, q3, q4, q5⟩ := q
  have := SkP_uni q5 hs
  omega
set_option maxHeartbeats 4000000 in
theorem e_readSea_L10 (n_p1 : Nat) (hn : n_p1 = 200) (frm len : Int32) (b cur : Nat → Int32) (h0 : 0 ≤ len.toInt) (h1 : len.toInt ≤ 60) (hf0 : 0 ≤ frm.toInt) (hf1 : frm.toInt ≤ 190) (hT : TRng b len.toInt) : ∀ (n k : Nat) (v3 v4 place : Int32) (nc : Nat → Int32), 10 - k < n → k ≤ 10 → v4.toInt = (k : Int) → v3.toInt = cn b len.toInt k → place.toInt = sp b len.toInt k → 0 ≤ place.toInt → place.toInt ≤ len.toInt → (∀ i : Nat, i < k → okD b len.toInt i) → (∀ j : Nat, j < k → (nc j).toInt = dg b len.toInt j) → okP (f_X3_readSea_L10 n_p1 n frm v3 v4 len place b nc cur) (fun u => SeaP b len.toInt cur u.2.2.2 frm.toInt u.1) := by
  have hN : (Int32.ofNat n_p1).toInt = 200 := by rw [hn]; rfl
  intro n
  induction n with
  | zero =>
    intro k v3 v4 place nc hm
    exact absurd hm (Nat.not_lt_zero _)
  | succ n ih =>
    intro k v3 v4 place nc hm hk hv4 hv3 hp hp0 hp1 hok hnc
    have hcn := cn_rng b len.toInt k
    show okP (f_X3_readSea_L10b n_p1 (f_X3_readSea_L10 n_p1 n) frm v3 v4 len place b nc cur) _
    unfold f_X3_readSea_L10b
    refine ok_ite (fun c => ?_) (fun c => ?_)
    · have d : (10 : Int) ≤ v4.toInt := i_le.mp c
      have hk10 : k = 10 := by omega
      subst hk10
      refine ok_bd2 (s_X3_isAtEnd len place b h0 h1 hp0 hp1) (fun r w q => ?_)
      obtain ⟨q0, q1, q2, q3⟩ : ((r.toInt = 1 ∧ len.toInt ≤ w.toInt) ∨ (r.toInt = 0 ∧ w.toInt < len.toInt)) ∧ (0 ≤ w.toInt) ∧ (w.toInt ≤ len.toInt) ∧ (SkP b len.toInt place.toInt w.toInt) := q
      have hw : sk b len.toInt (sp b len.toInt 10) = w.toInt := by
        rw [← hp]
        exact sk_eq q3
      refine ok_ite (fun c2 => ?_) (fun c2 => ?_)
      · have d2 : r.toInt = (0 : Int) := i_eq.mp c2
        unfold f_X3_readSea_B119
        refine ok_bd2 (s_fault0 h0 h1 q1 q2 (SkP_self q1 q2 q3.2.2.2.2)) (fun r2 w2 q4 => ?_)
        replace q4 : r2.toInt = -20 - w.toInt := q4
        exact ok_some (Or.inr (Or.inl ⟨hok, by omega, by show r2.toInt = _; omega, rfl⟩))
      · have d2 : ¬ r.toInt = (0 : Int) := fun z => c2 (i_eq.mpr z)
        refine ok_ite (fun c3 => ?_) (fun c3 => ?_)
        · have d3 : frm.toInt < (0 : Int) := i_lt.mp c3
          omega
        · have f1 : (Int32.ofNat n_p1 - 10).toInt = (Int32.ofNat n_p1).toInt - (10 : Int) := i_sub2 rfl rfl (by omega) (by omega)
          refine ok_ite (fun c4 => ?_) (fun c4 => ?_)
          · refine ok_chk ⟨cp_n (by omega), by rw [i_cl]; omega⟩ ?_
            refine ok_some (Or.inr (Or.inr ⟨hok, by omega, hv3, fun j hj => ?_, fun j hj => ?_⟩))
            · show (va_cpy nc cur 0 frm.toNatClampNeg 10 (frm.toInt.toNat + j)).toInt = _
              have e : va_cpy nc cur 0 frm.toNatClampNeg 10 (frm.toInt.toNat + j) = nc j := by
                unfold va_cpy
                rw [i_cl, if_pos ⟨by omega, by omega⟩]
                congr 1
                omega
              rw [e]
              exact hnc j hj
            · show va_cpy nc cur 0 frm.toNatClampNeg 10 j = _
              unfold va_cpy
              rw [i_cl, if_neg (fun z => by omega)]
          · exfalso
            have d4 : ¬ frm.toInt ≤ (Int32.ofNat n_p1 - 10).toInt := fun z => c4 (i_le.mpr z)
            omega
    · have d : ¬ (10 : Int) ≤ v4.toInt := fun z => c (i_le.mpr z)
      refine ok_bd2 (s_X3_isAtEnd len place b h0 h1 hp0 hp1) (fun r w q => ?_)
      obtain ⟨q0, q1, q2, q3⟩ : ((r.toInt = 1 ∧ len.toInt ≤ w.toInt) ∨ (r.toInt = 0 ∧ w.toInt < len.toInt)) ∧ (0 ≤ w.toInt) ∧ (w.toInt ≤ len.toInt) ∧ (SkP b len.toInt place.toInt w.toInt) := q
      have hw : sk b len.toInt (sp b len.toInt k) = w.toInt := by
        rw [← hp]
        exact sk_eq q3
      have hself := SkP_self q1 q2 q3.2.2.2.2
      have hbad : ¬ okD b len.toInt k → okP (f_X3_readSea_B54 n_p1 len w b nc cur) (fun u => SeaP b len.toInt cur u.2.2.2 frm.toInt u.1) := by
        intro hno
        unfold f_X3_readSea_B54
        refine ok_bd2 (s_fault0 h0 h1 q1 q2 hself) (fun r2 w2 q4 => ?_)
        replace q4 : r2.toInt = -20 - w.toInt := q4
        exact ok_some (Or.inl ⟨k, by omega, hok, hno, by show r2.toInt = _; omega, rfl⟩)
      refine ok_ite (fun c2 => ?_) (fun c2 => ?_)
      · have d2 : r.toInt = (0 : Int) := i_eq.mp c2
        refine ok_chk (ix (by omega) (by omega)) ?_
        have hbw := hT w.toNatClampNeg (by rw [i_cl]; omega)
        have hwn : (sk b len.toInt (sp b len.toInt k)).toNat = w.toNatClampNeg := by rw [hw, i_cl]
        have fy : (b w.toNatClampNeg - 48).toInt = (b w.toNatClampNeg).toInt - (48 : Int) := i_sub2 rfl rfl (by omega) (by omega)
        have hdg : dg b len.toInt k = (b w.toNatClampNeg).toInt - 48 := by
          unfold dg
          rw [hwn]
        unfold f_X3_readSea_B40
        refine ok_ite (fun c3 => ?_) (fun c3 => ?_)
        · have d3 : (b w.toNatClampNeg - 48).toInt < (0 : Int) := i_lt.mp c3
          refine hbad (fun z => ?_)
          have z2 := z.2.2.1
          rw [hwn] at z2
          omega
        · have d3 : ¬ (b w.toNatClampNeg - 48).toInt < (0 : Int) := fun z => c3 (i_lt.mpr z)
          refine ok_ite (fun c4 => ?_) (fun c4 => ?_)
          · have d4 : (b w.toNatClampNeg - 48).toInt ≤ (8 : Int) := i_le.mp c4
            have hk1 : okD b len.toInt k := by
              refine ⟨by omega, by omega, ?_, ?_⟩ <;> rw [hwn] <;> omega
            have hok1 : ∀ i : Nat, i < k + 1 → okD b len.toInt i := by
              intro i hi
              by_cases e : i = k
              · rw [e]
                exact hk1
              · exact hok i (by omega)
            have hsp : sp b len.toInt (k + 1) = w.toInt + 1 := by
              show sk b len.toInt (sp b len.toInt k) + 1 = _
              rw [hw]
            have fp : (w + 1).toInt = w.toInt + (1 : Int) := i_add2 rfl rfl (by omega) (by omega)
            have fv : (v4 + 1).toInt = v4.toInt + (1 : Int) := i_add2 rfl rfl (by omega) (by omega)
            have hcl : v4.toNatClampNeg = k := by
              rw [i_cl]
              omega
            have hnc1 : ∀ j : Nat, j < k + 1 → (upd nc v4.toNatClampNeg (b w.toNatClampNeg - 48) j).toInt = dg b len.toInt j := by
              intro j hj
              rw [hcl]
              by_cases e : j = k
              · rw [e, upd_is, hdg]
                omega
              · rw [upd_no e]
                exact hnc j (by omega)
            refine ok_chk (ix (by omega) (by omega)) ?_
            refine ok_ite (fun c5 => ?_) (fun c5 => ?_)
            · have d5 : (b w.toNatClampNeg - 48).toInt = (8 : Int) := i_eq.mp c5
              unfold f_X3_readSea_B81
              have fs : (v3 + 0).toInt = v3.toInt + (0 : Int) := i_add2 rfl rfl (by omega) (by omega)
              refine ok_nmi (fun x3 hx3 kx3 => ok_nmi (fun x4 hx4 kx4 => ok_nmi (fun x5 hx5 kx5 => ?_)))
              refine ih (k + 1) x3 x5 x4 _ (by omega) (by omega) (by omega) ?_ (by omega) (by omega) (by omega) hok1 hnc1
              show x3.toInt = cn b len.toInt k + (if dg b len.toInt k = 8 then 0 else 1)
              rw [if_pos (by omega)]
              omega
            · have d5 : ¬ (b w.toNatClampNeg - 48).toInt = (8 : Int) := fun z => c5 (i_eq.mpr z)
              unfold f_X3_readSea_B81
              have fs : (v3 + 1).toInt = v3.toInt + (1 : Int) := i_add2 rfl rfl (by omega) (by omega)
              refine ok_nmi (fun x3 hx3 kx3 => ok_nmi (fun x4 hx4 kx4 => ok_nmi (fun x5 hx5 kx5 => ?_)))
              refine ih (k + 1) x3 x5 x4 _ (by omega) (by omega) (by omega) ?_ (by omega) (by omega) (by omega) hok1 hnc1
              show x3.toInt = cn b len.toInt k + (if dg b len.toInt k = 8 then 0 else 1)
              rw [if_neg (by omega)]
              omega
          · have d4 : ¬ (b w.toNatClampNeg - 48).toInt ≤ (8 : Int) := fun z => c4 (i_le.mpr z)
            refine hbad (fun z => ?_)
            have z2 := z.2.2.2
            rw [hwn] at z2
            omega
      · have d2 : ¬ r.toInt = (0 : Int) := fun z => c2 (i_eq.mpr z)
        unfold f_X3_readSea_B40
        refine ok_ite (fun c3 => ?_) (fun c3 => absurd (show (-1 : Int32) < 0 by decide) c3)
        refine hbad (fun z => ?_)
        have z1 := z.2.1
        omega
theorem e_X3_readSea (n_p1 : Nat) (x2 o_length o_place : Int32) (o_bytes o_newCurrents p1_arr : Nat → Int32) (hn : n_p1 = 200) (h0 : 0 ≤ o_length.toInt) (h1 : o_length.toInt ≤ 60) (hf0 : 0 ≤ x2.toInt) (hf1 : x2.toInt ≤ 190) (hT : TRng o_bytes o_length.toInt) : okP (f_X3_readSea n_p1 x2 o_length o_place o_bytes o_newCurrents p1_arr) (fun u => SeaP o_bytes o_length.toInt p1_arr u.2.2.2 x2.toInt u.1) := by
  unfold f_X3_readSea
  exact e_readSea_L10 n_p1 hn x2 o_length o_bytes p1_arr h0 h1 hf0 hf1 hT FU 0 0 0 0 o_newCurrents (FU_gt (by omega)) (by omega) rfl rfl rfl (show (0 : Int) ≤ 0 by omega) (show (0 : Int) ≤ o_length.toInt by omega) (fun i hi => by omega) (fun j hj => by omega)
