/-! The model's side. -/
theorem HereP_sk {taped : Int32} {tape : Nat → Int32} {at0 r at1 : Int32} (h0 : 0 ≤ at0.toInt) (h : HereP taped tape at0 r at1) : SkP tape taped.toInt at0.toInt at1.toInt := by
  obtain ⟨h1, h2, h3, h4, h5, h6⟩ := h
  refine ⟨h0, h3, h2, h6, fun q => ?_⟩
  rcases h4 with ⟨a, b⟩ | ⟨a, b, c⟩
  · omega
  · have e : at1.toInt.toNat = at1.toNatClampNeg := (i_cl at1).symm
    rw [e, ← b]
    exact c
def DigP (taped : Int32) (tape : Nat → Int32) (at0 wrong r at1 wrong1 : Int32) : Prop := (¬ wrong.toInt = 0 ∧ r.toInt = 0 ∧ at1.toInt = at0.toInt ∧ wrong1.toInt = 1) ∨ (wrong.toInt = 0 ∧ ∃ q : Int, SkP tape taped.toInt at0.toInt q ∧ ((q < taped.toInt ∧ 48 ≤ (tape q.toNat).toInt ∧ (tape q.toNat).toInt ≤ 56 ∧ r.toInt = (tape q.toNat).toInt - 48 ∧ at1.toInt = q + 1 ∧ wrong1.toInt = 0) ∨ (¬ (q < taped.toInt ∧ 48 ≤ (tape q.toNat).toInt ∧ (tape q.toNat).toInt ≤ 56) ∧ r.toInt = 0 ∧ at1.toInt = q ∧ wrong1.toInt = 1)))
theorem e_digit (taped at0 wrong : Int32) (tape : Nat → Int32) (h0 : 0 ≤ taped.toInt) (h1 : taped.toInt ≤ 60) (h2 : 0 ≤ at0.toInt) (h3 : at0.toInt ≤ taped.toInt) : okP (f_X7_digit 0 8 taped at0 wrong tape) (fun u => DigP taped tape at0 wrong u.1 u.2.1 u.2.2) := by
  unfold f_X7_digit
  have hbad : ∀ a w : Int32, 0 ≤ a.toInt → a.toInt ≤ 60 → okP (f_X7_digit_B29 taped a w tape) (fun u => u.1.toInt = 0 ∧ u.2.1.toInt = a.toInt ∧ u.2.2.toInt = 1) := by
    intro a w ha1 ha2
    unfold f_X7_digit_B29 f_X7_digit_B34
    refine ok_chk (Or.inr rfl) ?_
    refine ok_ite (fun c => absurd c (by decide)) (fun _ => ?_)
    unfold f_X7_digit_B55
    refine ok_ite (fun c => absurd c (by decide)) (fun _ => ?_)
    unfold f_X7_digit_B73
    have f0 : (a + 0).toInt = a.toInt + (0 : Int) := i_add2 rfl rfl (by omega) (by omega)
    refine ok_nmi (fun x hx kx => ?_)
    exact ok_some ⟨rfl, by show x.toInt = _; omega, rfl⟩
  refine ok_ite (fun c => ?_) (fun c => ?_)
  · have d : wrong.toInt = (0 : Int) := i_eq.mp c
    refine ok_bd2 (s_X7_here taped at0 tape h0 h1 h2 h3) (fun r w hh => ?_)
    replace hh : HereP taped tape at0 r w := hh
    have hsk := HereP_sk h2 hh
    obtain ⟨g1, g2, g3, g4, g5, g6⟩ := id hh
    have ew : w.toInt.toNat = w.toNatClampNeg := (i_cl w).symm
    refine ok_bd1 (s_X7_in _ _ _) (fun y hy => ?_)
    replace hy : (y.toInt = 1 ∧ (48 + 0 : Int32).toInt64.toInt ≤ r.toInt64.toInt ∧ r.toInt64.toInt ≤ (48 + 8 : Int32).toInt64.toInt) ∨ (y.toInt = 0 ∧ (r.toInt64.toInt < (48 + 0 : Int32).toInt64.toInt ∨ (48 + 8 : Int32).toInt64.toInt < r.toInt64.toInt)) := hy
    rw [j_i2l, j_i2l, j_i2l] at hy
    have e48 : (48 + 0 : Int32).toInt = 48 := rfl
    have e56 : (48 + 8 : Int32).toInt = 56 := rfl
    rw [e48, e56] at hy
    refine ok_ite (fun c2 => ?_) (fun c2 => ?_)
    · have d2 : y.toInt = (0 : Int) := i_eq.mp c2
      refine ok_mono (hbad w wrong g1 (by omega)) (fun u q => ?_)
      obtain ⟨q1, q2, q3⟩ := q
      refine Or.inr ⟨d, w.toInt, hsk, Or.inr ⟨fun z => ?_, q1, q2, q3⟩⟩
      rw [ew] at z
      omega
    · have d2 : ¬ y.toInt = (0 : Int) := fun z => c2 (i_eq.mpr z)
      unfold f_X7_digit_B34
      refine ok_chk (Or.inl rfl) ?_
      refine ok_ite (fun _ => ?_) (fun c3 => absurd rfl c3)
      have hlt : w.toInt < taped.toInt := by omega
      have hrt : r.toInt = (tape w.toNatClampNeg).toInt := by omega
      refine ok_bd2 (s_X7_here taped w tape h0 h1 g1 g2) (fun r2 w2 hh2 => ?_)
      obtain ⟨k1, k2, k3, k4, k5, k6⟩ : HereP taped tape w r2 w2 := hh2
      have hst := k5 hlt (by omega)
      unfold f_X7_digit_B55
      refine ok_ite (fun _ => ?_) (fun c3 => absurd rfl c3)
      unfold f_X7_digit_B73
      have f1 : (w2 + 1).toInt = w2.toInt + (1 : Int) := i_add2 rfl rfl (by omega) (by omega)
      have f2 : (r2 - 48).toInt = r2.toInt - (48 : Int) := i_sub2 rfl rfl (by omega) (by omega)
      refine ok_nmi (fun x hx kx => ?_)
      refine ok_some (Or.inr ⟨d, w.toInt, hsk, Or.inl ⟨hlt, ?_, ?_, ?_, ?_, rfl⟩⟩)
      · rw [ew]
        omega
      · rw [ew]
        omega
      · show (r2 - 48).toInt = _
        rw [ew]
        omega
      · show x.toInt = _
        omega
  · have d : ¬ wrong.toInt = (0 : Int) := fun z => c (i_eq.mpr z)
    refine ok_mono (hbad at0 wrong h2 (by omega)) (fun u q => ?_)
    exact Or.inl ⟨d, q.1, q.2.1, q.2.2⟩
theorem e_sea_L132 (s ro taped at0 wrong v3 : Int32) (tape cur rs : Nat → Int32) (F : Nat) (hs0 : 0 ≤ s.toInt) (hs1 : s.toInt ≤ 1) (hr0 : 0 ≤ ro.toInt) (hr1 : ro.toInt ≤ 9) (hF : (F : Int) = 100 * s.toInt + 10 * ro.toInt) : ∀ (n i : Nat) (v4 : Int32) (q : Nat → Int32), v4.toInt = (i : Int) → i ≤ 10 → 10 - i < n → (∀ j : Nat, j < i → q (F + j) = rs j) → (∀ j : Nat, (j < F ∨ F + 10 ≤ j) → q j = cur j) → okP (f_X7_sea_L132 n s ro v3 v4 taped at0 wrong q tape rs) (fun u => u.1 = v3 ∧ u.2.1 = taped ∧ (∀ j : Nat, j < 10 → u.2.2.2.2.1 (F + j) = rs j) ∧ (∀ j : Nat, (j < F ∨ F + 10 ≤ j) → u.2.2.2.2.1 j = cur j)) := by
  intro n
  induction n with
  | zero =>
    intro i v4 q h1 h2 h3
    exact absurd h3 (Nat.not_lt_zero _)
  | succ n ih =>
    intro i v4 q h1 h2 h3 h4 h5
    show okP (f_X7_sea_L132b (f_X7_sea_L132 n) s ro v3 v4 taped at0 wrong q tape rs) _
    unfold f_X7_sea_L132b
    refine ok_ite (fun c => ?_) (fun c => ?_)
    · have d : (10 : Int) ≤ v4.toInt := i_le.mp c
      have e : i = 10 := by omega
      subst e
      exact ok_some ⟨rfl, rfl, h4, h5⟩
    · have d : ¬ (10 : Int) ≤ v4.toInt := fun z => c (i_le.mpr z)
      have f1 : (100 * s).toInt = (100 : Int) * s.toInt := i_mul2 rfl rfl (by omega) (by omega)
      have f2 : (10 * ro).toInt = (10 : Int) * ro.toInt := i_mul2 rfl rfl (by omega) (by omega)
      have f3 : ((100 * s) + (10 * ro)).toInt = (100 * s).toInt + (10 * ro).toInt := i_add2 rfl rfl (by omega) (by omega)
      have f4 : (((100 * s) + (10 * ro)) + v4).toInt = ((100 * s) + (10 * ro)).toInt + v4.toInt := i_add2 rfl rfl (by omega) (by omega)
      have f5 : (v4 + 1).toInt = v4.toInt + (1 : Int) := i_add2 rfl rfl (by omega) (by omega)
      refine ok_chk (ix (by omega) (by omega)) ?_
      refine ok_nmx (fun y hy => ?_)
      refine ok_chk (ix (by omega) (by omega)) ?_
      refine ok_nmi (fun z hz kz => ?_)
      have e1 : v4.toNatClampNeg = i := by rw [i_cl]; omega
      have e2 : (((100 * s) + (10 * ro)) + v4).toNatClampNeg = F + i := by rw [i_cl]; omega
      rw [e2]
      rw [e1] at hy
      refine ih (i + 1) z _ (by omega) (by omega) (by omega) (fun j hj => ?_) (fun j hj => ?_)
      · by_cases hji : j = i
        · rw [hji, upd_is]
          exact hy
        · rw [upd_no (by omega)]
          exact h4 j (by omega)
      · rw [upd_no (by omega)]
        exact h5 j (by omega)
