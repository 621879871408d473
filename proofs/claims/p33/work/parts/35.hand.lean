/-! By hand: what S-mode can't see. -/
theorem s_away_L44 (sq : Nat) (hsq : sq < 1000) (g : Nat → Int32) (P : Int32 → Prop) : ∀ (n r : Nat), r ≤ 31 → 40 - r < n → P (nI (rtF (100 - r) r sq)) → okP (f_X7_away_L44 n (nI sq) (nI r) g) P := by
  intro n
  induction n with
  | zero => intro r h1 h2; omega
  | succ n ih =>
    intro r h1 h2 hp
    show okP (f_X7_away_L44b (f_X7_away_L44 n) (nI sq) (nI r) g) P
    unfold f_X7_away_L44b
    have hq : (r + 1) * (r + 1) ≤ 1024 := by
      have := Nat.mul_le_mul (show r + 1 ≤ 32 by omega) (show r + 1 ≤ 32 by omega)
      omega
    rw [nI_1, pk_mul]
    have hr : 100 - r = (100 - (r + 1)) + 1 := by omega
    rw [hr] at hp
    refine ok_ite (fun g1 => ?_) (fun g1 => ?_)
    · have g1 : sq < (r + 1) * (r + 1) := (c_lt (by omega) (by omega)).mp g1
      unfold rtF at hp
      rw [if_pos g1] at hp
      exact ok_some hp
    · have g1 : ¬ sq < (r + 1) * (r + 1) := fun q => g1 ((c_lt (by omega) (by omega)).mpr q)
      unfold rtF at hp
      rw [if_neg g1] at hp
      have h31 : r + 1 ≤ 31 := by
        rcases Nat.lt_or_ge r 31 with h | h
        · omega
        · exfalso
          have h31 : r = 31 := by omega
          subst h31
          omega
      exact ok_nm (ih (r + 1) h31 (by omega) hp)
theorem s_away (e k : Nat) (he : e < 100) (hk : k < 100) (g : Nat → Int32) (hg : g 0 = nI e) : okP (f_X7_away (nI k) g) (fun r => r = nI (rt (sqd e k))) := by
  unfold f_X7_away
  rw [hg, dmod (a := k) (by omega), dmod (a := e) (by omega), ddiv (a := k) (by omega), ddiv (a := e) (by omega)]
  refine ok_nmx (fun x hx => ok_nmx (fun y hy => ?_))
  have hv : (4 : Int32) * (x * x + y * y) = nI (sqd e k) := by
    rw [bdI (by omega) (by omega) hx, bdI (by omega) (by omega) hy, nI_add]
    exact pk_mul 4 _
  rw [hv]
  refine ok_nm ?_
  exact s_away_L44 _ (sqd_lt he hk) g _ FU 0 (by omega) (FU_gt (by omega)) rfl
theorem s_X7_away (x1 : Int32) (o_sets : Nat → Int32) (h0 : 0 ≤ (x1).toInt) (h1 : (x1).toInt ≤ 99) (h2 : 0 ≤ (o_sets 0).toInt) (h3 : (o_sets 0).toInt ≤ 99) : okP (f_X7_away x1 o_sets) (fun u => u = nI (rt (sqd (o_sets 0).toInt.toNat x1.toNatClampNeg))) := by
  have e : x1.toNatClampNeg = x1.toInt.toNat := i_cl x1
  rw [e]
  have h := s_away (o_sets 0).toInt.toNat x1.toInt.toNat (by omega) (by omega) o_sets (toN h2)
  rw [← toN h0] at h
  exact h
theorem SetOK_upd2 {f : Nat → Int32} {x v : Int32} (h : SetOK f) (h1 : 0 ≤ x.toInt) (h2 : x.toInt < 8) (h3 : 0 ≤ v.toInt) (h4 : (x.toInt ≤ 1 → v.toInt ≤ 99) ∧ (x.toInt = 2 → 1 ≤ v.toInt ∧ v.toInt ≤ 6) ∧ (x.toInt = 3 → v.toInt ≤ 2) ∧ (x.toInt = 4 → v.toInt ≤ 1) ∧ (x.toInt = 5 → v.toInt ≤ 60) ∧ (x.toInt = 6 → v.toInt ≤ 3) ∧ (x.toInt = 7 → v.toInt ≤ 8)) : SetOK (upd f x.toNatClampNeg v) := by
  obtain ⟨g1, g2, g3, g4, g5, g6, g7⟩ := h4
  have hk : x.toNatClampNeg = x.toInt.toNat := rfl
  have e0 : (0 : Int32).toInt = 0 := rfl
  have e1 : (1 : Int32).toInt = 1 := rfl
  have e2 : (2 : Int32).toInt = 2 := rfl
  have e3 : (3 : Int32).toInt = 3 := rfl
  have e6 : (6 : Int32).toInt = 6 := rfl
  have e8 : (8 : Int32).toInt = 8 := rfl
  have e60 : (60 : Int32).toInt = 60 := rfl
  have e99 : (99 : Int32).toInt = 99 := rfl
  have hx : x.toInt = 0 ∨ x.toInt = 1 ∨ x.toInt = 2 ∨ x.toInt = 3 ∨ x.toInt = 4 ∨ x.toInt = 5 ∨ x.toInt = 6 ∨ x.toInt = 7 := by omega
  refine SetOK_upd h h1 h2 ?_ ?_
  · rw [hk]
    rcases hx with q | q | q | q | q | q | q | q <;> rw [q] <;> first | exact (show (0 : Int) ≤ v.toInt by omega) | exact (show (1 : Int) ≤ v.toInt by omega)
  · rw [hk]
    rcases hx with q | q | q | q | q | q | q | q <;> rw [q] <;> first | exact (show v.toInt ≤ (99 : Int) by omega) | exact (show v.toInt ≤ (6 : Int) by omega) | exact (show v.toInt ≤ (2 : Int) by omega) | exact (show v.toInt ≤ (1 : Int) by omega) | exact (show v.toInt ≤ (60 : Int) by omega) | exact (show v.toInt ≤ (3 : Int) by omega) | exact (show v.toInt ≤ (8 : Int) by omega)
