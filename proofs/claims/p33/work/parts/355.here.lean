/-! The model's next byte behind blanks. -/
def HereP (taped : Int32) (tape : Nat → Int32) (at0 r at1 : Int32) : Prop := 0 ≤ at1.toInt ∧ at1.toInt ≤ taped.toInt ∧ at0.toInt ≤ at1.toInt ∧ (r.toInt = 0 ∧ at1.toInt = taped.toInt ∨ (at1.toInt < taped.toInt ∧ r.toInt = (tape at1.toNatClampNeg).toInt ∧ ¬ r.toInt = 32)) ∧ (at0.toInt < taped.toInt → ¬ (tape at0.toNatClampNeg).toInt = 32 → at1.toInt = at0.toInt ∧ r.toInt = (tape at0.toNatClampNeg).toInt) ∧ (∀ j : Nat, at0.toInt ≤ (j : Int) → (j : Int) < at1.toInt → (tape j).toInt = 32)
theorem s_X7_here_L0 (taped : Int32) (tape : Nat → Int32) (h1 : taped.toInt ≤ 60) : ∀ (n : Nat) (at0 : Int32), (taped.toInt - at0.toInt).toNat < n → 0 ≤ at0.toInt → at0.toInt ≤ taped.toInt → okP (f_X7_here_L0 n taped at0 tape) (fun u => HereP taped tape at0 u.1 u.2) := by
  intro n
  induction n with
  | zero =>
    intro at0 hm
    exact absurd hm (Nat.not_lt_zero _)
  | succ n ih =>
    intro at0 hm h2 h3
    show okP (f_X7_here_L0b (f_X7_here_L0 n) taped at0 tape) _
    unfold f_X7_here_L0b
    refine ok_ite (fun c => ?_) (fun c => ?_)
    · unfold f_X7_here_B38
      have d : taped.toInt ≤ at0.toInt := i_le.mp c
      refine ok_ite (fun _ => ?_) (fun c2 => absurd c c2)
      exact ok_some (show HereP taped tape at0 0 at0 from ⟨h2, h3, Int.le_refl _, Or.inl ⟨rfl, by omega⟩, fun q _ => by omega, fun j q1 q2 => by omega⟩)
    · have d : ¬ taped.toInt ≤ at0.toInt := fun z => c (i_le.mpr z)
      have hx : ¬ (at0 < 0 ∨ 60 ≤ at0.toNatClampNeg) := ix (by omega) (by omega)
      refine ok_chk hx ?_
      refine ok_ite (fun c2 => ?_) (fun c2 => ?_)
      · have d2 : (tape at0.toNatClampNeg).toInt = (32 : Int) := i_eq.mp c2
        have hf : (at0 + 1).toInt = at0.toInt + (1 : Int) := i_add2 rfl rfl (by omega) (by omega)
        refine ok_nmi (fun x hx kx => ?_)
        refine ok_mono (ih x (by omega) (by omega) (by omega)) (fun u q => ?_)
        obtain ⟨q1, q2, q3, q4, q5, q6⟩ := q
        refine ⟨q1, q2, by omega, q4, fun _ z => absurd d2 z, fun j z1 z2 => ?_⟩
        by_cases hj : (j : Int) = at0.toInt
        · have : j = at0.toNatClampNeg := by
            rw [i_cl]
            omega
          rw [this]
          exact d2
        · exact q6 j (by omega) z2
      · have d2 : ¬ (tape at0.toNatClampNeg).toInt = (32 : Int) := fun z => c2 (i_eq.mpr z)
        unfold f_X7_here_B38
        refine ok_ite (fun c3 => absurd c3 c) (fun _ => ?_)
        refine ok_chk hx ?_
        exact ok_some (show HereP taped tape at0 (tape at0.toNatClampNeg) at0 from ⟨h2, h3, Int.le_refl _, Or.inr ⟨by omega, rfl, d2⟩, fun _ _ => ⟨rfl, rfl⟩, fun j q1 q2 => by omega⟩)
theorem s_X7_here (o_taped o_at : Int32) (o_tape : Nat → Int32) (h0 : 0 ≤ (o_taped).toInt) (h1 : (o_taped).toInt ≤ 60) (h2 : 0 ≤ o_at.toInt) (h3 : o_at.toInt ≤ o_taped.toInt) : okP (f_X7_here o_taped o_at o_tape) (fun u => HereP o_taped o_tape o_at u.1 u.2) := by
  unfold f_X7_here
  exact s_X7_here_L0 o_taped o_tape h1 FU o_at (FU_gt (by omega)) h2 h3
