/-! Blanks are passed. -/
def SkP (b : Nat → Int32) (len p q : Int) : Prop := 0 ≤ p ∧ p ≤ q ∧ q ≤ len ∧ (∀ j : Nat, p ≤ (j : Int) → (j : Int) < q → (b j).toInt = 32) ∧ (q < len → ¬ (b q.toNat).toInt = 32)
theorem SkP_uni {b : Nat → Int32} {len p q q' : Int} (h : SkP b len p q) (h' : SkP b len p q') : q = q' := by
  obtain ⟨a0, a1, a2, a3, a4⟩ := h
  obtain ⟨b0, b1, b2, b3, b4⟩ := h'
  rcases Int.lt_trichotomy q q' with hl | hl | hl
  · exact absurd (b3 q.toNat (by omega) (by omega)) (a4 (by omega))
  · exact hl
  · exact absurd (a3 q'.toNat (by omega) (by omega)) (b4 (by omega))
theorem s_X3_skipBlanks_L0 (len : Int32) (b : Nat → Int32) (h1 : len.toInt ≤ 60) : ∀ (n : Nat) (p : Int32), (len.toInt - p.toInt).toNat < n → 0 ≤ p.toInt → p.toInt ≤ len.toInt → okP (f_X3_skipBlanks_L0 n len p b) (fun u => SkP b len.toInt p.toInt u.toInt) := by
  intro n
  induction n with
  | zero =>
    intro p hm
    exact absurd hm (Nat.not_lt_zero _)
  | succ n ih =>
    intro p hm h2 h3
    show okP (f_X3_skipBlanks_L0b (f_X3_skipBlanks_L0 n) len p b) _
    unfold f_X3_skipBlanks_L0b
    refine ok_ite (fun c => ?_) (fun c => ?_)
    · have d : len.toInt ≤ p.toInt := i_le.mp c
      exact ok_some (show SkP b len.toInt p.toInt p.toInt from ⟨h2, Int.le_refl _, h3, fun j q1 q2 => by omega, fun q => by omega⟩)
    · have d : ¬ len.toInt ≤ p.toInt := fun z => c (i_le.mpr z)
      refine ok_chk (ix (by omega) (by omega)) ?_
      refine ok_ite (fun c2 => ?_) (fun c2 => ?_)
      · have d2 : (b p.toNatClampNeg).toInt = (32 : Int) := i_eq.mp c2
        have hf : (p + 1).toInt = p.toInt + (1 : Int) := i_add2 rfl rfl (by omega) (by omega)
        refine ok_nmi (fun x hx kx => ?_)
        refine ok_mono (ih x (by omega) (by omega) (by omega)) (fun u q => ?_)
        obtain ⟨q0, q1, q2, q3, q4⟩ := q
        refine ⟨h2, by omega, q2, fun j z1 z2 => ?_, q4⟩
        by_cases hj : (j : Int) = p.toInt
        · have e : j = p.toNatClampNeg := by
            rw [i_cl]
            omega
          rw [e]
          exact d2
        · exact q3 j (by omega) z2
      · have d2 : ¬ (b p.toNatClampNeg).toInt = (32 : Int) := fun z => c2 (i_eq.mpr z)
        exact ok_some (show SkP b len.toInt p.toInt p.toInt from ⟨h2, Int.le_refl _, h3, fun j q1 q2 => by omega, fun _ => d2⟩)
theorem s_X3_skipBlanks (o_length o_place : Int32) (o_bytes : Nat → Int32) (h0 : 0 ≤ (o_length).toInt) (h1 : (o_length).toInt ≤ 60) (h2 : 0 ≤ o_place.toInt) (h3 : o_place.toInt ≤ o_length.toInt) : okP (f_X3_skipBlanks o_length o_place o_bytes) (fun u => (0 ≤ u.toInt) ∧ (u.toInt ≤ o_length.toInt) ∧ (SkP o_bytes o_length.toInt o_place.toInt u.toInt)) := by
  unfold f_X3_skipBlanks
  refine ok_mono (s_X3_skipBlanks_L0 o_length o_bytes h1 FU o_place (FU_gt (by omega)) h2 h3) (fun u q => ?_)
  exact ⟨by have := q.2.1; omega, q.2.2.1, q⟩
/-! Digits of a sea, one behind the other. -/
noncomputable def sk (b : Nat → Int32) (len p : Int) : Int := Classical.epsilon (fun q => SkP b len p q)
theorem sk_eq {b : Nat → Int32} {len p q : Int} (h : SkP b len p q) : sk b len p = q := SkP_uni (Classical.epsilon_spec (p := fun q => SkP b len p q) ⟨q, h⟩) h
noncomputable def sp (b : Nat → Int32) (len : Int) : Nat → Int
  | 0 => 0
  | k + 1 => sk b len (sp b len k) + 1
def okD (b : Nat → Int32) (len : Int) (k : Nat) : Prop := 0 ≤ sk b len (sp b len k) ∧ sk b len (sp b len k) < len ∧ 48 ≤ (b (sk b len (sp b len k)).toNat).toInt ∧ (b (sk b len (sp b len k)).toNat).toInt ≤ 56
noncomputable def dg (b : Nat → Int32) (len : Int) (k : Nat) : Int := (b (sk b len (sp b len k)).toNat).toInt - 48
noncomputable def cn (b : Nat → Int32) (len : Int) : Nat → Int
  | 0 => 0
  | k + 1 => cn b len k + (if dg b len k = 8 then 0 else 1)
def SeaP (b : Nat → Int32) (len : Int) (cur cur' : Nat → Int32) (frm : Int) (r : Int32) : Prop := (∃ k : Nat, k < 10 ∧ (∀ i : Nat, i < k → okD b len i) ∧ ¬ okD b len k ∧ r.toInt = -20 - sk b len (sp b len k) ∧ cur' = cur) ∨ ((∀ i : Nat, i < 10 → okD b len i) ∧ sk b len (sp b len 10) < len ∧ r.toInt = -20 - sk b len (sp b len 10) ∧ cur' = cur) ∨ ((∀ i : Nat, i < 10 → okD b len i) ∧ ¬ sk b len (sp b len 10) < len ∧ r.toInt = cn b len 10 ∧ (∀ j : Nat, j < 10 → (cur' (frm.toNat + j)).toInt = dg b len j) ∧ (∀ j : Nat, ((j : Int) < frm ∨ frm + 10 ≤ (j : Int)) → cur' j = cur j))
