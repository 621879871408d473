/-! Answers that are alike. -/
theorem eq2 {r s c : Int32} (h : r = c) (g : s = c) : r.toInt = s.toInt := by rw [h, g]
theorem eq2L {r s c : Int64} (h : r = c) (g : s = c) : r.toInt = s.toInt := by rw [h, g]
theorem ansE {V : Prop} {X r s : Int32} (hA : (¬ V ∧ r.toInt = -1) ∨ (V ∧ r = X)) (hB : (¬ V ∧ s.toInt = -1) ∨ (V ∧ s = X)) : r.toInt = s.toInt := by
  rcases hA with ⟨a, b⟩ | ⟨a, b⟩ <;> rcases hB with ⟨c, d⟩ | ⟨c, d⟩
  · omega
  · exact absurd c a
  · exact absurd a c
  · rw [b, d]
theorem ansS {V : Prop} {o : Option Int64} {r s : Int64} (hA : (¬ V ∧ r.toInt = -1) ∨ (V ∧ o = some r)) (hB : (¬ V ∧ s.toInt = -1) ∨ (V ∧ o = some s)) : r.toInt = s.toInt := by
  rcases hA with ⟨a, b⟩ | ⟨a, b⟩ <;> rcases hB with ⟨c, d⟩ | ⟨c, d⟩
  · omega
  · exact absurd c a
  · exact absurd a c
  · rw [b] at d
    injection d with d
    rw [d]
theorem ansI {V : Prop} {X r s : Int} (hA : (¬ V ∧ r = -1) ∨ (V ∧ r = X)) (hB : (¬ V ∧ s = -1) ∨ (V ∧ s = X)) : r = s := by
  rcases hA with ⟨a, b⟩ | ⟨a, b⟩ <;> rcases hB with ⟨c, d⟩ | ⟨c, d⟩
  · omega
  · exact absurd c a
  · exact absurd a c
  · rw [b, d]
theorem ansR {V A B : Prop} {r s : Int} (hAB : A → B → False) (hA : (¬ V ∧ r = -1) ∨ (V ∧ A ∧ r = 99) ∨ (V ∧ B ∧ r = 100)) (hB : (¬ V ∧ s = -1) ∨ (V ∧ A ∧ s = 99) ∨ (V ∧ B ∧ s = 100)) : r = s := by
  rcases hA with ⟨a, b⟩ | ⟨a, e, b⟩ | ⟨a, e, b⟩ <;> rcases hB with ⟨c, d⟩ | ⟨c, g, d⟩ | ⟨c, g, d⟩
  · omega
  · exact absurd c a
  · exact absurd c a
  · exact absurd a c
  · omega
  · exact (hAB e g).elim
  · exact absurd a c
  · exact (hAB g e).elim
  · omega
theorem fits0 {P Q R T : Prop} {a x y : Int} (hA : ((0 ≤ a ∧ a < (0 : Int) ∧ P) ∧ Q) ∨ (¬ (0 ≤ a ∧ a < (0 : Int) ∧ P) ∧ x = -1)) (hB : ((0 ≤ a ∧ a < (0 : Int) ∧ R) ∧ T) ∨ (¬ (0 ≤ a ∧ a < (0 : Int) ∧ R) ∧ y = -1)) : x = y := by
  rcases hA with ⟨a, _⟩ | ⟨_, b⟩
  · omega
  · rcases hB with ⟨c, _⟩ | ⟨_, d⟩
    · omega
    · omega
