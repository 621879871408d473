/-! What a state keeps to. -/
theorem upd_0 {f : Nat → Int32} {k : Nat} {x : Int32} (h : 0 < k) : upd f k x 0 = f 0 := by
  unfold upd
  rw [if_neg (by omega)]
def SetOK (f : Nat → Int32) : Prop := 0 ≤ (f 0).toInt ∧ (f 0).toInt ≤ 99 ∧ 0 ≤ (f 1).toInt ∧ (f 1).toInt ≤ 99 ∧ 1 ≤ (f 2).toInt ∧ (f 2).toInt ≤ 6 ∧ 0 ≤ (f 3).toInt ∧ (f 3).toInt ≤ 2 ∧ 0 ≤ (f 4).toInt ∧ (f 4).toInt ≤ 1 ∧ 0 ≤ (f 5).toInt ∧ (f 5).toInt ≤ 60 ∧ 0 ≤ (f 6).toInt ∧ (f 6).toInt ≤ 3 ∧ 0 ≤ (f 7).toInt ∧ (f 7).toInt ≤ 8
theorem SetOK_upd {f : Nat → Int32} {x v : Int32} (h : SetOK f) (h1 : 0 ≤ x.toInt) (h2 : x.toInt < 8) (h3 : (tabL x.toNatClampNeg).toInt ≤ v.toInt) (h4 : v.toInt ≤ (tabM x.toNatClampNeg).toInt) : SetOK (upd f x.toNatClampNeg v) := by
  obtain ⟨s0a, s0b, s1a, s1b, s2a, s2b, s3a, s3b, s4a, s4b, s5a, s5b, s6a, s6b, s7a, s7b⟩ := h
  have hk : x.toNatClampNeg = x.toInt.toNat := rfl
  rw [hk] at h3 h4 ⊢
  generalize x.toInt.toNat = n at h3 h4 ⊢
  have hn : n < 8 ∨ 8 ≤ n := by omega
  have e0 : (0 : Int32).toInt = 0 := rfl
  have e1 : (1 : Int32).toInt = 1 := rfl
  have e2 : (2 : Int32).toInt = 2 := rfl
  have e3 : (3 : Int32).toInt = 3 := rfl
  have e6 : (6 : Int32).toInt = 6 := rfl
  have e8 : (8 : Int32).toInt = 8 := rfl
  have e60 : (60 : Int32).toInt = 60 := rfl
  have e99 : (99 : Int32).toInt = 99 := rfl
  match n, h3, h4 with
  | 0, h3, h4 => simp only [tabL, tabM, e0, e99] at h3 h4; simp [SetOK, upd]; omega
  | 1, h3, h4 => simp only [tabL, tabM, e0, e99] at h3 h4; simp [SetOK, upd]; omega
  | 2, h3, h4 => simp only [tabL, tabM, e1, e6] at h3 h4; simp [SetOK, upd]; omega
  | 3, h3, h4 => simp only [tabL, tabM, e0, e2] at h3 h4; simp [SetOK, upd]; omega
  | 4, h3, h4 => simp only [tabL, tabM, e0, e1] at h3 h4; simp [SetOK, upd]; omega
  | 5, h3, h4 => simp only [tabL, tabM, e0, e60] at h3 h4; simp [SetOK, upd]; omega
  | 6, h3, h4 => simp only [tabL, tabM, e0, e3] at h3 h4; simp [SetOK, upd]; omega
  | 7, h3, h4 => simp only [tabL, tabM, e0, e8] at h3 h4; simp [SetOK, upd]; omega
  | k + 8, h3, h4 => simp [SetOK, upd]; omega
theorem SetOK_cpy {f g : Nat → Int32} (h : SetOK f) : SetOK (va_cpy f g 0 0 8) := by
  simpa [SetOK, va_cpy] using h
theorem shs_up {f : Nat → Int32} {k : Nat} {v : Int32} (h : ∀ j : Nat, j < 4 → 0 ≤ (f j).toInt ∧ (f j).toInt ≤ 16) (h1 : 0 ≤ v.toInt) (h2 : v.toInt ≤ 16) : ∀ j : Nat, j < 4 → 0 ≤ (va_up f k v j).toInt ∧ (va_up f k v j).toInt ≤ 16 := by
  intro j hj
  unfold va_up
  by_cases hk : j = k
  · rw [if_pos hk]
    exact ⟨h1, h2⟩
  · rw [if_neg hk]
    exact h j hj
/-- what set lets -/
def SetV (a v : Int) : Prop := (0 ≤ a ∧ a ≤ 1 ∧ 0 ≤ v ∧ v ≤ 99) ∨ (a = 2 ∧ 1 ≤ v ∧ v ≤ 6) ∨ (a = 3 ∧ 0 ≤ v ∧ v ≤ 2) ∨ (a = 4 ∧ 0 ≤ v ∧ v ≤ 1) ∨ (a = 5 ∧ 0 ≤ v ∧ v ≤ 60) ∨ (a = 6 ∧ 0 ≤ v ∧ v ≤ 3) ∨ (a = 7 ∧ 0 ≤ v ∧ v ≤ 8)
theorem SetV_rng {a v : Int} (h : SetV a v) : 0 ≤ a ∧ a < 8 := by
  unfold SetV at h
  omega
theorem SetV_tab {x : Int32} {v : Int} (h1 : 0 ≤ x.toInt) (h2 : x.toInt < 8) : SetV x.toInt v ↔ ((tabL x.toNatClampNeg).toInt ≤ v ∧ v ≤ (tabM x.toNatClampNeg).toInt) := by
  have hk : x.toNatClampNeg = x.toInt.toNat := rfl
  rw [hk]
  generalize x.toInt = a at h1 h2
  have hx : a = 0 ∨ a = 1 ∨ a = 2 ∨ a = 3 ∨ a = 4 ∨ a = 5 ∨ a = 6 ∨ a = 7 := by omega
  unfold SetV
  rcases hx with rfl | rfl | rfl | rfl | rfl | rfl | rfl | rfl
  · show _ ↔ ((0 : Int) ≤ v ∧ v ≤ (99 : Int)); omega
  · show _ ↔ ((0 : Int) ≤ v ∧ v ≤ (99 : Int)); omega
  · show _ ↔ ((1 : Int) ≤ v ∧ v ≤ (6 : Int)); omega
  · show _ ↔ ((0 : Int) ≤ v ∧ v ≤ (2 : Int)); omega
  · show _ ↔ ((0 : Int) ≤ v ∧ v ≤ (1 : Int)); omega
  · show _ ↔ ((0 : Int) ≤ v ∧ v ≤ (60 : Int)); omega
  · show _ ↔ ((0 : Int) ≤ v ∧ v ≤ (3 : Int)); omega
  · show _ ↔ ((0 : Int) ≤ v ∧ v ≤ (8 : Int)); omega
theorem toN {x : Int32} (h : 0 ≤ x.toInt) : x = nI x.toInt.toNat := by
  apply Int32.toInt_inj.mp
  have := i_hi x
  rw [nI_toInt (by omega)]
  omega
/-! How far cells are, seen from the eye. -/
def FarOK (s f : Nat → Int32) : Prop := ∀ k : Nat, k < 100 → f k = nI (rt (sqd (s 0).toInt.toNat k))
theorem s_X4_look (o_settings o_fars : Nat → Int32) (h0 : 0 ≤ (o_settings 0).toInt) (h1 : (o_settings 0).toInt ≤ 99) : okP (f_X4_look o_settings o_fars) (fun u => FarOK o_settings u) := by
  refine ok_mono (s_look (o_settings 0).toInt.toNat (by omega) o_settings o_fars (toN h0)) (fun u q => ?_)
  intro k hk
  rw [q]
  unfold look
  rw [if_pos ⟨Nat.zero_le _, hk⟩]
theorem FarOK_set {s s' f f' : Nat → Int32} (h : FarOK s f) (e : s' 0 = s 0) (e2 : f' = f) : FarOK s' f' := by
  intro k hk
  rw [e, e2]
  exact h k hk
def EqN (n : Nat) (f g : Nat → Int32) : Prop := ∀ j : Nat, j < n → f j = g j
def EqO (n off : Nat) (k im : Nat → Int32) : Prop := ∀ j : Nat, j < n → k j = im (off + j)
