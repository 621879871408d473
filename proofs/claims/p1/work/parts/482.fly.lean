/-! The walk of the first, where nothing is told of rings. -/
def RNone (hf to on : Nat → Int32) : Prop := ∀ j : Nat, j < 7 → hf j = -1 ∧ to j = 0 ∧ on j = -1
theorem e_isLet1 (x1 x2 : Int32) {hf to on : Nat → Int32} (h : RNone hf to on) (h0 : 0 ≤ x1.toInt) (h1 : x1.toInt ≤ 6) : okP (f_X5_isLet x1 x2 on) (fun r => r = 1) := by
  unfold f_X5_isLet
  refine ok_chk (ix (by omega) (by omega)) ?_
  have e := (h x1.toNatClampNeg (by rw [i_cl]; omega)).2.2
  refine ok_ite (fun _ => ok_some rfl) (fun z => absurd e z)
theorem e_ringGives1 (x1 x2 x3 : Int32) {hf to on : Nat → Int32} (h : RNone hf to on) (h0 : 0 ≤ x1.toInt) (h1 : x1.toInt ≤ 6) : okP (f_X5_ringGives x1 x2 x3 hf to) (fun r => r = 1) := by
  unfold f_X5_ringGives
  have hx : ¬ (x1 < 0 ∨ 7 ≤ x1.toNatClampNeg) := ix (by omega) (by omega)
  obtain ⟨e1, e2, _⟩ := h x1.toNatClampNeg (by rw [i_cl]; omega)
  have hB : okP (f_X5_ringGives_B32 x1 x3 hf to) (fun r => r = 1) := by
    unfold f_X5_ringGives_B32
    refine ok_chk hx ?_
    refine ok_ite (fun _ => ok_some rfl) (fun z => absurd e1 z)
  have hB2 : ∀ x : Int32, x = 0 → okP (f_X5_ringGives_B19 x1 x2 x3 x hf to) (fun r => r = 1) := by
    intro x hx0
    unfold f_X5_ringGives_B19
    subst hx0
    exact ok_ite (fun z => absurd z (by decide)) (fun _ => hB)
  refine ok_chk hx ?_
  refine ok_nmx (fun x hx1 => ?_)
  rw [e2] at hx1
  refine ok_ite (fun z => ?_) (fun _ => hB2 x hx1)
  rw [hx1] at z
  exact absurd z (by decide)
theorem d10 {q : Int32} (h0 : 0 ≤ q.toInt) (h1 : q.toInt ≤ 9) : (1 : Int32) <<< (q &&& 31) = (1 : Int32) <<< q := by
  have h : q.toInt = 0 ∨ q.toInt = 1 ∨ q.toInt = 2 ∨ q.toInt = 3 ∨ q.toInt = 4 ∨ q.toInt = 5 ∨ q.toInt = 6 ∨ q.toInt = 7 ∨ q.toInt = 8 ∨ q.toInt = 9 := by omega
  rcases h with h | h | h | h | h | h | h | h | h | h
  · rw [show q = 0 from i_eq.mpr h]; decide
  · rw [show q = 1 from i_eq.mpr h]; decide
  · rw [show q = 2 from i_eq.mpr h]; decide
  · rw [show q = 3 from i_eq.mpr h]; decide
  · rw [show q = 4 from i_eq.mpr h]; decide
  · rw [show q = 5 from i_eq.mpr h]; decide
  · rw [show q = 6 from i_eq.mpr h]; decide
  · rw [show q = 7 from i_eq.mpr h]; decide
  · rw [show q = 8 from i_eq.mpr h]; decide
  · rw [show q = 9 from i_eq.mpr h]; decide
theorem ofI (q : Int32) : Int32.ofInt q.toInt = q := Int32.ofInt_toInt q
theorem e_see1 (x1 x2 : Int32) (se : Nat → Int32) (h0 : 0 ≤ x1.toInt) (h1 : x1.toInt ≤ 6) (c0 : 0 ≤ x2.toInt) (c1 : x2.toInt ≤ 99) : okP (f_X5_see x1 x2 se) (fun u => u = seeU se (x1.toInt, x2.toInt)) := by
  unfold f_X5_see
  have f1 : (x2 / 10).toInt = x2.toInt / (10 : Int) := i_div2 rfl rfl (by omega) (by omega)
  have f2 : (x2 - x2 / 10 * 10).toInt = x2.toInt % (10 : Int) := i_rem2 rfl rfl (by omega) (by omega)
  have f3 : (10 * x1).toInt = (10 : Int) * x1.toInt := i_mul2 rfl rfl (by omega) (by omega)
  have f4 : ((10 * x1) + (x2 / 10)).toInt = (10 * x1).toInt + (x2 / 10).toInt := i_add2 rfl rfl (by omega) (by omega)
  refine ok_nmi (fun x hx kx => ?_)
  have hi : ¬ (x < 0 ∨ 70 ≤ x.toNatClampNeg) := ix (by omega) (by omega)
  have ci : (x.toNatClampNeg : Int) = x.toInt := clI (by omega)
  refine ok_chk hi ?_
  refine ok_nmx (fun y hy => ?_)
  refine ok_chk hi ?_
  refine ok_some ?_
  rw [d10 (by omega) (by omega)] at hy
  funext i
  unfold upd seeU
  show (if i = x.toNatClampNeg then y else se i) = (if (i : Int) = 10 * x1.toInt + x2.toInt / 10 then se i ||| ((1 : Int32) <<< (Int32.ofInt (x2.toInt % 10))) else se i)
  by_cases h : i = x.toNatClampNeg
  · rw [if_pos h, if_pos (by omega), hy, h, ← f2, ofI]
  · rw [if_neg h, if_neg (by omega)]
theorem gI_0 {c k : Int} (h0 : 0 ≤ c) (h1 : c ≤ 99) : gI c k 0 = c := by
  unfold gI
  rw [Int.zero_mul, Int.zero_mul, if_pos (by omega)]
  omega
theorem FU_s (n : Nat) (h : n < 1000) : ∃ f : Nat, FU = f + n := ⟨FU - n, by have := FU_gt (n := n) (by omega); omega⟩
theorem wt_is {t : Int32} (h : t.toInt = 0 ∨ t.toInt = 1) {w : Int32} (hw : w = ((32 : Int32) >>> (((2 * t) + 0) &&& 31)) * 1) : w = wt t.toInt := by
  rcases h with h | h
  · rw [show t = 0 from i_eq.mpr h] at hw ⊢
    rw [hw]
    decide
  · rw [show t = 1 from i_eq.mpr h] at hw ⊢
    rw [hw]
    decide
theorem e_arriveN (x1 x2 count : Int32) (ws : Int64) (fw ft fs : Int32) (ca : Nat → Int32) (en : Nat → Int64) (k0 : 0 ≤ x1.toInt) (k1 : x1.toInt < 8) (ht : x2.toInt = 0 ∨ x2.toInt = 1) (c0 : 0 ≤ (ca 6).toInt) (c1 : (ca 6).toInt ≤ 99) (n0 : 0 ≤ count.toInt) (n1 : count.toInt < 1000000) : okP (f_X5_arrive x1 x2 0 1 6 1 count ws (-1) fw ft fs ca en) (fun u => u.1.toInt = count.toInt + 1 ∧ u.2.1 = wsU ws ((ca 6).toInt, x1.toInt, x2.toInt) ∧ u.2.2.1 = -1 ∧ u.2.2.2.2.2.2 = arrU en ((ca 6).toInt, x1.toInt, x2.toInt)) := by
  unfold f_X5_arrive
  refine ok_nmx (fun w hw => ?_)
  have hw2 := wt_is ht hw
  clear hw
  refine ok_ite (fun _ => ?_) (fun z => absurd (show (-1 : Int32) ≤ 0 by decide) z)
  refine ok_ite (fun z => absurd z (by decide)) (fun _ => ?_)
  have fc : (count + 1).toInt = count.toInt + (1 : Int) := i_add2 rfl rfl (by omega) (by omega)
  refine ok_nmi (fun cn hcn kcn => ?_)
  refine ok_nmx (fun wn hwn => ?_)
  obtain ⟨f, hf⟩ := FU_s 3 (by omega)
  rw [hf]
  have e6 : (6 : Int32).toNatClampNeg = 6 := by decide
  have last : ∀ (e : Nat → Int64) (v : Int32), v = 1 + 1 → okP (f_X5_arrive_L86 (f + 1) x1 w v 6 1 cn wn (-1) fw ft fs ca e) (fun u => u.1.toInt = count.toInt + 1 ∧ u.2.1 = wsU ws ((ca 6).toInt, x1.toInt, x2.toInt) ∧ u.2.2.1 = -1 ∧ u.2.2.2.2.2.2 = e) := by
    intro e v hv
    show okP (f_X5_arrive_L86b (f_X5_arrive_L86 f) x1 w v 6 1 cn wn (-1) fw ft fs ca e) _
    unfold f_X5_arrive_L86b
    refine ok_ite (fun _ => ?_) (fun z => absurd (show (1 : Int32) < v by rw [hv]; decide) z)
    refine ok_some ⟨by show cn.toInt = _; omega, ?_, rfl, rfl⟩
    show wn = _
    rw [hwn, hw2]
    rfl
  have second : ∀ (v : Int32), v = 0 + 1 → okP (f_X5_arrive_L86 (f + 2) x1 w v 6 1 cn wn (-1) fw ft fs ca (fun c => en c + (if (c : Int) = (ca 6).toInt then (2 * wt x2.toInt).toInt64 else 0))) (fun u => u.1.toInt = count.toInt + 1 ∧ u.2.1 = wsU ws ((ca 6).toInt, x1.toInt, x2.toInt) ∧ u.2.2.1 = -1 ∧ u.2.2.2.2.2.2 = arrU en ((ca 6).toInt, x1.toInt, x2.toInt)) := by
    intro v hv
    rw [show (0 + 1 : Int32) = 1 by decide] at hv
    subst hv
    show okP (f_X5_arrive_L86b (f_X5_arrive_L86 (f + 1)) x1 w 1 6 1 cn wn (-1) fw ft fs ca _) _
    unfold f_X5_arrive_L86b
    refine ok_ite (fun z => absurd z (by decide)) (fun _ => ?_)
    refine ok_chk (by decide) ?_
    rw [e6]
    refine ok_bd1 (e_aheadS (ca 6) x1 1 c0 c1 k0 k1 (by decide) (by decide)) (fun r q => ?_)
    replace q : r.toInt = gI (ca 6).toInt x1.toInt 1 := q
    have hg := gI_rng (c := (ca 6).toInt) (k := x1.toInt) (s := 1)
    refine ok_ite (fun a => ?_) (fun a => ?_)
    · have a1 : r.toInt = (-1 : Int) := i_eq.mp a
      unfold f_X5_arrive_B144
      refine ok_nmx (fun v hv => ?_)
      refine ok_mono (last _ v hv) (fun u hu => ⟨hu.1, hu.2.1, hu.2.2.1, ?_⟩)
      rw [hu.2.2.2]
      funext c
      unfold arrU
      show en c + (if (c : Int) = (ca 6).toInt then (2 * wt x2.toInt).toInt64 else 0) = en c + (if (c : Int) = (ca 6).toInt then (2 * wt x2.toInt).toInt64 else 0) + (if (c : Int) = gI (ca 6).toInt x1.toInt 1 then (wt x2.toInt).toInt64 else 0)
      rw [if_neg (c := (c : Int) = gI (ca 6).toInt x1.toInt 1) (by omega), Int64.add_zero]
    · have a1 : ¬ r.toInt = (-1 : Int) := fun z => a (i_eq.mpr z)
      have hx : ¬ (r < 0 ∨ 100 ≤ r.toNatClampNeg) := ix (by omega) (by omega)
      have cr : (r.toNatClampNeg : Int) = r.toInt := clI (by omega)
      refine ok_chk hx ?_
      refine ok_ite (fun z => absurd z (by decide)) (fun _ => ?_)
      unfold f_X5_arrive_B142
      refine ok_nmx (fun y hy => ?_)
      refine ok_chk hx ?_
      unfold f_X5_arrive_B144
      refine ok_nmx (fun v hv => ?_)
      refine ok_mono (last _ v hv) (fun u hu => ⟨hu.1, hu.2.1, hu.2.2.1, ?_⟩)
      rw [hu.2.2.2]
      funext c
      unfold arrU vp_updL
      show (if c = r.toNatClampNeg then y else en c + (if (c : Int) = (ca 6).toInt then (2 * wt x2.toInt).toInt64 else 0)) = en c + (if (c : Int) = (ca 6).toInt then (2 * wt x2.toInt).toInt64 else 0) + (if (c : Int) = gI (ca 6).toInt x1.toInt 1 then (wt x2.toInt).toInt64 else 0)
      by_cases h : c = r.toNatClampNeg
      · rw [if_pos h, if_pos (c := (c : Int) = gI (ca 6).toInt x1.toInt 1) (by omega), hy, hw2, h]
      · rw [if_neg h, if_neg (c := (c : Int) = gI (ca 6).toInt x1.toInt 1) (by omega), Int64.add_zero]
  show okP (f_X5_arrive_L86b (f_X5_arrive_L86 (f + 2)) x1 w 0 6 1 cn wn (-1) fw ft fs ca en) _
  unfold f_X5_arrive_L86b
  refine ok_ite (fun z => absurd z (by decide)) (fun _ => ?_)
  refine ok_chk (by decide) ?_
  rw [e6]
  refine ok_bd1 (e_aheadS (ca 6) x1 0 c0 c1 k0 k1 (by decide) (by decide)) (fun r q => ?_)
  replace q : r.toInt = gI (ca 6).toInt x1.toInt 0 := q
  rw [gI_0 c0 c1] at q
  refine ok_ite (fun a => ?_) (fun a => ?_)
  · have a1 : r.toInt = (-1 : Int) := i_eq.mp a
    omega
  · have hx : ¬ (r < 0 ∨ 100 ≤ r.toNatClampNeg) := ix (by omega) (by omega)
    have cr : (r.toNatClampNeg : Int) = r.toInt := clI (by omega)
    refine ok_chk hx ?_
    refine ok_ite (fun _ => ?_) (fun z => absurd rfl z)
    unfold f_X5_arrive_B142
    refine ok_nmx (fun y hy => ?_)
    refine ok_chk hx ?_
    unfold f_X5_arrive_B144
    refine ok_nmx (fun v hv => ?_)
    have he : vp_updL en r.toNatClampNeg y = (fun c => en c + (if (c : Int) = (ca 6).toInt then (2 * wt x2.toInt).toInt64 else 0)) := by
      funext c
      unfold vp_updL
      by_cases h : c = r.toNatClampNeg
      · rw [if_pos h, if_pos (by omega), hy, hw2, h]
      · rw [if_neg h, if_neg (by omega), Int64.add_zero]
    rw [he]
    exact second v hv
