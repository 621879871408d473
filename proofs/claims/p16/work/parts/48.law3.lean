/-! Pieces and the cache of the class, at the law. -/
theorem ok_and {α : Type} {x : Option α} {P Q : α → Prop} (h : okP x P) (g : okP x Q) : okP x (fun a => P a ∧ Q a) := by
  obtain ⟨a, ha, hp⟩ := h
  obtain ⟨b, hb, hq⟩ := g
  have e : a = b := Option.some.inj (ha.symm.trans hb)
  subst e
  exact ⟨a, ha, hp, hq⟩
theorem KnO_set {kn kn' s s' cu wa pc pm ph pa pn : Nat → Int32} (h : KnO kn s cu wa pc pm ph pa pn) (q : (kn' = kn ∧ s' 7 = s 7) ∨ Kn0 kn') : KnO kn' s' cu wa pc pm ph pa pn := by
  rcases q with ⟨q1, q2⟩ | q
  · rw [q1]
    intro p c hp hc
    rw [q2]
    exact h p c hp hc
  · exact KnO_0 q _ _ _ _ _ _ _ _
theorem KnO_sea {kn kn' s cu cu' wa pc pm ph pa pn : Nat → Int32} (h : KnO kn s cu wa pc pm ph pa pn) (q : (kn' = kn ∧ cu' = cu) ∨ Kn0 kn') : KnO kn' s cu' wa pc pm ph pa pn := by
  rcases q with ⟨q1, q2⟩ | q
  · rw [q1, q2]
    exact h
  · exact KnO_0 q _ _ _ _ _ _ _ _
theorem KnO_cell {kn kn' s cu cu' wa wa' pc pm ph pa pn : Nat → Int32} (h : KnO kn s cu wa pc pm ph pa pn) (q : (kn' = kn ∧ cu' = cu ∧ wa' = wa) ∨ Kn0 kn') : KnO kn' s cu' wa' pc pm ph pa pn := by
  rcases q with ⟨q1, q2, q3⟩ | q
  · rw [q1, q2, q3]
    exact h
  · exact KnO_0 q _ _ _ _ _ _ _ _
theorem KnO_rest {a : Int32} {kn kn' s s' cu cu' wa wa' pc pc' pm pm' ph ph' pa pa' pn pn' : Nat → Int32} (h : KnO kn s cu wa pc pm ph pa pn) (k0 : a.toInt = 0 → kn' = kn) (k1 : ¬ a.toInt = 0 → Kn0 kn') (h1 : a.toInt = 0 → s' = s) (h2 : a.toInt = 0 → cu' = cu) (h3 : a.toInt = 0 → wa' = wa) (h4 : a.toInt = 0 → pc' = pc) (h5 : a.toInt = 0 → pm' = pm) (h6 : a.toInt = 0 → ph' = ph) (h7 : a.toInt = 0 → pa' = pa) (h8 : a.toInt = 0 → pn' = pn) : KnO kn' s' cu' wa' pc' pm' ph' pa' pn' := by
  by_cases ha : a.toInt = 0
  · rw [k0 ha, h1 ha, h2 ha, h3 ha, h4 ha, h5 ha, h6 ha, h7 ha, h8 ha]
    exact h
  · exact KnO_0 (k1 ha) _ _ _ _ _ _ _ _
theorem PieOK_img {pc pm ph pa kc km kh ka kc' km' kh' ka' : Nat → Int32} (h1 : kc' = va_cpy pc kc 0 0 4) (h2 : km' = va_cpy pm km 0 0 4) (h3 : kh' = va_cpy ph kh 0 0 4) (h4 : ka' = va_cpy pa ka 0 0 4) (g : PieOK pc pm ph pa) : PieOK kc' km' kh' ka' := by
  intro p hp
  rw [h1, h2, h3, h4, cpy_lt hp, cpy_lt hp, cpy_lt hp, cpy_lt hp]
  exact g p hp
theorem PieOK_rest {a : Int32} {pc pm ph pa kc km kh ka pc' pm' ph' pa' : Nat → Int32} (h1 : a.toInt = 0 → pc' = pc) (g1 : ¬ a.toInt = 0 → pc' = va_cpy kc pc 0 0 4) (h2 : a.toInt = 0 → pm' = pm) (g2 : ¬ a.toInt = 0 → pm' = va_cpy km pm 0 0 4) (h3 : a.toInt = 0 → ph' = ph) (g3 : ¬ a.toInt = 0 → ph' = va_cpy kh ph 0 0 4) (h4 : a.toInt = 0 → pa' = pa) (g4 : ¬ a.toInt = 0 → pa' = va_cpy ka pa 0 0 4) (g : PieOK pc pm ph pa) (k : PieOK kc km kh ka) : PieOK pc' pm' ph' pa' := by
  by_cases ha : a.toInt = 0
  · rw [h1 ha, h2 ha, h3 ha, h4 ha]
    exact g
  · exact PieOK_img (g1 ha) (g2 ha) (g3 ha) (g4 ha) k
def PieO (pc pm ph pa pn im : Nat → Int32) : Prop := ∀ p : Nat, p < 4 → pc p = im (522 + 5 * p) ∧ pm p = im (522 + (5 * p + 1)) ∧ ph p = im (522 + (5 * p + 2)) ∧ pa p = im (522 + (5 * p + 3)) ∧ pn p = im (522 + (5 * p + 4))
theorem PieO_img {pc pm ph pa pn kc km kh ka ke kc' km' kh' ka' ke' pp im' : Nat → Int32} (h1 : kc' = va_cpy pc kc 0 0 4) (h2 : km' = va_cpy pm km 0 0 4) (h3 : kh' = va_cpy ph kh 0 0 4) (h4 : ka' = va_cpy pa ka 0 0 4) (h5 : ke' = va_cpy pn ke 0 0 4) (m : ∀ j : Nat, j < 20 → im' (522 + j) = pp j) (h : PieR pc pm ph pa pn pp) : PieO kc' km' kh' ka' ke' im' := by
  intro p hp
  rw [h1, h2, h3, h4, h5, cpy_lt hp, cpy_lt hp, cpy_lt hp, cpy_lt hp, cpy_lt hp, m _ (by omega), m _ (by omega), m _ (by omega), m _ (by omega), m _ (by omega)]
  exact h p hp
theorem PieR_rest {a b : Int32} {pc pm ph pa pn kc km kh ka ke pc' pm' ph' pa' pn' pp pp' im : Nat → Int32} (hab : a.toInt = b.toInt) (h1 : a.toInt = 0 → pc' = pc) (g1 : ¬ a.toInt = 0 → pc' = va_cpy kc pc 0 0 4) (h2 : a.toInt = 0 → pm' = pm) (g2 : ¬ a.toInt = 0 → pm' = va_cpy km pm 0 0 4) (h3 : a.toInt = 0 → ph' = ph) (g3 : ¬ a.toInt = 0 → ph' = va_cpy kh ph 0 0 4) (h4 : a.toInt = 0 → pa' = pa) (g4 : ¬ a.toInt = 0 → pa' = va_cpy ka pa 0 0 4) (h5 : a.toInt = 0 → pn' = pn) (g5 : ¬ a.toInt = 0 → pn' = va_cpy ke pn 0 0 4) (m0 : b.toInt = 0 → pp' = pp) (m1 : ¬ b.toInt = 0 → ∀ j : Nat, j < 20 → pp' j = im (522 + j)) (h : PieR pc pm ph pa pn pp) (k : ¬ b.toInt = 0 → PieO kc km kh ka ke im) : PieR pc' pm' ph' pa' pn' pp' := by
  by_cases hb : b.toInt = 0
  · have ha : a.toInt = 0 := by omega
    rw [h1 ha, h2 ha, h3 ha, h4 ha, h5 ha, m0 hb]
    exact h
  · have ha : ¬ a.toInt = 0 := by omega
    intro p hp
    have m := m1 hb
    rw [g1 ha, g2 ha, g3 ha, g4 ha, g5 ha, cpy_lt hp, cpy_lt hp, cpy_lt hp, cpy_lt hp, cpy_lt hp, m _ (by omega), m _ (by omega), m _ (by omega), m _ (by omega), m _ (by omega)]
    exact k hb p hp
theorem piece_rel {V : Prop} {a b x1 x2 x3 x4 x5 : Int32} {kn kn' pc pm ph pa pn pc' pm' ph' pa' pn' pp pp' : Nat → Int32} (e : a.toInt = b.toInt) (a0 : 0 ≤ a.toInt) (hA : (V ∧ a.toInt < 4 ∧ Kn0 kn' ∧ pc' = upd pc a.toNatClampNeg x1 ∧ pm' = upd pm a.toNatClampNeg x2 ∧ ph' = upd ph a.toNatClampNeg x3 ∧ pa' = upd pa a.toNatClampNeg x4 ∧ pn' = upd pn a.toNatClampNeg x5) ∨ (¬ (V ∧ a.toInt < 4) ∧ kn' = kn ∧ pc' = pc ∧ pm' = pm ∧ ph' = ph ∧ pa' = pa ∧ pn' = pn)) (hB : (V ∧ b.toInt < 4 ∧ ∃ i : Int32, i.toInt = 5 * b.toInt ∧ pp' = upd (upd (upd (upd (upd pp i.toNatClampNeg x1) (i + 1).toNatClampNeg x2) (i + 2).toNatClampNeg x3) (i + 3).toNatClampNeg x4) (i + 4).toNatClampNeg x5) ∨ (¬ (V ∧ b.toInt < 4) ∧ pp' = pp)) (h : PieR pc pm ph pa pn pp) : PieR pc' pm' ph' pa' pn' pp' := by
  rcases hA with ⟨v, al, _, e1, e2, e3, e4, e5⟩ | ⟨v, _, e1, e2, e3, e4, e5⟩ <;> rcases hB with ⟨w, bl, i, hi, ep⟩ | ⟨w, ep⟩
  · have hk : (a.toNatClampNeg : Int) = a.toInt := clI a0
    generalize a.toNatClampNeg = k at e1 e2 e3 e4 e5 hk
    have g1 : (i + 1).toInt = i.toInt + (1 : Int) := i_add2 rfl rfl (by omega) (by omega)
    have g2 : (i + 2).toInt = i.toInt + (2 : Int) := i_add2 rfl rfl (by omega) (by omega)
    have g3 : (i + 3).toInt = i.toInt + (3 : Int) := i_add2 rfl rfl (by omega) (by omega)
    have g4 : (i + 4).toInt = i.toInt + (4 : Int) := i_add2 rfl rfl (by omega) (by omega)
    have n0 : i.toNatClampNeg = 5 * k := by
      rw [i_cl]
      omega
    have n1 : (i + 1).toNatClampNeg = 5 * k + 1 := by
      rw [i_cl]
      omega
    have n2 : (i + 2).toNatClampNeg = 5 * k + 2 := by
      rw [i_cl]
      omega
    have n3 : (i + 3).toNatClampNeg = 5 * k + 3 := by
      rw [i_cl]
      omega
    have n4 : (i + 4).toNatClampNeg = 5 * k + 4 := by
      rw [i_cl]
      omega
    rw [n0, n1, n2, n3, n4] at ep
    have v0 : pp' (5 * k) = x1 := by
      rw [ep, upd_no (by omega), upd_no (by omega), upd_no (by omega), upd_no (by omega), upd_is]
    have v1 : pp' (5 * k + 1) = x2 := by
      rw [ep, upd_no (by omega), upd_no (by omega), upd_no (by omega), upd_is]
    have v2 : pp' (5 * k + 2) = x3 := by
      rw [ep, upd_no (by omega), upd_no (by omega), upd_is]
    have v3 : pp' (5 * k + 3) = x4 := by
      rw [ep, upd_no (by omega), upd_is]
    have v4 : pp' (5 * k + 4) = x5 := by
      rw [ep, upd_is]
    have vo : ∀ j : Nat, (j < 5 * k ∨ 5 * k + 5 ≤ j) → pp' j = pp j := by
      intro j hj
      rw [ep, upd_no (by omega), upd_no (by omega), upd_no (by omega), upd_no (by omega), upd_no (by omega)]
    intro p hp
    by_cases hpk : p = k
    · rw [hpk, e1, e2, e3, e4, e5, v0, v1, v2, v3, v4, upd_is, upd_is, upd_is, upd_is, upd_is]
      exact ⟨rfl, rfl, rfl, rfl, rfl⟩
    · rw [e1, e2, e3, e4, e5, upd_no hpk, upd_no hpk, upd_no hpk, upd_no hpk, upd_no hpk, vo _ (by omega), vo _ (by omega), vo _ (by omega), vo _ (by omega), vo _ (by omega)]
      exact h p hp
  · exact absurd ⟨v, by omega⟩ w
  · exact absurd ⟨w, by omega⟩ v
  · rw [e1, e2, e3, e4, e5, ep]
    exact h
theorem piece_ok {V : Prop} {a x1 x2 x3 x4 x5 : Int32} {kn kn' pc pm ph pa pn pc' pm' ph' pa' pn' : Nat → Int32} (hA : (V ∧ a.toInt < 4 ∧ Kn0 kn' ∧ pc' = upd pc a.toNatClampNeg x1 ∧ pm' = upd pm a.toNatClampNeg x2 ∧ ph' = upd ph a.toNatClampNeg x3 ∧ pa' = upd pa a.toNatClampNeg x4 ∧ pn' = upd pn a.toNatClampNeg x5) ∨ (¬ (V ∧ a.toInt < 4) ∧ kn' = kn ∧ pc' = pc ∧ pm' = pm ∧ ph' = ph ∧ pa' = pa ∧ pn' = pn)) (hV : V → 0 ≤ x1.toInt ∧ x1.toInt ≤ 99 ∧ 0 ≤ x2.toInt ∧ x2.toInt ≤ 24 ∧ 0 ≤ x3.toInt ∧ x3.toInt ≤ 1 ∧ 0 ≤ x4.toInt ∧ x4.toInt ≤ 24) (g : PieOK pc pm ph pa) : PieOK pc' pm' ph' pa' := by
  rcases hA with ⟨v, al, _, e1, e2, e3, e4, e5⟩ | ⟨v, _, e1, e2, e3, e4, e5⟩
  · intro p hp
    by_cases hpk : p = a.toNatClampNeg
    · rw [hpk, e1, e2, e3, e4, upd_is, upd_is, upd_is, upd_is]
      exact hV v
    · rw [e1, e2, e3, e4, upd_no hpk, upd_no hpk, upd_no hpk, upd_no hpk]
      exact g p hp
  · rw [e1, e2, e3, e4]
    exact g
theorem piece_kn {V : Prop} {a x1 x2 x3 x4 x5 : Int32} {kn kn' s cu wa pc pm ph pa pn pc' pm' ph' pa' pn' : Nat → Int32} (hA : (V ∧ a.toInt < 4 ∧ Kn0 kn' ∧ pc' = upd pc a.toNatClampNeg x1 ∧ pm' = upd pm a.toNatClampNeg x2 ∧ ph' = upd ph a.toNatClampNeg x3 ∧ pa' = upd pa a.toNatClampNeg x4 ∧ pn' = upd pn a.toNatClampNeg x5) ∨ (¬ (V ∧ a.toInt < 4) ∧ kn' = kn ∧ pc' = pc ∧ pm' = pm ∧ ph' = ph ∧ pa' = pa ∧ pn' = pn)) (g : KnO kn s cu wa pc pm ph pa pn) : KnO kn' s cu wa pc' pm' ph' pa' pn' := by
  rcases hA with ⟨v, al, z, e1, e2, e3, e4, e5⟩ | ⟨v, z, e1, e2, e3, e4, e5⟩
  · exact KnO_0 z _ _ _ _ _ _ _ _
  · rw [z, e1, e2, e3, e4, e5]
    exact g
theorem fits_same {a b x1 x2 ra rb : Int32} {s g cu cv wa wb pc pm ph pa pn pp : Nat → Int32} (e : a.toInt = b.toInt) (a4 : a.toInt ≤ 4) (e1 : EqN 200 cu cv) (e2 : EqN 200 wa wb) (e8 : EqN 8 s g) (hR : PieR pc pm ph pa pn pp) (hA : ((0 ≤ x1.toInt ∧ x1.toInt < a.toInt ∧ 0 ≤ x2.toInt ∧ x2.toInt < 100) ∧ FitP cu wa (s 7).toInt (pc x1.toNatClampNeg).toInt (pm x1.toNatClampNeg).toInt (ph x1.toNatClampNeg).toInt (pa x1.toNatClampNeg).toInt (pn x1.toNatClampNeg).toInt x2.toInt ra.toInt) ∨ (¬ (0 ≤ x1.toInt ∧ x1.toInt < a.toInt ∧ 0 ≤ x2.toInt ∧ x2.toInt < 100) ∧ ra.toInt = -1)) (hB : ((0 ≤ x1.toInt ∧ x1.toInt < b.toInt ∧ 0 ≤ x2.toInt ∧ x2.toInt < 100) ∧ FitP cv wb (g 7).toInt (pp (5 * x1.toNatClampNeg)).toInt (pp (5 * x1.toNatClampNeg + 1)).toInt (pp (5 * x1.toNatClampNeg + 2)).toInt (pp (5 * x1.toNatClampNeg + 3)).toInt (pp (5 * x1.toNatClampNeg + 4)).toInt x2.toInt rb.toInt) ∨ (¬ (0 ≤ x1.toInt ∧ x1.toInt < b.toInt ∧ 0 ≤ x2.toInt ∧ x2.toInt < 100) ∧ rb.toInt = -1)) : ra.toInt = rb.toInt := by
  rcases hA with ⟨a1, a2⟩ | ⟨a1, a2⟩ <;> rcases hB with ⟨b1, b2⟩ | ⟨b1, b2⟩
  · have hk : x1.toNatClampNeg < 4 := by
      rw [i_cl]
      omega
    obtain ⟨r1, r2, r3, r4, r5⟩ := hR x1.toNatClampNeg hk
    rw [r1, r2, r3, r4, r5, e8 7 (by omega)] at a2
    exact FitP_uniq (FitP_congr e1 e2 (by omega) (by omega) a2) b2
  · exact absurd (show 0 ≤ x1.toInt ∧ x1.toInt < b.toInt ∧ 0 ≤ x2.toInt ∧ x2.toInt < 100 by omega) b1
  · exact absurd (show 0 ≤ x1.toInt ∧ x1.toInt < a.toInt ∧ 0 ≤ x2.toInt ∧ x2.toInt < 100 by omega) a1
  · omega
theorem PieR_i : PieR (fun _ => 0) (fun _ => 0) (fun _ => 0) (fun _ => 0) (fun _ => 0) (fun _ => 0) := fun _ _ => ⟨rfl, rfl, rfl, rfl, rfl⟩
theorem PieOK_i : PieOK (fun _ => 0) (fun _ => 0) (fun _ => 0) (fun _ => 0) := fun _ _ => (show 0 ≤ (0 : Int32).toInt ∧ (0 : Int32).toInt ≤ 99 ∧ 0 ≤ (0 : Int32).toInt ∧ (0 : Int32).toInt ≤ 24 ∧ 0 ≤ (0 : Int32).toInt ∧ (0 : Int32).toInt ≤ 1 ∧ 0 ≤ (0 : Int32).toInt ∧ (0 : Int32).toInt ≤ 24 by decide)
theorem KnO_i (s cu wa pc pm ph pa pn : Nat → Int32) : KnO iKnown s cu wa pc pm ph pa pn := by
  refine KnO_0 (fun j hj => ?_) _ _ _ _ _ _ _ _
  unfold iKnown
  rw [if_pos hj]
theorem k_X6_restore (o_hasImage : Int32) (o_walkIsOld : Int32) (o_endsAreOld : Int32) (told_pieceCount : Int32) (told_dragCount : Int32) (told_settings : Nat → Int32) (told_howFar : Nat → Int32) (told_tones : Nat → Int32) (told_currents : Nat → Int32) (told_warmths : Nat → Int32) (told_depths : Nat → Int32) (told_fars : Nat → Int32) (told_pieceCells : Nat → Int32) (told_pieceMonths : Nat → Int32) (told_pieceHighs : Nat → Int32) (told_pieceAges : Nat → Int32) (told_pieceNeeds : Nat → Int32) (told_dragCells : Nat → Int32) (told_dragEighths : Nat → Int32) (kept_pieceCount : Int32) (kept_dragCount : Int32) (kept_settings : Nat → Int32) (kept_howFar : Nat → Int32) (kept_tones : Nat → Int32) (kept_currents : Nat → Int32) (kept_warmths : Nat → Int32) (kept_depths : Nat → Int32) (kept_fars : Nat → Int32) (kept_pieceCells : Nat → Int32) (kept_pieceMonths : Nat → Int32) (kept_pieceHighs : Nat → Int32) (kept_pieceAges : Nat → Int32) (kept_pieceNeeds : Nat → Int32) (kept_dragCells : Nat → Int32) (kept_dragEighths : Nat → Int32) (seas_known : Nat → Int32) : okP (f_X6_restore o_hasImage o_walkIsOld o_endsAreOld told_pieceCount told_dragCount told_settings told_howFar told_tones told_currents told_warmths told_depths told_fars told_pieceCells told_pieceMonths told_pieceHighs told_pieceAges told_pieceNeeds told_dragCells told_dragEighths kept_pieceCount kept_dragCount kept_settings kept_howFar kept_tones kept_currents kept_warmths kept_depths kept_fars kept_pieceCells kept_pieceMonths kept_pieceHighs kept_pieceAges kept_pieceNeeds kept_dragCells kept_dragEighths seas_known) (fun u => (o_hasImage.toInt = 0 → u.1.toInt = -4) ∧ (¬ o_hasImage.toInt = 0 → u.1.toInt = 1) ∧ (o_hasImage.toInt = 0 → u.2.2.2.1.toInt = told_pieceCount.toInt) ∧ (¬ o_hasImage.toInt = 0 → u.2.2.2.1.toInt = kept_pieceCount.toInt) ∧ (o_hasImage.toInt = 0 → u.2.2.2.2.1.toInt = told_dragCount.toInt) ∧ (¬ o_hasImage.toInt = 0 → u.2.2.2.2.1.toInt = kept_dragCount.toInt) ∧ (o_hasImage.toInt = 0 → u.2.2.2.2.2.1 = told_settings) ∧ (¬ o_hasImage.toInt = 0 → u.2.2.2.2.2.1 = va_cpy kept_settings told_settings 0 0 8) ∧ (o_hasImage.toInt = 0 → u.2.2.2.2.2.2.1 = told_howFar) ∧ (¬ o_hasImage.toInt = 0 → u.2.2.2.2.2.2.1 = va_cpy kept_howFar told_howFar 0 0 7) ∧ (o_hasImage.toInt = 0 → u.2.2.2.2.2.2.2.1 = told_tones) ∧ (¬ o_hasImage.toInt = 0 → u.2.2.2.2.2.2.2.1 = va_cpy kept_tones told_tones 0 0 7) ∧ (o_hasImage.toInt = 0 → u.2.2.2.2.2.2.2.2.1 = told_currents) ∧ (¬ o_hasImage.toInt = 0 → u.2.2.2.2.2.2.2.2.1 = va_cpy kept_currents told_currents 0 0 200) ∧ (o_hasImage.toInt = 0 → u.2.2.2.2.2.2.2.2.2.1 = told_warmths) ∧ (¬ o_hasImage.toInt = 0 → u.2.2.2.2.2.2.2.2.2.1 = va_cpy kept_warmths told_warmths 0 0 200) ∧ (o_hasImage.toInt = 0 → u.2.2.2.2.2.2.2.2.2.2.1 = told_depths) ∧ (¬ o_hasImage.toInt = 0 → u.2.2.2.2.2.2.2.2.2.2.1 = va_cpy kept_depths told_depths 0 0 100) ∧ (o_hasImage.toInt = 0 → u.2.2.2.2.2.2.2.2.2.2.2.1 = told_fars) ∧ (¬ o_hasImage.toInt = 0 → u.2.2.2.2.2.2.2.2.2.2.2.1 = va_cpy kept_fars told_fars 0 0 100) ∧ (o_hasImage.toInt = 0 → u.2.2.2.2.2.2.2.2.2.2.2.2.1 = told_pieceCells) ∧ (¬ o_hasImage.toInt = 0 → u.2.2.2.2.2.2.2.2.2.2.2.2.1 = va_cpy kept_pieceCells told_pieceCells 0 0 4) ∧ (o_hasImage.toInt = 0 → u.2.2.2.2.2.2.2.2.2.2.2.2.2.1 = told_pieceMonths) ∧ (¬ o_hasImage.toInt = 0 → u.2.2.2.2.2.2.2.2.2.2.2.2.2.1 = va_cpy kept_pieceMonths told_pieceMonths 0 0 4) ∧ (o_hasImage.toInt = 0 → u.2.2.2.2.2.2.2.2.2.2.2.2.2.2.1 = told_pieceHighs) ∧ (¬ o_hasImage.toInt = 0 → u.2.2.2.2.2.2.2.2.2.2.2.2.2.2.1 = va_cpy kept_pieceHighs told_pieceHighs 0 0 4) ∧ (o_hasImage.toInt = 0 → u.2.2.2.2.2.2.2.2.2.2.2.2.2.2.2.1 = told_pieceAges) ∧ (¬ o_hasImage.toInt = 0 → u.2.2.2.2.2.2.2.2.2.2.2.2.2.2.2.1 = va_cpy kept_pieceAges told_pieceAges 0 0 4) ∧ (o_hasImage.toInt = 0 → u.2.2.2.2.2.2.2.2.2.2.2.2.2.2.2.2.1 = told_pieceNeeds) ∧ (¬ o_hasImage.toInt = 0 → u.2.2.2.2.2.2.2.2.2.2.2.2.2.2.2.2.1 = va_cpy kept_pieceNeeds told_pieceNeeds 0 0 4) ∧ (o_hasImage.toInt = 0 → u.2.2.2.2.2.2.2.2.2.2.2.2.2.2.2.2.2.1 = told_dragCells) ∧ (¬ o_hasImage.toInt = 0 → u.2.2.2.2.2.2.2.2.2.2.2.2.2.2.2.2.2.1 = va_cpy kept_dragCells told_dragCells 0 0 4) ∧ (o_hasImage.toInt = 0 → u.2.2.2.2.2.2.2.2.2.2.2.2.2.2.2.2.2.2.1 = told_dragEighths) ∧ (¬ o_hasImage.toInt = 0 → u.2.2.2.2.2.2.2.2.2.2.2.2.2.2.2.2.2.2.1 = va_cpy kept_dragEighths told_dragEighths 0 0 4) ∧ (o_hasImage.toInt = 0 → u.2.2.2.2.2.2.2.2.2.2.2.2.2.2.2.2.2.2.2 = seas_known) ∧ (¬ o_hasImage.toInt = 0 → Kn0 u.2.2.2.2.2.2.2.2.2.2.2.2.2.2.2.2.2.2.2)) := by
  refine ok_mono (ok_and (l_X6_restore o_hasImage o_walkIsOld o_endsAreOld told_pieceCount told_dragCount told_settings told_howFar told_tones told_currents told_warmths told_depths told_fars told_pieceCells told_pieceMonths told_pieceHighs told_pieceAges told_pieceNeeds told_dragCells told_dragEighths kept_pieceCount kept_dragCount kept_settings kept_howFar kept_tones kept_currents kept_warmths kept_depths kept_fars kept_pieceCells kept_pieceMonths kept_pieceHighs kept_pieceAges kept_pieceNeeds kept_dragCells kept_dragEighths seas_known) (k0_X6_restore o_hasImage o_walkIsOld o_endsAreOld told_pieceCount told_dragCount told_settings told_howFar told_tones told_currents told_warmths told_depths told_fars told_pieceCells told_pieceMonths told_pieceHighs told_pieceAges told_pieceNeeds told_dragCells told_dragEighths kept_pieceCount kept_dragCount kept_settings kept_howFar kept_tones kept_currents kept_warmths kept_depths kept_fars kept_pieceCells kept_pieceMonths kept_pieceHighs kept_pieceAges kept_pieceNeeds kept_dragCells kept_dragEighths seas_known)) (fun u q => ?_)
  obtain ⟨⟨q0, q1, q2, q3, q4, q5, q6, q7, q8, q9, q10, q11, q12, q13, q14, q15, q16, q17, q18, q19, q20, q21, q22, q23, q24, q25, q26, q27, q28, q29, q30, q31, q32, q33⟩, z⟩ := q
  refine ⟨q0, q1, q2, q3, q4, q5, q6, q7, q8, q9, q10, q11, q12, q13, q14, q15, q16, q17, q18, q19, q20, q21, q22, q23, q24, q25, q26, q27, q28, q29, q30, q31, q32, q33, ?_, ?_⟩
  · intro y
    rcases z with ⟨_, z⟩ | ⟨x, _⟩
    · exact z
    · exact absurd y x
  · intro y
    rcases z with ⟨x, _⟩ | ⟨_, z⟩
    · exact absurd x y
    · exact z
