/-! The walk's next way: it comes to one or to none, and what is left falls. -/
def GoP (sets : Nat → Int32) (m0 : Nat) (r lev : Int32) (code cellAt : Nat → Int32) : Prop := (r.toInt = 0 ∨ (r.toInt = 1 ∧ wm lev code < m0)) ∧ WI lev sets code cellAt ∧ (r.toInt = 1 → lev.toInt = (sets 2).toInt)
theorem s_X7_goesOn_L30 (noRings noTones noFuel : Int32) (sets ringFar ringTone : Nat → Int32) (h0 : SetOK sets) (m0 : Nat) : ∀ (n : Nat) (lev : Int32) (code cellAt courseAt paceAt turnsAt slowAt fuelAt ringAt : Nat → Int32), wm lev code < n → WI lev sets code cellAt → wm lev code ≤ m0 → (lev.toInt = (sets 2).toInt → wm lev code < m0) → okP (f_X7_goesOn_L30 n lev noRings noTones noFuel sets ringFar ringTone code cellAt courseAt paceAt turnsAt slowAt fuelAt ringAt) (fun u => GoP sets m0 u.1 u.2.1 u.2.2.1 u.2.2.2.1) := by
  obtain ⟨s0a, s0b, s1a, s1b, s2a, s2b, s3a, s3b, s4a, s4b, s5a, s5b, s6a, s6b, s7a, s7b⟩ := id h0
  intro n
  induction n with
  | zero =>
    intro lev code cellAt courseAt paceAt turnsAt slowAt fuelAt ringAt hm
    exact absurd hm (Nat.not_lt_zero _)
  | succ n ih =>
    intro lev code cellAt courseAt paceAt turnsAt slowAt fuelAt ringAt hm hW hle hlt
    show okP (f_X7_goesOn_L30b (f_X7_goesOn_L30 n) lev noRings noTones noFuel sets ringFar ringTone code cellAt courseAt paceAt turnsAt slowAt fuelAt ringAt) _
    obtain ⟨w1, w2, w3, w4⟩ := id hW
    unfold f_X7_goesOn_L30b
    refine ok_ite (fun c1 => ?_) (fun c1 => ?_)
    · unfold f_X7_goesOn_B132
      refine ok_ite (fun c2 => ?_) (fun c2 => absurd c1 c2)
      exact ok_some ⟨Or.inl rfl, hW, fun h => absurd (show (0 : Int32).toInt = 1 from h) (by decide)⟩
    · have d1 : ¬ lev.toInt < (0 : Int) := fun z => c1 (i_lt.mpr z)
      refine ok_ite (fun c2 => ?_) (fun c2 => ?_)
      · have d2 : (sets 2).toInt ≤ lev.toInt := i_le.mp c2
        unfold f_X7_goesOn_B132
        refine ok_ite (fun c3 => absurd c3 c1) (fun _ => ?_)
        have e : lev.toInt = (sets 2).toInt := by omega
        exact ok_some ⟨Or.inr ⟨rfl, hlt e⟩, hW, fun _ => e⟩
      · have d2 : ¬ (sets 2).toInt ≤ lev.toInt := fun z => c2 (i_le.mpr z)
        have hx0 : ¬ (lev < 0 ∨ 7 ≤ lev.toNatClampNeg) := ix (by omega) (by omega)
        refine ok_chk hx0 ?_
        have hcl : lev.toNatClampNeg = lev.toInt.toNat := i_cl lev
        have hcd := w4 lev.toNatClampNeg (by omega)
        have hce := w3 lev.toNatClampNeg (by omega)
        have hf : (code lev.toNatClampNeg + 1).toInt = (code lev.toNatClampNeg).toInt + (1 : Int) := i_add2 rfl rfl (by omega) (by omega)
        refine ok_nmi (fun x hx kx => ?_)
        refine ok_chk hx0 ?_
        refine ok_chk hx0 ?_
        have hno : ∀ j : Nat, (j : Int) < lev.toInt → upd code lev.toNatClampNeg x j = code j := fun j hj => upd_no (by omega)
        have hyes : upd code lev.toNatClampNeg x lev.toInt.toNat = x := by
          rw [← hcl]
          exact upd_is
        have hB : ∀ y0 : Int32, y0.toInt ≤ 23 → okP (f_X7_goesOn_B86 (f_X7_goesOn_L30 n) y0 ((upd code lev.toNatClampNeg x) lev.toNatClampNeg) lev noRings noTones noFuel sets ringFar ringTone (upd code lev.toNatClampNeg x) cellAt courseAt paceAt turnsAt slowAt fuelAt ringAt) (fun u => GoP sets m0 u.1 u.2.1 u.2.2.1 u.2.2.2.1) := by
          intro y0 hy0
          rw [upd_is]
          unfold f_X7_goesOn_B86
          refine ok_ite (fun c4 => ?_) (fun c4 => ?_)
          · have d4 : x.toInt ≤ y0.toInt := i_le.mp c4
            refine ok_bd8 (s_X7_goes lev noRings noTones noFuel sets ringFar ringTone (upd code lev.toNatClampNeg x) cellAt courseAt paceAt turnsAt slowAt fuelAt ringAt cellAt h0 rfl (by omega) (by omega) hce.1 hce.2) (fun r v2 v3 v4 v5 v6 v7 v8 q => ?_)
            obtain ⟨q1, q2⟩ : (∀ j : Nat, (j : Int) ≤ lev.toInt → v2 j = cellAt j) ∧ (r.toInt = 0 ∨ (r.toInt = 1 ∧ 0 ≤ (v2 (lev.toNatClampNeg + 1)).toInt ∧ (v2 (lev.toNatClampNeg + 1)).toInt ≤ 99)) := q
            have hcodes : ∀ j : Nat, (j : Int) ≤ lev.toInt → -1 ≤ (upd code lev.toNatClampNeg x j).toInt ∧ (upd code lev.toNatClampNeg x j).toInt ≤ 23 := by
              intro j hj
              by_cases hjl : j = lev.toNatClampNeg
              · rw [hjl, upd_is]
                omega
              · rw [upd_no hjl]
                exact w4 j hj
            have hcells : ∀ j : Nat, (j : Int) ≤ lev.toInt → 0 ≤ (v2 j).toInt ∧ (v2 j).toInt ≤ 99 := by
              intro j hj
              rw [q1 j hj]
              exact w3 j hj
            refine ok_ite (fun c5 => ?_) (fun c5 => ?_)
            · have hs := wm_stay (code' := upd code lev.toNatClampNeg x) hW s2b (by omega) hno (by rw [hyes, kx, hf, hcl])
              exact ih lev (upd code lev.toNatClampNeg x) v2 v3 v4 v5 v6 v7 v8 (by omega) ⟨w1, w2, hcells, hcodes⟩ (by omega) (fun _ => by omega)
            · have d5 : ¬ r.toInt = (0 : Int) := fun z => c5 (i_eq.mpr z)
              have hf9 : (lev + 1).toInt = lev.toInt + (1 : Int) := i_add2 rfl rfl (by omega) (by omega)
              refine ok_nmi (fun x9 hx9 kx9 => ?_)
              refine ok_chk (ix (by omega) (by omega)) ?_
              have hcl9 : x9.toNatClampNeg = lev.toNatClampNeg + 1 := by
                rw [i_cl, i_cl]
                omega
              have hs := wm_on (lev' := x9) (code' := upd (upd code lev.toNatClampNeg x) x9.toNatClampNeg (-1)) hW s2b (by omega) (by omega) (by omega) (fun j hj => by rw [upd_no (by omega)]; exact hno j hj) (by rw [upd_no (by omega), hyes, kx, hf, hcl]) (by rw [hcl9, hcl, upd_is]; rfl)
              refine ih x9 (upd (upd code lev.toNatClampNeg x) x9.toNatClampNeg (-1)) v2 v3 v4 v5 v6 v7 v8 (by omega) ⟨by omega, by omega, ?_, ?_⟩ (by omega) (fun _ => by omega)
              · intro j hj
                by_cases hjl : j = lev.toNatClampNeg + 1
                · rw [hjl]
                  omega
                · exact hcells j (by omega)
              · intro j hj
                by_cases hjl : j = x9.toNatClampNeg
                · rw [hjl, upd_is]
                  decide
                · rw [upd_no hjl]
                  exact hcodes j (by omega)
          · have hf9 : (lev - 1).toInt = lev.toInt - (1 : Int) := i_sub2 rfl rfl (by omega) (by omega)
            refine ok_nmi (fun x9 hx9 kx9 => ?_)
            have hs := wm_back (lev' := x9) (code' := upd code lev.toNatClampNeg x) hW s2b (by omega) (by omega) hno
            refine ih x9 (upd code lev.toNatClampNeg x) cellAt courseAt paceAt turnsAt slowAt fuelAt ringAt (by omega) ⟨by omega, by omega, fun j hj => w3 j (by omega), fun j hj => ?_⟩ (by omega) (fun _ => by omega)
            rw [hno j (by omega)]
            exact w4 j (by omega)
        refine ok_ite (fun c3 => ?_) (fun c3 => ?_)
        · exact hB 23 (by decide)
        · exact hB 17 (by decide)
theorem s_X7_goesOn (o_level o_noRings o_noTones o_noFuel : Int32) (o_sets o_ringFar o_ringTone o_code o_cellAt o_courseAt o_paceAt o_turnsAt o_slowAt o_fuelAt o_ringAt : Nat → Int32) (h0 : SetOK o_sets) (h1 : WI o_level o_sets o_code o_cellAt) : okP (f_X7_goesOn o_level o_noRings o_noTones o_noFuel o_sets o_ringFar o_ringTone o_code o_cellAt o_courseAt o_paceAt o_turnsAt o_slowAt o_fuelAt o_ringAt) (fun u => GoP o_sets (wm o_level o_code) u.1 u.2.1 u.2.2.1 u.2.2.2.1) := by
  obtain ⟨s0a, s0b, s1a, s1b, s2a, s2b, s3a, s3b, s4a, s4b, s5a, s5b, s6a, s6b, s7a, s7b⟩ := id h0
  obtain ⟨w1, w2, w3, w4⟩ := id h1
  unfold f_X7_goesOn
  refine ok_ite (fun c => ?_) (fun c => ?_)
  · have d : o_level.toInt = (o_sets 2).toInt := i_eq.mp c
    unfold f_X7_goesOn_B27
    have hf9 : (o_level - 1).toInt = o_level.toInt - (1 : Int) := i_sub2 rfl rfl (by omega) (by omega)
    have hs := wm_back (lev' := o_level - 1) (code' := o_code) h1 s2b (by omega) hf9 (fun j _ => rfl)
    have hl := wm_lt h1 s2b
    exact s_X7_goesOn_L30 o_noRings o_noTones o_noFuel o_sets o_ringFar o_ringTone h0 _ FU (o_level - 1) o_code o_cellAt o_courseAt o_paceAt o_turnsAt o_slowAt o_fuelAt o_ringAt (FU_gt (by omega)) ⟨by omega, by omega, fun j hj => w3 j (by omega), fun j hj => w4 j (by omega)⟩ (by omega) (fun _ => by omega)
  · have d : ¬ o_level.toInt = (o_sets 2).toInt := fun z => c (i_eq.mpr z)
    unfold f_X7_goesOn_B27
    have hl := wm_lt h1 s2b
    exact s_X7_goesOn_L30 o_noRings o_noTones o_noFuel o_sets o_ringFar o_ringTone h0 _ FU o_level o_code o_cellAt o_courseAt o_paceAt o_turnsAt o_slowAt o_fuelAt o_ringAt (FU_gt hl) h1 (Nat.le_refl _) (fun e => absurd e d)
