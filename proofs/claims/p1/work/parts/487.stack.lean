/-! The stack machine and what goesOn does. -/
def stepM : List (Int × Int × Int × Int × Int) → List (Int × Int × Int × Int × Int)
  | [] => []
  | (x, c, k, p, t) :: rest => if (if rest.length = 0 then (23 : Int) else 17) < x + 1 then rest else match stepF rest.length (x + 1) c k p t with
    | none => (x + 1, c, k, p, t) :: rest
    | some (c', k', p', t') => (-1, c', k', p', t') :: (x + 1, c, k, p, t) :: rest
def runM : Nat → List (Int × Int × Int × Int × Int) → List (Int × Int × Int × Int × Int)
  | 0, st => st
  | n + 1, st => if st.length = 0 ∨ st.length = 7 then st else runM n (stepM st)
def popM (st : List (Int × Int × Int × Int × Int)) : List (Int × Int × Int × Int × Int) := if st.length = 7 then st.tail else st
def wayM (s : List (Int × Int × Int × Int × Int)) : List Int × Int × Int := ((s.map (fun f => f.2.1)).reverse, match s with | [] => (0, 0) | f :: _ => (f.2.2.1, f.2.2.2.2))
def listM : Nat → List (Int × Int × Int × Int × Int) → Option (List (List Int × Int × Int))
  | 0, _ => none
  | n + 1, st => if (runM 6000 (popM st)).length = 0 then some [] else if (runM 6000 (popM st)).length = 7 then (match listM n (runM 6000 (popM st)) with | none => none | some l => some (wayM (runM 6000 (popM st)) :: l)) else none
def WM : List (List Int × Int × Int) := List.zipWith (fun p e => (0 :: p.1, e.2.1, e.2.2)) WP WE
theorem WM_is : listM 100 [(-1, 0, 0, 0, 0)] = some WM := by decide +kernel
theorem WM_E : WM.map (fun w => (w.1.getD 6 0, w.2.1, w.2.2)) = WE := by decide +kernel
def RkL : List (Int × Int × Int × Int × Int) → (Nat → Int32) → (Nat → Int32) → (Nat → Int32) → (Nat → Int32) → (Nat → Int32) → (Nat → Int32) → (Nat → Int32) → (Nat → Int32) → Prop
  | [], _, _, _, _, _, _, _, _ => True
  | fr :: rest, cd, ca, co, pa, ta, sl, fu, ri => ((cd rest.length).toInt = fr.1 ∧ (-1 ≤ fr.1 ∧ fr.1 ≤ 23) ∧ (ca rest.length).toInt = fr.2.1 ∧ 0 ≤ fr.2.1 ∧ fr.2.1 ≤ 99 ∧ (rest.length = 0 ∨ ((co (rest.length - 1)).toInt = fr.2.2.1 ∧ 0 ≤ fr.2.2.1 ∧ fr.2.2.1 < 8)) ∧ (rest.length = 0 ∨ ((pa (rest.length - 1)).toInt = fr.2.2.2.1 ∧ 1 ≤ fr.2.2.2.1 ∧ fr.2.2.2.1 ≤ 3)) ∧ (ta rest.length).toInt = fr.2.2.2.2 ∧ 0 ≤ fr.2.2.2.2 ∧ fr.2.2.2.2 ≤ 1 ∧ (rest.length = 0 → fr.2.2.2.2 = 0) ∧ sl rest.length = 0 ∧ 0 ≤ (fu rest.length).toInt ∧ (fu rest.length).toInt ≤ 9 * (rest.length : Int) ∧ ri rest.length = 1) ∧ RkL rest cd ca co pa ta sl fu ri
theorem RkL_congr {cd ca co pa ta sl fu ri cd' ca' co' pa' ta' sl' fu' ri' : Nat → Int32} : ∀ st : List (Int × Int × Int × Int × Int), (∀ j : Nat, j < st.length → cd' j = cd j ∧ ca' j = ca j ∧ ta' j = ta j ∧ sl' j = sl j ∧ fu' j = fu j ∧ ri' j = ri j) → (∀ j : Nat, j + 1 < st.length → co' j = co j ∧ pa' j = pa j) → RkL st cd ca co pa ta sl fu ri → RkL st cd' ca' co' pa' ta' sl' fu' ri' := by
  intro st
  induction st with
  | nil => intro _ _ _; trivial
  | cons fr rest ih =>
    intro h1 h2 h
    obtain ⟨⟨a1, a2, a3, a4, a5, a6, a7, a8, a9, a10, a11, a12, a13, a14, a15⟩, hr⟩ := h
    obtain ⟨e1, e2, e3, e4, e5, e6⟩ := h1 rest.length (Nat.lt_succ_self _)
    refine ⟨?_, ih (fun j hj => h1 j (Nat.lt_succ_of_lt hj)) (fun j hj => h2 j (Nat.lt_succ_of_lt hj)) hr⟩
    by_cases h0 : rest.length = 0
    · rw [e1, e2, e3, e4, e5, e6]
      exact ⟨a1, a2, a3, a4, a5, Or.inl h0, Or.inl h0, a8, a9, a10, a11, a12, a13, a14, a15⟩
    · obtain ⟨e7, e8⟩ := h2 (rest.length - 1) (by show rest.length - 1 + 1 < rest.length + 1; omega)
      rw [e1, e2, e3, e4, e5, e6, e7, e8]
      exact ⟨a1, a2, a3, a4, a5, a6, a7, a8, a9, a10, a11, a12, a13, a14, a15⟩
set_option maxHeartbeats 4000000 in
theorem e_stepM (K : Int32 → Int32 → Int32 → Int32 → (Nat → Int32) → (Nat → Int32) → (Nat → Int32) → (Nat → Int32) → (Nat → Int32) → (Nat → Int32) → (Nat → Int32) → (Nat → Int32) → (Nat → Int32) → (Nat → Int32) → (Nat → Int32) → Option (Int32 × Int32 × (Nat → Int32) × (Nat → Int32) × (Nat → Int32) × (Nat → Int32) × (Nat → Int32) × (Nat → Int32) × (Nat → Int32) × (Nat → Int32))) (Q : Int32 × Int32 × (Nat → Int32) × (Nat → Int32) × (Nat → Int32) × (Nat → Int32) × (Nat → Int32) × (Nat → Int32) × (Nat → Int32) × (Nat → Int32) → Prop) (st : List (Int × Int × Int × Int × Int)) (le nr nt nf : Int32) (se rf rt cd ca co pa ta sl fu ri : Nat → Int32) (hM : MOK se rf rt) (h1 : 1 ≤ st.length) (h6 : st.length ≤ 6) (hl : le.toInt = (st.length : Int) - 1) (hR : RkL st cd ca co pa ta sl fu ri) (hK : ∀ (le' : Int32) (cd' ca' co' pa' ta' sl' fu' ri' : Nat → Int32), le'.toInt = ((stepM st).length : Int) - 1 → RkL (stepM st) cd' ca' co' pa' ta' sl' fu' ri' → okP (K le' nr nt nf se rf rt cd' ca' co' pa' ta' sl' fu' ri') Q) : okP (f_X7_goesOn_L30b K le nr nt nf se rf rt cd ca co pa ta sl fu ri) Q := by
  match st, h1 with
  | (x, c, k, p, t) :: rest, _ =>
    have hR0 := hR
    obtain ⟨⟨a1, a2, a3, a4, a5, a6, a7, a8, a9, a10, a11, a12, a13, a14, a15⟩, hr⟩ := hR
    have h6 : rest.length + 1 ≤ 6 := h6
    have hl : le.toInt = ((rest.length + 1 : Nat) : Int) - 1 := hl
    have a1 : (cd rest.length).toInt = x := a1
    have a2 : -1 ≤ x ∧ x ≤ 23 := a2
    have a3 : (ca rest.length).toInt = c := a3
    have a4 : 0 ≤ c := a4
    have a5 : c ≤ 99 := a5
    have a6 : rest.length = 0 ∨ ((co (rest.length - 1)).toInt = k ∧ 0 ≤ k ∧ k < 8) := a6
    have a7 : rest.length = 0 ∨ ((pa (rest.length - 1)).toInt = p ∧ 1 ≤ p ∧ p ≤ 3) := a7
    have a8 : (ta rest.length).toInt = t := a8
    have a9 : 0 ≤ t := a9
    have a10 : t ≤ 1 := a10
    have a11 : rest.length = 0 → t = 0 := a11
    have eM : stepM ((x, c, k, p, t) :: rest) = if (if rest.length = 0 then (23 : Int) else 17) < x + 1 then rest else match stepF rest.length (x + 1) c k p t with | none => (x + 1, c, k, p, t) :: rest | some (c', k', p', t') => (-1, c', k', p', t') :: (x + 1, c, k, p, t) :: rest := rfl
    rw [eM] at hK
    clear eM
    generalize hh : rest.length = h at *
    have q2 : se 2 = 6 := by rw [hM.1]; decide
    have el : le.toNatClampNeg = h := by
      rw [i_cl]
      omega
    have hx : ¬ (le < 0 ∨ 7 ≤ le.toNatClampNeg) := ix (by omega) (by omega)
    have hx0 := hx
    rw [el] at hx0
    have xh := i_hi (cd h)
    -- what lies below stays
    have low : ∀ v : Int32, RkL rest (upd cd h v) ca co pa ta sl fu ri := fun v => RkL_congr rest (fun j hj => ⟨upd_no (by omega), rfl, rfl, rfl, rfl, rfl⟩) (fun j hj => ⟨rfl, rfl⟩) hr
    -- with the next thing to do
    have hgo : ∀ (v y0 : Int32), v.toInt = x + 1 → y0.toInt = (if h = 0 then (23 : Int) else 17) → okP (f_X7_goesOn_B86 K y0 v le nr nt nf se rf rt (upd cd h v) ca co pa ta sl fu ri) Q := by
      intro v y0 hv hy0
      have g1 : (le - 1).toInt = le.toInt - (1 : Int) := i_sub2 rfl rfl (by omega) (by omega)
      have g2 : (le + 1).toInt = le.toInt + (1 : Int) := i_add2 rfl rfl (by omega) (by omega)
      unfold f_X7_goesOn_B86
      refine ok_ite (fun z => ?_) (fun z => ?_)
      · have z1 : v.toInt ≤ y0.toInt := i_le.mp z
        have z2 : ¬ (if h = 0 then (23 : Int) else 17) < x + 1 := by omega
        rw [if_neg z2] at hK
        have ev : upd cd h v h = v := upd_is
        have x23 : v.toInt ≤ 23 := by
          by_cases h0 : h = 0
          · rw [if_pos h0] at z2
            omega
          · rw [if_neg h0] at z2
            omega
        have x17 : h = 0 ∨ v.toInt ≤ 17 := by
          by_cases h0 : h = 0
          · exact Or.inl h0
          · rw [if_neg h0] at z2
            exact Or.inr (by omega)
        have k8 : h = 0 ∨ (0 ≤ (co (h - 1)).toInt ∧ (co (h - 1)).toInt < 8) := by
          rcases a6 with a | a
          · exact Or.inl a
          · exact Or.inr (by omega)
        have p3 : h = 0 ∨ (1 ≤ (pa (h - 1)).toInt ∧ (pa (h - 1)).toInt ≤ 3) := by
          rcases a7 with a | a
          · exact Or.inl a
          · exact Or.inr (by omega)
        have ge := e_goes1 h le nr nt nf se rf rt (upd cd h v) ca co pa ta sl fu ri hM (by omega) (by omega) (by rw [ev]; omega) (by rw [ev]; exact x23) (by rw [ev]; exact x17) (by omega) (by omega) k8 p3 (by omega) (by omega) (fun z => by have := a11 z; omega) a12 a13 a14 a15
        rw [ev, hv, a3, a8] at ge
        have es : stepF h (x + 1) c (co (h - 1)).toInt (pa (h - 1)).toInt t = stepF h (x + 1) c k p t := by
          by_cases h0 : h = 0
          · rw [h0]
            rfl
          · rw [(a6.resolve_left h0).1, (a7.resolve_left h0).1]
        rw [es] at ge
        refine ok_bd8 ge (fun r w2 w3 w4 w5 w6 w7 w8 q => ?_)
        rcases q with ⟨q1, q2⟩ | ⟨c', k', p', t', q1, f', y1, y2, y3, y4, y5, y6, y7, y8, y9, y10, q2⟩
        · rw [q1] at hK
          injection q2 with e0 q2
          injection q2 with e1 q2
          injection q2 with e2 q2
          injection q2 with e3 q2
          injection q2 with e4 q2
          injection q2 with e5 q2
          injection q2 with e6 e7
          subst e1
          subst e2
          subst e3
          subst e4
          subst e5
          subst e6
          subst e7
          refine ok_ite (fun _ => ?_) (fun z => absurd e0 z)
          refine hK le _ _ _ _ _ _ _ _ (by show le.toInt = ((rest.length + 1 : Nat) : Int) - 1; rw [hh]; omega) ⟨?_, low v⟩
          rw [hh]
          exact ⟨by rw [ev]; exact hv, ⟨by show -1 ≤ x + 1; omega, by show x + 1 ≤ 23; omega⟩, a3, a4, a5, a6, a7, a8, a9, a10, a11, a12, a13, a14, a15⟩
        · rw [q1] at hK
          injection q2 with e0 q2
          injection q2 with e1 q2
          injection q2 with e2 q2
          injection q2 with e3 q2
          injection q2 with e4 q2
          injection q2 with e5 q2
          injection q2 with e6 e7
          refine ok_ite (fun z => ?_) (fun _ => ?_)
          · rw [e0] at z
            exact absurd z (by decide)
          refine ok_nmi (fun l2 hl2 kl2 => ?_)
          have cl2 : l2.toNatClampNeg = h + 1 := by
            rw [i_cl]
            omega
          refine ok_chk (ix (by omega) (by omega)) ?_
          rw [cl2, e1, e2, e3, e4, e5, e6, e7]
          refine hK l2 _ _ _ _ _ _ _ _ (by show l2.toInt = ((rest.length + 1 + 1 : Nat) : Int) - 1; rw [hh]; omega) ⟨?_, ⟨?_, ?_⟩⟩
          · have e9 : ((x + 1, c, k, p, t) :: rest).length = h + 1 := by
              show rest.length + 1 = h + 1
              rw [hh]
            rw [e9, show h + 1 - 1 = h by omega, upd_is, upd_is, upd_is, upd_is, upd_is, upd_is, upd_is, upd_is]
            refine ⟨rfl, ⟨by show (-1 : Int) ≤ -1; omega, by show (-1 : Int) ≤ 23; omega⟩, rfl, y3, y4, Or.inr ⟨rfl, y5, y6⟩, Or.inr ⟨rfl, y7, y8⟩, rfl, y9, y10, fun z => absurd z (Nat.succ_ne_zero h), rfl, y1, ?_, rfl⟩
            show f'.toInt ≤ 9 * ((h + 1 : Nat) : Int)
            omega
          · rw [hh]
            have u1 : upd (upd cd h v) (h + 1) (-1) h = v := by rw [upd_no (by omega), upd_is]
            have u2 : upd ca (h + 1) c' h = ca h := upd_no (by omega)
            have u3 : upd ta (h + 1) t' h = ta h := upd_no (by omega)
            have u4 : upd sl (h + 1) 0 h = sl h := upd_no (by omega)
            have u5 : upd fu (h + 1) f' h = fu h := upd_no (by omega)
            have u6 : upd ri (h + 1) 1 h = ri h := upd_no (by omega)
            rw [u1, u2, u3, u4, u5, u6]
            refine ⟨hv, ⟨by show -1 ≤ x + 1; omega, by show x + 1 ≤ 23; omega⟩, a3, a4, a5, ?_, ?_, a8, a9, a10, a11, a12, a13, a14, a15⟩
            · rcases a6 with a | a
              · exact Or.inl a
              · by_cases h0 : h = 0
                · exact Or.inl h0
                · rw [upd_no (by omega)]
                  exact Or.inr a
            · rcases a7 with a | a
              · exact Or.inl a
              · by_cases h0 : h = 0
                · exact Or.inl h0
                · rw [upd_no (by omega)]
                  exact Or.inr a
          · exact RkL_congr rest (fun j hj => ⟨by rw [upd_no (by omega), upd_no (by omega)], upd_no (by omega), upd_no (by omega), upd_no (by omega), upd_no (by omega), upd_no (by omega)⟩) (fun j hj => ⟨upd_no (by omega), upd_no (by omega)⟩) hr
      · have z1 : ¬ v.toInt ≤ y0.toInt := fun y => z (i_le.mpr y)
        have z2 : (if h = 0 then (23 : Int) else 17) < x + 1 := by omega
        rw [if_pos z2] at hK
        refine ok_nmi (fun l2 hl2 kl2 => ?_)
        exact hK l2 _ _ _ _ _ _ _ _ (by rw [hh]; omega) (low v)
    unfold f_X7_goesOn_L30b
    refine ok_ite (fun z => ?_) (fun _ => ?_)
    · have : le.toInt < (0 : Int) := i_lt.mp z
      omega
    refine ok_ite (fun z => ?_) (fun _ => ?_)
    · rw [q2] at z
      have : (6 : Int) ≤ le.toInt := i_le.mp z
      omega
    refine ok_chk hx ?_
    rw [el]
    have g0 : (cd h + 1).toInt = (cd h).toInt + (1 : Int) := i_add2 rfl rfl (by omega) (by omega)
    refine ok_nmi (fun v hv kv => ?_)
    refine ok_chk hx0 ?_
    refine ok_chk hx0 ?_
    rw [upd_is]
    refine ok_ite (fun z => ?_) (fun z => ?_)
    · have z1 : le.toInt = (0 : Int) := i_eq.mp z
      exact hgo v 23 (by omega) (by rw [if_pos (by omega)]; rfl)
    · have z1 : ¬ le.toInt = (0 : Int) := fun y => z (i_eq.mpr y)
      exact hgo v 17 (by omega) (by rw [if_neg (by omega)]; rfl)
theorem stepM_len (st : List (Int × Int × Int × Int × Int)) (h : st.length ≤ 6) : (stepM st).length ≤ 7 := by
  match st with
  | [] => exact Nat.zero_le _
  | (x, c, k, p, t) :: rest =>
    have h : rest.length + 1 ≤ 6 := h
    show (if (if rest.length = 0 then (23 : Int) else 17) < x + 1 then rest else match stepF rest.length (x + 1) c k p t with | none => (x + 1, c, k, p, t) :: rest | some (c', k', p', t') => (-1, c', k', p', t') :: (x + 1, c, k, p, t) :: rest).length ≤ 7
    by_cases hc : (if rest.length = 0 then (23 : Int) else 17) < x + 1
    · rw [if_pos hc]
      omega
    · rw [if_neg hc]
      cases stepF rest.length (x + 1) c k p t with
      | none =>
        show rest.length + 1 ≤ 7
        omega
      | some q =>
        show rest.length + 1 + 1 ≤ 7
        omega
def GoR (s : List (Int × Int × Int × Int × Int)) (u : Int32 × Int32 × (Nat → Int32) × (Nat → Int32) × (Nat → Int32) × (Nat → Int32) × (Nat → Int32) × (Nat → Int32) × (Nat → Int32) × (Nat → Int32)) : Prop := ((u.1 = 0 ∧ s.length = 0) ∨ (u.1 = 1 ∧ s.length = 7)) ∧ u.2.1.toInt = (s.length : Int) - 1 ∧ RkL s u.2.2.1 u.2.2.2.1 u.2.2.2.2.1 u.2.2.2.2.2.1 u.2.2.2.2.2.2.1 u.2.2.2.2.2.2.2.1 u.2.2.2.2.2.2.2.2.1 u.2.2.2.2.2.2.2.2.2
set_option maxHeartbeats 4000000 in
theorem e_L30 (nr nt nf : Int32) (se rf rt : Nat → Int32) (hM : MOK se rf rt) : ∀ (n f : Nat) (st : List (Int × Int × Int × Int × Int)) (le : Int32) (cd ca co pa ta sl fu ri : Nat → Int32), n < f → st.length ≤ 7 → le.toInt = (st.length : Int) - 1 → RkL st cd ca co pa ta sl fu ri → ((runM n st).length = 0 ∨ (runM n st).length = 7) → okP (f_X7_goesOn_L30 f le nr nt nf se rf rt cd ca co pa ta sl fu ri) (GoR (runM n st)) := by
  have q2 : se 2 = 6 := by rw [hM.1]; decide
  have term : ∀ (f : Nat) (st : List (Int × Int × Int × Int × Int)) (le : Int32) (cd ca co pa ta sl fu ri : Nat → Int32), le.toInt = (st.length : Int) - 1 → RkL st cd ca co pa ta sl fu ri → (st.length = 0 ∨ st.length = 7) → okP (f_X7_goesOn_L30 (f + 1) le nr nt nf se rf rt cd ca co pa ta sl fu ri) (GoR st) := by
    intro f st le cd ca co pa ta sl fu ri hl hR ht
    show okP (f_X7_goesOn_L30b (f_X7_goesOn_L30 f) le nr nt nf se rf rt cd ca co pa ta sl fu ri) _
    unfold f_X7_goesOn_L30b
    refine ok_ite (fun z => ?_) (fun z => ?_)
    · have z1 : le.toInt < (0 : Int) := i_lt.mp z
      unfold f_X7_goesOn_B132
      refine ok_ite (fun _ => ?_) (fun y => absurd z y)
      exact ok_some ⟨Or.inl ⟨rfl, by omega⟩, hl, hR⟩
    · have z1 : ¬ le.toInt < (0 : Int) := fun y => z (i_lt.mpr y)
      refine ok_ite (fun _ => ?_) (fun y => ?_)
      · unfold f_X7_goesOn_B132
        refine ok_ite (fun y => absurd y z) (fun _ => ?_)
        exact ok_some ⟨Or.inr ⟨rfl, by omega⟩, hl, hR⟩
      · rw [q2] at y
        have y1 : ¬ (6 : Int) ≤ le.toInt := fun w => y (i_le.mpr w)
        omega
  intro n
  induction n with
  | zero =>
    intro f st le cd ca co pa ta sl fu ri hf h7 hl hR ht
    obtain ⟨f', hf'⟩ : ∃ f' : Nat, f = f' + 1 := ⟨f - 1, by omega⟩
    rw [hf']
    exact term f' st le cd ca co pa ta sl fu ri hl hR ht
  | succ n ih =>
    intro f st le cd ca co pa ta sl fu ri hf h7 hl hR ht
    obtain ⟨f', hf'⟩ : ∃ f' : Nat, f = f' + 1 := ⟨f - 1, by omega⟩
    rw [hf']
    have er : runM (n + 1) st = if st.length = 0 ∨ st.length = 7 then st else runM n (stepM st) := rfl
    rw [er] at ht ⊢
    by_cases hst : st.length = 0 ∨ st.length = 7
    · rw [if_pos hst]
      exact term f' st le cd ca co pa ta sl fu ri hl hR hst
    · rw [if_neg hst] at ht ⊢
      show okP (f_X7_goesOn_L30b (f_X7_goesOn_L30 f') le nr nt nf se rf rt cd ca co pa ta sl fu ri) _
      refine e_stepM (f_X7_goesOn_L30 f') _ st le nr nt nf se rf rt cd ca co pa ta sl fu ri hM (by omega) (by omega) hl hR ?_
      intro le' cd' ca' co' pa' ta' sl' fu' ri' hl' hR'
      exact ih f' (stepM st) le' cd' ca' co' pa' ta' sl' fu' ri' (by omega) (stepM_len st (by omega)) hl' hR' ht
theorem RkL_tail {st : List (Int × Int × Int × Int × Int)} {cd ca co pa ta sl fu ri : Nat → Int32} (h : RkL st cd ca co pa ta sl fu ri) : RkL st.tail cd ca co pa ta sl fu ri := by
  match st, h with
  | [], h => exact h
  | _ :: _, h => exact h.2
set_option maxHeartbeats 4000000 in
theorem e_goesOn1 (le nr nt nf : Int32) (se rf rt cd ca co pa ta sl fu ri : Nat → Int32) (hM : MOK se rf rt) (st : List (Int × Int × Int × Int × Int)) (h1 : 1 ≤ st.length) (h7 : st.length ≤ 7) (hl : le.toInt = (st.length : Int) - 1) (hR : RkL st cd ca co pa ta sl fu ri) (n : Nat) (l : List (List Int × Int × Int)) (hL : listM (n + 1) st = some l) : okP (f_X7_goesOn le nr nt nf se rf rt cd ca co pa ta sl fu ri) (fun u => (l = [] ∧ u.1 = 0) ∨ (∃ s l', u.1 = 1 ∧ l = wayM s :: l' ∧ listM n s = some l' ∧ s.length = 7 ∧ u.2.1.toInt = 6 ∧ RkL s u.2.2.1 u.2.2.2.1 u.2.2.2.2.1 u.2.2.2.2.2.1 u.2.2.2.2.2.2.1 u.2.2.2.2.2.2.2.1 u.2.2.2.2.2.2.2.2.1 u.2.2.2.2.2.2.2.2.2)) := by
  have q2 : se 2 = 6 := by rw [hM.1]; decide
  have eL : listM (n + 1) st = if (runM 6000 (popM st)).length = 0 then some [] else if (runM 6000 (popM st)).length = 7 then (match listM n (runM 6000 (popM st)) with | none => none | some l => some (wayM (runM 6000 (popM st)) :: l)) else none := rfl
  rw [eL] at hL
  clear eL
  have hpl : (popM st).length ≤ 7 := by
    unfold popM
    split
    · rw [List.length_tail]
      omega
    · exact h7
  have hpR : RkL (popM st) cd ca co pa ta sl fu ri := by
    unfold popM
    split
    · exact RkL_tail hR
    · exact hR
  have hgo : ∀ y0 : Int32, y0.toInt = ((popM st).length : Int) - 1 → okP (f_X7_goesOn_B27 y0 le nr nt nf se rf rt cd ca co pa ta sl fu ri) (fun u => (l = [] ∧ u.1 = 0) ∨ (∃ s l', u.1 = 1 ∧ l = wayM s :: l' ∧ listM n s = some l' ∧ s.length = 7 ∧ u.2.1.toInt = 6 ∧ RkL s u.2.2.1 u.2.2.2.1 u.2.2.2.2.1 u.2.2.2.2.2.1 u.2.2.2.2.2.2.1 u.2.2.2.2.2.2.2.1 u.2.2.2.2.2.2.2.2.1 u.2.2.2.2.2.2.2.2.2)) := by
    intro y0 hy0
    have ht : (runM 6000 (popM st)).length = 0 ∨ (runM 6000 (popM st)).length = 7 := by
      by_cases e0 : (runM 6000 (popM st)).length = 0
      · exact Or.inl e0
      · rw [if_neg e0] at hL
        by_cases e7 : (runM 6000 (popM st)).length = 7
        · exact Or.inr e7
        · rw [if_neg e7] at hL
          exact absurd hL (by intro z; injection z)
    unfold f_X7_goesOn_B27
    refine ok_mono (e_L30 nr nt nf se rf rt hM 6000 FU (popM st) y0 cd ca co pa ta sl fu ri (FU_gt (by decide)) hpl hy0 hpR ht) (fun u hu => ?_)
    generalize runM 6000 (popM st) = s at hL ht hu
    obtain ⟨u1, u2, u3⟩ := hu
    rcases u1 with ⟨u1, e0⟩ | ⟨u1, e7⟩
    · rw [if_pos e0] at hL
      injection hL with hL
      exact Or.inl ⟨hL.symm, u1⟩
    · rw [if_neg (by omega), if_pos e7] at hL
      cases hm : listM n s with
      | none =>
        rw [hm] at hL
        exact absurd hL (by intro z; injection z)
      | some l' =>
        rw [hm] at hL
        injection hL with hL
        exact Or.inr ⟨s, l', u1, hL.symm, hm, e7, by omega, u3⟩
  unfold f_X7_goesOn
  rw [q2]
  refine ok_ite (fun z => ?_) (fun z => ?_)
  · have z1 : le.toInt = (6 : Int) := i_eq.mp z
    have g1 : (le - 1).toInt = le.toInt - (1 : Int) := i_sub2 rfl rfl (by omega) (by omega)
    refine hgo (le - 1) ?_
    unfold popM
    rw [if_pos (by omega), List.length_tail]
    omega
  · have z1 : ¬ le.toInt = (6 : Int) := fun y => z (i_eq.mpr y)
    refine hgo le ?_
    unfold popM
    rw [if_neg (by omega)]
    exact hl
theorem RkL_top {s : List (Int × Int × Int × Int × Int)} {cd ca co pa ta sl fu ri : Nat → Int32} (h7 : s.length = 7) (h : RkL s cd ca co pa ta sl fu ri) : (∀ i : Nat, i < 7 → (ca i).toInt = (wayM s).1.getD i 0 ∧ 0 ≤ (ca i).toInt ∧ (ca i).toInt ≤ 99) ∧ (co 5).toInt = (wayM s).2.1 ∧ 0 ≤ (co 5).toInt ∧ (co 5).toInt < 8 ∧ (ta 6).toInt = (wayM s).2.2 ∧ ((ta 6).toInt = 0 ∨ (ta 6).toInt = 1) ∧ sl 6 = 0 ∧ ri 6 = 1 := by
  match s, h7, h with
  | [f6, f5, f4, f3, f2, f1, f0], _, h =>
    obtain ⟨⟨_, _, c6, d6, e6, k6, _, t6, u6, v6, _, s6, _, _, r6⟩, ⟨_, _, c5, d5, e5, _⟩, ⟨_, _, c4, d4, e4, _⟩, ⟨_, _, c3, d3, e3, _⟩, ⟨_, _, c2, d2, e2, _⟩, ⟨_, _, c1, d1, e1, _⟩, ⟨_, _, c0, d0, e0, _⟩, _⟩ := h
    have c6 : (ca 6).toInt = f6.2.1 := c6
    have c5 : (ca 5).toInt = f5.2.1 := c5
    have c4 : (ca 4).toInt = f4.2.1 := c4
    have c3 : (ca 3).toInt = f3.2.1 := c3
    have c2 : (ca 2).toInt = f2.2.1 := c2
    have c1 : (ca 1).toInt = f1.2.1 := c1
    have c0 : (ca 0).toInt = f0.2.1 := c0
    have k6 := k6.resolve_left (by show ¬ (6 = 0); omega)
    have k6a : (co 5).toInt = f6.2.2.1 := k6.1
    have t6 : (ta 6).toInt = f6.2.2.2.2 := t6
    refine ⟨?_, k6a, by have := k6.2.1; omega, by have := k6.2.2; omega, t6, by omega, s6, r6⟩
    intro i hi
    match i, hi with
    | 0, _ => exact ⟨c0, by omega, by omega⟩
    | 1, _ => exact ⟨c1, by omega, by omega⟩
    | 2, _ => exact ⟨c2, by omega, by omega⟩
    | 3, _ => exact ⟨c3, by omega, by omega⟩
    | 4, _ => exact ⟨c4, by omega, by omega⟩
    | 5, _ => exact ⟨c5, by omega, by omega⟩
    | 6, _ => exact ⟨c6, by omega, by omega⟩
    | i + 7, hi => exact absurd hi (by omega)
theorem RkL_start (cd ca co pa ta sl fu ri : Nat → Int32) : RkL [(-1, 0, 0, 0, 0)] (upd cd 0 (-1)) (upd ca 0 0) co pa (upd ta 0 0) (upd sl 0 0) (upd fu 0 0) (upd ri 0 1) := by
  refine ⟨?_, trivial⟩
  show (upd cd 0 (-1) 0).toInt = -1 ∧ (-1 ≤ (-1 : Int) ∧ (-1 : Int) ≤ 23) ∧ (upd ca 0 0 0).toInt = 0 ∧ (0 : Int) ≤ 0 ∧ (0 : Int) ≤ 99 ∧ (0 = 0 ∨ _) ∧ (0 = 0 ∨ _) ∧ (upd ta 0 0 0).toInt = 0 ∧ (0 : Int) ≤ 0 ∧ (0 : Int) ≤ 1 ∧ (0 = 0 → (0 : Int) = 0) ∧ upd sl 0 0 0 = 0 ∧ 0 ≤ (upd fu 0 0 0).toInt ∧ (upd fu 0 0 0).toInt ≤ 9 * ((0 : Nat) : Int) ∧ upd ri 0 1 0 = 1
  rw [upd_is, upd_is, upd_is, upd_is, upd_is, upd_is]
  exact ⟨rfl, ⟨by decide, by decide⟩, rfl, by decide, by decide, Or.inl rfl, Or.inl rfl, rfl, by decide, by decide, fun _ => rfl, rfl, by decide, by decide, rfl⟩
theorem e_heavy1 (se ta sl ri : Nat → Int32) (q2 : se 2 = 6) (ht : (ta 6).toInt = 0 ∨ (ta 6).toInt = 1) (s6 : sl 6 = 0) (r6 : ri 6 = 1) : okP (f_X7_heavy se ta sl ri) (fun r => r = wt (ta 6).toInt) := by
  unfold f_X7_heavy
  rw [q2]
  refine ok_nmx (fun v hv => ?_)
  subst hv
  have e6 : (6 : Int32).toNatClampNeg = 6 := by decide
  obtain ⟨f, hf⟩ := FU_s 2 (by omega)
  rw [hf]
  have fin : ∀ (y1 w : Int32), y1 / 1 * 1 = w → okP (f_X7_heavy_B47 6 1 y1 se ta sl ri) (fun r => r = w) := by
    intro y1 w hw
    unfold f_X7_heavy_B47
    refine ok_chk (by decide) ?_
    refine ok_chk (by decide) ?_
    rw [e6, r6]
    exact ok_some hw
  show okP (f_X7_heavy_L12b (f_X7_heavy_L12 (f + 1)) 6 32 0 se ta sl ri) _
  unfold f_X7_heavy_L12b
  refine ok_chk (by decide) ?_
  rw [e6]
  refine ok_ite (fun z => ?_) (fun z => ?_)
  · have z1 : (ta 6).toInt ≤ (0 : Int) := i_le.mp z
    have z2 : (ta 6).toInt = 0 := by omega
    refine ok_chk (by decide) ?_
    rw [s6]
    refine ok_ite (fun _ => ?_) (fun y => absurd (by decide) y)
    rw [z2]
    exact fin 32 (wt 0) (by decide)
  · have z1 : ¬ (ta 6).toInt ≤ (0 : Int) := fun y => z (i_le.mpr y)
    have z2 : (ta 6).toInt = 1 := by omega
    refine ok_nmx (fun a ha => ?_)
    refine ok_nmx (fun b hb => ?_)
    rw [show (32 / 4 : Int32) = 8 by decide] at ha
    rw [show (0 + 1 : Int32) = 1 by decide] at hb
    subst ha
    subst hb
    show okP (f_X7_heavy_L12b (f_X7_heavy_L12 f) 6 8 1 se ta sl ri) _
    unfold f_X7_heavy_L12b
    refine ok_chk (by decide) ?_
    rw [e6]
    refine ok_ite (fun _ => ?_) (fun y => ?_)
    · refine ok_chk (by decide) ?_
      rw [s6]
      refine ok_ite (fun _ => ?_) (fun y => absurd (by decide) y)
      rw [z2]
      exact fin 8 (wt 1) (by decide)
    · have y1 : ¬ (ta 6).toInt ≤ (1 : Int) := fun w => y (i_le.mpr w)
      omega
