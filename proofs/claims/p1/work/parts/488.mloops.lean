/-! Ways, one by one, in the model. -/
def bitM (h row : Int) (w : List Int × Int × Int) : Int32 := if (w.1.getD h.toNat 0) / 10 = row then (1 : Int32) <<< (Int32.ofInt ((w.1.getD h.toNat 0) % 10)) else 0
theorem e_told (a b c : Int32) : okP (f_X7_asTold a b c) (fun u => u.1 = 0 ∧ u.2.1 = 0 ∧ u.2.2 = 0) := by
  unfold f_X7_asTold
  exact ok_some ⟨rfl, rfl, rfl⟩
theorem e_begins1 (le : Int32) (se cd ca ta sl fu ri : Nat → Int32) (q1 : se 1 = 0) : okP (f_X7_begins le se cd ca ta sl fu ri) (fun u => u = (0, upd cd 0 (-1), upd ca 0 0, upd ta 0 0, upd sl 0 0, upd fu 0 0, upd ri 0 1)) := by
  unfold f_X7_begins
  rw [q1]
  refine ok_nmx (fun x hx => ?_)
  subst hx
  exact ok_some rfl
theorem lm0 {st : List (Int × Int × Int × Int × Int)} {l : List (List Int × Int × Int)} (h : listM 0 st = some l) : False := by
  have e : listM 0 st = none := rfl
  rw [e] at h
  exact absurd h (by intro z; injection z)
set_option maxHeartbeats 4000000 in
theorem e_waysL (nr nt nf : Int32) (se rf rt : Nat → Int32) (hM : MOK se rf rt) : ∀ (n f : Nat) (l : List (List Int × Int × Int)) (st : List (Int × Int × Int × Int × Int)) (v1 le : Int32) (cd ca co pa ta sl fu ri : Nat → Int32), listM n st = some l → n ≤ f → 1 ≤ st.length → st.length ≤ 7 → le.toInt = (st.length : Int) - 1 → RkL st cd ca co pa ta sl fu ri → 0 ≤ v1.toInt → v1.toInt + (l.length : Int) ≤ 100000 → okP (f_X7_ways_L10 f v1 le nr nt nf se rf rt cd ca co pa ta sl fu ri) (fun u => u.1.toInt = v1.toInt + (l.length : Int)) := by
  intro n
  induction n with
  | zero =>
    intro f l st v1 le cd ca co pa ta sl fu ri hL
    exact (lm0 hL).elim
  | succ n ih =>
    intro f l st v1 le cd ca co pa ta sl fu ri hL hf h1 h7 hl hR v0 vb
    obtain ⟨f', hf'⟩ : ∃ f' : Nat, f = f' + 1 := ⟨f - 1, by omega⟩
    rw [hf']
    show okP (f_X7_ways_L10b (f_X7_ways_L10 f') v1 le nr nt nf se rf rt cd ca co pa ta sl fu ri) _
    unfold f_X7_ways_L10b
    refine ok_bd10 (e_goesOn1 le nr nt nf se rf rt cd ca co pa ta sl fu ri hM st h1 h7 hl hR n l hL) (fun r w2 w3 w4 w5 w6 w7 w8 w9 w10 q => ?_)
    rcases q with ⟨q1, q2⟩ | ⟨s, l', q1, q2, q3, q4, q5, q6⟩
    · have q2 : r = 0 := q2
      refine ok_ite (fun _ => ok_some ?_) (fun z => absurd q2 z)
      rw [q1]
      show v1.toInt = v1.toInt + 0
      omega
    · have q1 : r = 1 := q1
      have q5 : w2.toInt = 6 := q5
      refine ok_ite (fun z => ?_) (fun _ => ?_)
      · rw [q1] at z
        exact absurd z (by decide)
      · rw [q2, List.length_cons] at vb
        have fv : (v1 + 1).toInt = v1.toInt + (1 : Int) := i_add2 rfl rfl (by omega) (by omega)
        refine ok_nmi (fun x hx kx => ?_)
        refine ok_mono (ih f' l' s x w2 w3 w4 w5 w6 w7 w8 w9 w10 q3 (by omega) (by omega) (by omega) (by omega) q6 (by omega) (by omega)) (fun u hu => ?_)
        rw [hu, q2, List.length_cons]
        omega
set_option maxHeartbeats 4000000 in
theorem e_weightL (nr nt nf : Int32) (se rf rt : Nat → Int32) (hM : MOK se rf rt) : ∀ (n f : Nat) (l : List (List Int × Int × Int)) (st : List (Int × Int × Int × Int × Int)) (v1 : Int64) (le : Int32) (cd ca co pa ta sl fu ri : Nat → Int32), listM n st = some l → n ≤ f → 1 ≤ st.length → st.length ≤ 7 → le.toInt = (st.length : Int) - 1 → RkL st cd ca co pa ta sl fu ri → okP (f_X7_weight_L10 f v1 le nr nt nf se rf rt cd ca co pa ta sl fu ri) (fun u => u.1 = l.foldl (fun w it => w + (wt it.2.2).toInt64) v1) := by
  have q2s : se 2 = 6 := by rw [hM.1]; decide
  intro n
  induction n with
  | zero =>
    intro f l st v1 le cd ca co pa ta sl fu ri hL
    exact (lm0 hL).elim
  | succ n ih =>
    intro f l st v1 le cd ca co pa ta sl fu ri hL hf h1 h7 hl hR
    obtain ⟨f', hf'⟩ : ∃ f' : Nat, f = f' + 1 := ⟨f - 1, by omega⟩
    rw [hf']
    show okP (f_X7_weight_L10b (f_X7_weight_L10 f') v1 le nr nt nf se rf rt cd ca co pa ta sl fu ri) _
    unfold f_X7_weight_L10b
    refine ok_bd10 (e_goesOn1 le nr nt nf se rf rt cd ca co pa ta sl fu ri hM st h1 h7 hl hR n l hL) (fun r w2 w3 w4 w5 w6 w7 w8 w9 w10 q => ?_)
    rcases q with ⟨q1, q2⟩ | ⟨s, l', q1, q2, q3, q4, q5, q6⟩
    · have q2 : r = 0 := q2
      refine ok_ite (fun _ => ok_some ?_) (fun z => absurd q2 z)
      rw [q1]
      rfl
    · have q1 : r = 1 := q1
      have q5 : w2.toInt = 6 := q5
      have q6 : RkL s w3 w4 w5 w6 w7 w8 w9 w10 := q6
      obtain ⟨_, _, _, _, t1, t2, t3, t4⟩ := RkL_top q4 q6
      refine ok_ite (fun z => ?_) (fun _ => ?_)
      · rw [q1] at z
        exact absurd z (by decide)
      · refine ok_bd1 (e_heavy1 se w7 w8 w10 q2s t2 t3 t4) (fun g hg => ?_)
        replace hg : g = wt (w7 6).toInt := hg
        refine ok_nmx (fun x hx => ?_)
        refine ok_mono (ih f' l' s x w2 w3 w4 w5 w6 w7 w8 w9 w10 q3 (by omega) (by omega) (by omega) (by omega) q6) (fun u hu => ?_)
        rw [hu, q2, List.foldl_cons, hx, hg, t1]
set_option maxHeartbeats 4000000 in
theorem e_mayL (nr nt nf : Int32) (se rf rt : Nat → Int32) (hM : MOK se rf rt) (x1 x2 : Int32) (h0 : 0 ≤ x1.toInt) (h6 : x1.toInt ≤ 6) : ∀ (n f : Nat) (l : List (List Int × Int × Int)) (st : List (Int × Int × Int × Int × Int)) (v3 le : Int32) (cd ca co pa ta sl fu ri : Nat → Int32), listM n st = some l → n ≤ f → 1 ≤ st.length → st.length ≤ 7 → le.toInt = (st.length : Int) - 1 → RkL st cd ca co pa ta sl fu ri → okP (f_X7_may_L40 f x1 x2 v3 le nr nt nf se rf rt cd ca co pa ta sl fu ri) (fun u => u.1 = l.foldl (fun b w => b ||| bitM x1.toInt x2.toInt w) v3) := by
  have cx : x1.toNatClampNeg = x1.toInt.toNat := rfl
  intro n
  induction n with
  | zero =>
    intro f l st v3 le cd ca co pa ta sl fu ri hL
    exact (lm0 hL).elim
  | succ n ih =>
    intro f l st v3 le cd ca co pa ta sl fu ri hL hf h1 h7 hl hR
    obtain ⟨f', hf'⟩ : ∃ f' : Nat, f = f' + 1 := ⟨f - 1, by omega⟩
    rw [hf']
    show okP (f_X7_may_L40b (f_X7_may_L40 f') x1 x2 v3 le nr nt nf se rf rt cd ca co pa ta sl fu ri) _
    unfold f_X7_may_L40b
    refine ok_bd10 (e_goesOn1 le nr nt nf se rf rt cd ca co pa ta sl fu ri hM st h1 h7 hl hR n l hL) (fun r w2 w3 w4 w5 w6 w7 w8 w9 w10 q => ?_)
    rcases q with ⟨q1, q2⟩ | ⟨s, l', q1, q2, q3, q4, q5, q6⟩
    · have q2 : r = 0 := q2
      refine ok_ite (fun _ => ok_some ?_) (fun z => absurd q2 z)
      rw [q1]
      rfl
    · have q1 : r = 1 := q1
      have q5 : w2.toInt = 6 := q5
      have q6 : RkL s w3 w4 w5 w6 w7 w8 w9 w10 := q6
      obtain ⟨t0, _⟩ := RkL_top q4 q6
      obtain ⟨t1, t2, t3⟩ := t0 x1.toInt.toNat (by omega)
      refine ok_ite (fun z => ?_) (fun _ => ?_)
      · rw [q1] at z
        exact absurd z (by decide)
      have hx : ¬ (x1 < 0 ∨ 7 ≤ x1.toNatClampNeg) := ix (by omega) (by omega)
      refine ok_chk hx ?_
      rw [cx]
      generalize w4 x1.toInt.toNat = c at *
      have f1 : (c / 10).toInt = c.toInt / (10 : Int) := i_div2 rfl rfl (by omega) (by omega)
      have f2 : (c - c / 10 * 10).toInt = c.toInt % (10 : Int) := i_rem2 rfl rfl (by omega) (by omega)
      have hx2 := hx
      rw [cx] at hx2
      have go : ∀ y0 : Int32, y0 = bitM x1.toInt x2.toInt (wayM s) → okP (f_X7_may_B76 (f_X7_may_L40 f') x1 x2 y0 v3 w2 nr nt nf se rf rt w3 w4 w5 w6 w7 w8 w9 w10) (fun u => u.1 = l.foldl (fun b w => b ||| bitM x1.toInt x2.toInt w) v3) := by
        intro y0 hy0
        unfold f_X7_may_B76
        refine ok_nmx (fun x hx => ?_)
        refine ok_mono (ih f' l' s x w2 w3 w4 w5 w6 w7 w8 w9 w10 q3 (by omega) (by omega) (by omega) (by omega) q6) (fun u hu => ?_)
        rw [hu, q2, List.foldl_cons, hx, hy0]
      refine ok_ite (fun z => ?_) (fun z => ?_)
      · have z1 : (c / 10).toInt = x2.toInt := i_eq.mp z
        refine ok_chk hx2 ?_
        refine go _ ?_
        unfold bitM
        rw [← t1, if_pos (by omega), ← f2, ofI, d10 (by omega) (by omega)]
      · have z1 : ¬ (c / 10).toInt = x2.toInt := fun y => z (i_eq.mpr y)
        refine go _ ?_
        unfold bitM
        rw [← t1, if_neg (by omega)]
def FiP (lst : List (List Int × Int × Int)) (i : Int) (u : Int32 × Int32 × Int32 × Int32 × Int32 × (Nat → Int32) × (Nat → Int32) × (Nat → Int32) × (Nat → Int32) × (Nat → Int32) × (Nat → Int32) × (Nat → Int32) × (Nat → Int32)) : Prop := (i < (lst.length : Int) ∧ u.1 = 1 ∧ ∃ s, lst[i.toNat]? = some (wayM s) ∧ s.length = 7 ∧ RkL s u.2.2.2.2.2.1 u.2.2.2.2.2.2.1 u.2.2.2.2.2.2.2.1 u.2.2.2.2.2.2.2.2.1 u.2.2.2.2.2.2.2.2.2.1 u.2.2.2.2.2.2.2.2.2.2.1 u.2.2.2.2.2.2.2.2.2.2.2.1 u.2.2.2.2.2.2.2.2.2.2.2.2) ∨ ((lst.length : Int) ≤ i ∧ u.1 = 0)
set_option maxHeartbeats 4000000 in
theorem e_findsL (nr nt nf : Int32) (se rf rt : Nat → Int32) (hM : MOK se rf rt) (x1 : Int32) : ∀ (n f : Nat) (l : List (List Int × Int × Int)) (s : List (Int × Int × Int × Int × Int)) (v3 le : Int32) (cd ca co pa ta sl fu ri : Nat → Int32), listM n s = some l → n < f → s.length = 7 → le.toInt = 6 → RkL s cd ca co pa ta sl fu ri → 0 ≤ v3.toInt → v3.toInt ≤ x1.toInt → okP (f_X7_finds_L15 f x1 1 v3 le nr nt nf se rf rt cd ca co pa ta sl fu ri) (FiP (wayM s :: l) (x1.toInt - v3.toInt)) := by
  intro n
  induction n with
  | zero =>
    intro f l s v3 le cd ca co pa ta sl fu ri hL
    exact (lm0 hL).elim
  | succ n ih =>
    intro f l s v3 le cd ca co pa ta sl fu ri hL hf h7 hl hR v0 vx
    obtain ⟨f', hf'⟩ : ∃ f' : Nat, f = f' + 1 := ⟨f - 1, by omega⟩
    rw [hf']
    show okP (f_X7_finds_L15b (f_X7_finds_L15 f') x1 1 v3 le nr nt nf se rf rt cd ca co pa ta sl fu ri) _
    unfold f_X7_finds_L15b
    refine ok_ite (fun z => ?_) (fun z => ?_)
    · have z1 : x1.toInt ≤ v3.toInt := i_le.mp z
      refine ok_chk (Or.inr rfl) ?_
      refine ok_some (Or.inl ⟨by rw [List.length_cons]; omega, rfl, s, ?_, h7, hR⟩)
      rw [show (x1.toInt - v3.toInt).toNat = 0 by omega]
      rfl
    · have z1 : ¬ x1.toInt ≤ v3.toInt := fun y => z (i_le.mpr y)
      refine ok_ite (fun y => absurd y (by decide)) (fun _ => ?_)
      have fv : (v3 + 1).toInt = v3.toInt + (1 : Int) := i_add2 rfl rfl (by omega) (by have := i_hi x1; omega)
      refine ok_bd10 (e_goesOn1 le nr nt nf se rf rt cd ca co pa ta sl fu ri hM s (by omega) (by omega) (by omega) hR n l hL) (fun r w2 w3 w4 w5 w6 w7 w8 w9 w10 q => ?_)
      refine ok_nmi (fun x hx kx => ?_)
      rcases q with ⟨q1, q2⟩ | ⟨s', l', q1, q2, q3, q4, q5, q6⟩
      · have q2 : r = 0 := q2
        rw [q2, q1]
        obtain ⟨f2, hf2⟩ : ∃ f2 : Nat, f' = f2 + 1 := ⟨f' - 1, by omega⟩
        rw [hf2]
        show okP (f_X7_finds_L15b (f_X7_finds_L15 f2) x1 0 x w2 nr nt nf se rf rt w3 w4 w5 w6 w7 w8 w9 w10) _
        unfold f_X7_finds_L15b
        refine ok_ite (fun _ => ?_) (fun _ => ?_)
        · refine ok_chk (Or.inl rfl) ?_
          exact ok_some (Or.inr ⟨by show (1 : Int) ≤ _; omega, rfl⟩)
        · refine ok_ite (fun _ => ?_) (fun y => absurd rfl y)
          refine ok_chk (Or.inl rfl) ?_
          exact ok_some (Or.inr ⟨by show (1 : Int) ≤ _; omega, rfl⟩)
      · have q1 : r = 1 := q1
        have q5 : w2.toInt = 6 := q5
        rw [q1, q2]
        refine ok_mono (ih f' l' s' x w2 w3 w4 w5 w6 w7 w8 w9 w10 q3 (by omega) q4 q5 q6 (by omega) (by omega)) (fun u hu => ?_)
        have e1 : x1.toInt - v3.toInt = x1.toInt - x.toInt + 1 := by omega
        rcases hu with ⟨u1, u2, t, u3, u4, u5⟩ | ⟨u1, u2⟩
        · rw [List.length_cons] at u1
          refine Or.inl ⟨by rw [List.length_cons, List.length_cons]; omega, u2, t, ?_, u4, u5⟩
          rw [e1, show (x1.toInt - x.toInt + 1).toNat = (x1.toInt - x.toInt).toNat + 1 by omega, List.getElem?_cons_succ]
          exact u3
        · rw [List.length_cons] at u1
          exact Or.inr ⟨by rw [List.length_cons, List.length_cons]; omega, u2⟩
set_option maxHeartbeats 4000000 in
theorem e_finds1 (x1 le nr nt nf : Int32) (se rf rt cd ca co pa ta sl fu ri : Nat → Int32) (hM : MOK se rf rt) (h0 : 0 ≤ x1.toInt) : okP (f_X7_finds x1 le nr nt nf se rf rt cd ca co pa ta sl fu ri) (FiP WM x1.toInt) := by
  have q1s : se 1 = 0 := by rw [hM.1]; decide
  unfold f_X7_finds
  refine ok_bd3 (e_told nr nt nf) (fun a b c q => ?_)
  refine ok_bd7 (e_begins1 le se cd ca ta sl fu ri q1s) (fun b1 b2 b3 b4 b5 b6 b7 qb => ?_)
  injection qb with e1 qb
  injection qb with e2 qb
  injection qb with e3 qb
  injection qb with e4 qb
  injection qb with e5 qb
  injection qb with e6 e7
  subst e1
  subst e2
  subst e3
  subst e4
  subst e5
  subst e6
  subst e7
  have z0 : (0 : Int32).toInt = 0 := rfl
  refine ok_bd10 (e_goesOn1 0 a b c se rf rt _ _ co pa _ _ _ _ hM [(-1, 0, 0, 0, 0)] (by decide) (by decide) (by decide) (RkL_start cd ca co pa ta sl fu ri) 99 WM WM_is) (fun r w2 w3 w4 w5 w6 w7 w8 w9 w10 q => ?_)
  rcases q with ⟨q1, _⟩ | ⟨s, l', q1, q2, q3, q4, q5, q6⟩
  · exact absurd q1 (by decide +kernel)
  · have q1 : r = 1 := q1
    have q5 : w2.toInt = 6 := q5
    rw [q1, q2]
    have hh := e_findsL a b c se rf rt hM x1 99 FU l' s 0 w2 w3 w4 w5 w6 w7 w8 w9 w10 q3 (FU_gt (by decide)) q4 q5 q6 (by decide) (by omega)
    rw [show x1.toInt - (0 : Int32).toInt = x1.toInt by omega] at hh
    exact hh
