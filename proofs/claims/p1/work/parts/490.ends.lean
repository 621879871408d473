/-! Where ways end, in all: model and first. -/
def tot (f : Nat → Int64) : Nat → Int64
  | 0 => 0
  | n + 1 => tot f n + f n
def arrM (f : Nat → Int64) (w : List Int × Int × Int) : Nat → Int64 := arrU f (w.1.getD 6 0, w.2.1, w.2.2)
theorem ENf_M : WM.foldl arrM (fun _ => 0) = ENf := by
  unfold ENf
  rw [← WM_E, List.foldl_map]
  rfl
theorem WE_99 : ∀ it ∈ WE, it.1 ≤ 99 := by decide +kernel
theorem arr_hi {c : Nat} (hc : 100 ≤ c) : ∀ (l : List (Int × Int × Int)) (f : Nat → Int64), (∀ it ∈ l, it.1 ≤ 99) → l.foldl arrU f c = f c := by
  intro l
  induction l with
  | nil => intro f _; rfl
  | cons it l ih =>
    intro f h
    rw [List.foldl_cons, ih _ (fun x hx => h x (List.mem_cons_of_mem _ hx))]
    have h1 := h it (List.mem_cons_self ..)
    have hg := gI_rng (c := it.1) (k := it.2.1) (s := 1)
    unfold arrU
    rw [if_neg (by omega), if_neg (by omega), Int64.add_zero, Int64.add_zero]
theorem EN_hi (c : Nat) (hc : 100 ≤ c) : ENf c = 0 := arr_hi hc WE _ WE_99
theorem two_wt {t : Int32} (h : t.toInt = 0 ∨ t.toInt = 1) : 2 * (wt t.toInt).toInt64 = (2 * wt t.toInt).toInt64 := by
  rcases h with h | h <;> rw [h] <;> decide
theorem fun0 {s : Nat → Int64} (h : ∀ c : Nat, s c = 0) : s = (fun _ => 0) := funext h
set_option maxHeartbeats 8000000 in
theorem e_ends130 (le nr nt nf np nd : Int32) (se rf rt cu wa cd ca co pa ta sl fu ri pp dc db : Nat → Int32) (sm : Nat → Int64) : ∀ (f : Nat) (v1 : Int32) (all : Int64), (100 - v1.toInt).toNat < f → 0 ≤ v1.toInt → v1.toInt ≤ 100 → all = tot sm v1.toInt.toNat → okP (f_X7_ends_L130 f v1 le nr nt nf 0 0 all np nd se rf rt cu wa cd ca co pa ta sl fu ri pp dc db sm) (fun u => u.2.1 = tot sm 100 ∧ u.2.2.2.2.2.2.2.2.2.2 = sm) := by
  intro f
  induction f with
  | zero =>
    intro v1 all hm
    exact absurd hm (Nat.not_lt_zero _)
  | succ f ih =>
    intro v1 all hm v0 v100 ha
    show okP (f_X7_ends_L130b (f_X7_ends_L130 f) v1 le nr nt nf 0 0 all np nd se rf rt cu wa cd ca co pa ta sl fu ri pp dc db sm) _
    unfold f_X7_ends_L130b
    refine ok_ite (fun z => ?_) (fun z => ?_)
    · have z1 : (100 : Int) ≤ v1.toInt := i_le.mp z
      refine ok_some ⟨?_, rfl⟩
      show all = _
      rw [ha, show v1.toInt.toNat = 100 by omega]
    · have z1 : ¬ (100 : Int) ≤ v1.toInt := fun y => z (i_le.mpr y)
      obtain ⟨f1, hf1⟩ := FU_s 1 (by omega)
      rw [hf1]
      show okP (f_X7_ends_L138b (f_X7_ends_L130 f) (f_X7_ends_L138 (f_X7_ends_L130 f) f1) v1 0 le nr nt nf 0 0 all np nd se rf rt cu wa cd ca co pa ta sl fu ri pp dc db sm) _
      unfold f_X7_ends_L138b
      refine ok_ite (fun _ => ?_) (fun y => absurd (by decide) y)
      rw [hf1]
      show okP (f_X7_ends_L197b (f_X7_ends_L130 f) (f_X7_ends_L197 (f_X7_ends_L130 f) f1) v1 0 le nr nt nf 0 0 all np nd se rf rt cu wa cd ca co pa ta sl fu ri pp dc db sm) _
      unfold f_X7_ends_L197b
      refine ok_ite (fun _ => ?_) (fun y => absurd (by decide) y)
      unfold f_X7_ends_B253
      have fv : (v1 + 1).toInt = v1.toInt + (1 : Int) := i_add2 rfl rfl (by omega) (by omega)
      refine ok_chk (ix (by omega) (by omega)) ?_
      refine ok_nmx (fun a2 ha2 => ?_)
      refine ok_nmi (fun x hx kx => ?_)
      refine ih x a2 (by omega) (by omega) (by omega) ?_
      rw [ha2, ha, show x.toInt.toNat = v1.toInt.toNat + 1 by omega, i_cl]
      rfl
set_option maxHeartbeats 8000000 in
theorem e_ends25 (nr nt nf np nd : Int32) (rf rt cu wa pp dc db : Nat → Int32) (hM : MOK jSet rf rt) (a0 : Int64) : ∀ (n f : Nat) (l : List (List Int × Int × Int)) (st : List (Int × Int × Int × Int × Int)) (le : Int32) (cd ca co pa ta sl fu ri : Nat → Int32) (sm : Nat → Int64), listM n st = some l → n ≤ f → 1 ≤ st.length → st.length ≤ 7 → le.toInt = (st.length : Int) - 1 → RkL st cd ca co pa ta sl fu ri → okP (f_X7_ends_L25 f le nr nt nf 0 0 a0 np nd jSet rf rt cu wa cd ca co pa ta sl fu ri pp dc db sm) (fun u => u.2.1 = tot (l.foldl arrM sm) 100 ∧ u.2.2.2.2.2.2.2.2.2.2 = l.foldl arrM sm) := by
  have e2 : jSet 2 = 6 := by decide
  have e6s : jSet 6 = 1 := by decide
  have c6 : (6 : Int32).toNatClampNeg = 6 := by decide
  intro n
  induction n with
  | zero =>
    intro f l st le cd ca co pa ta sl fu ri sm hL
    exact (lm0 hL).elim
  | succ n ih =>
    intro f l st le cd ca co pa ta sl fu ri sm hL hf h1 h7 hl hR
    obtain ⟨f', hf'⟩ : ∃ f' : Nat, f = f' + 1 := ⟨f - 1, by omega⟩
    rw [hf']
    show okP (f_X7_ends_L25b (f_X7_ends_L25 f') le nr nt nf 0 0 a0 np nd jSet rf rt cu wa cd ca co pa ta sl fu ri pp dc db sm) _
    unfold f_X7_ends_L25b
    refine ok_bd10 (e_goesOn1 le nr nt nf jSet rf rt cd ca co pa ta sl fu ri hM st h1 h7 hl hR n l hL) (fun r w2 w3 w4 w5 w6 w7 w8 w9 w10 q => ?_)
    rcases q with ⟨q1, q2⟩ | ⟨s, l', q1, q2, q3, q4, q5, q6⟩
    · have q2 : r = 0 := q2
      refine ok_ite (fun _ => ?_) (fun z => absurd q2 z)
      rw [q1]
      exact e_ends130 w2 nr nt nf np nd jSet rf rt cu wa w3 w4 w5 w6 w7 w8 w9 w10 pp dc db sm FU 0 0 (FU_gt (by decide)) (by decide) (by decide) rfl
    · have q1 : r = 1 := q1
      have q5 : w2.toInt = 6 := q5
      have q6 : RkL s w3 w4 w5 w6 w7 w8 w9 w10 := q6
      obtain ⟨t0, t5, t6, t7, t1, t2, t3, t4⟩ := RkL_top q4 q6
      obtain ⟨u1, u2, u3⟩ := t0 6 (by omega)
      refine ok_ite (fun z => ?_) (fun _ => ?_)
      · rw [q1] at z
        exact absurd z (by decide)
      rw [e2]
      refine ok_nmx (fun six hsix => ?_)
      subst hsix
      refine ok_bd1 (e_heavy1 jSet w7 w8 w10 e2 t2 t3 t4) (fun g hg => ?_)
      replace hg : g = wt (w7 6).toInt := hg
      refine ok_chk (by decide) ?_
      rw [c6]
      refine ok_nmi (fun e he ke => ?_)
      have hxe : ¬ (e < 0 ∨ 100 ≤ e.toNatClampNeg) := ix (by omega) (by omega)
      have ce : (e.toNatClampNeg : Int) = e.toInt := clI (by omega)
      refine ok_chk hxe ?_
      refine ok_nmx (fun v hv => ?_)
      refine ok_chk hxe ?_
      -- the glide
      have fin : ∀ sm2 : Nat → Int64, sm2 = arrM sm (wayM s) → okP (f_X7_ends_L25 f' w2 nr nt nf 0 0 a0 np nd jSet rf rt cu wa w3 w4 w5 w6 w7 w8 w9 w10 pp dc db sm2) (fun u => u.2.1 = tot (l.foldl arrM sm) 100 ∧ u.2.2.2.2.2.2.2.2.2.2 = l.foldl arrM sm) := by
        intro sm2 h2
        have hh := ih f' l' s w2 w3 w4 w5 w6 w7 w8 w9 w10 sm2 q3 (by omega) (by omega) (by omega) (by omega) q6
        rw [q2, List.foldl_cons, ← h2]
        exact hh
      obtain ⟨f2, hf2⟩ := FU_s 2 (by omega)
      rw [hf2]
      have last : ∀ (sm2 : Nat → Int64) (y : Int32), y = 1 + 1 → sm2 = arrM sm (wayM s) → okP (f_X7_ends_L66 (f_X7_ends_L25 f') (f2 + 1) 6 g y w2 nr nt nf 0 0 a0 np nd jSet rf rt cu wa w3 w4 w5 w6 w7 w8 w9 w10 pp dc db sm2) (fun u => u.2.1 = tot (l.foldl arrM sm) 100 ∧ u.2.2.2.2.2.2.2.2.2.2 = l.foldl arrM sm) := by
        intro sm2 y hy h2
        show okP (f_X7_ends_L66b (f_X7_ends_L25 f') (f_X7_ends_L66 (f_X7_ends_L25 f') f2) 6 g y w2 nr nt nf 0 0 a0 np nd jSet rf rt cu wa w3 w4 w5 w6 w7 w8 w9 w10 pp dc db sm2) _
        unfold f_X7_ends_L66b
        rw [e6s]
        refine ok_ite (fun _ => fin sm2 h2) (fun z => absurd (show (1 : Int32) < y by rw [hy]; decide) z)
      show okP (f_X7_ends_L66b (f_X7_ends_L25 f') (f_X7_ends_L66 (f_X7_ends_L25 f') (f2 + 1)) 6 g 1 w2 nr nt nf 0 0 a0 np nd jSet rf rt cu wa w3 w4 w5 w6 w7 w8 w9 w10 pp dc db _) _
      unfold f_X7_ends_L66b
      rw [e6s]
      refine ok_ite (fun z => absurd z (by decide)) (fun _ => ?_)
      refine ok_chk (by decide) ?_
      refine ok_chk (by decide) ?_
      rw [c6, show (6 - 1 : Int32).toNatClampNeg = 5 by decide]
      refine ok_bd1 (e_goneS (w4 6) (w5 5) 1 u2 u3 t6 t7 (by decide) (by decide)) (fun d hd => ?_)
      replace hd : (gI (w4 6).toInt (w5 5).toInt 1 = -1 ∧ d.toInt = -4) ∨ (¬ gI (w4 6).toInt (w5 5).toInt 1 = -1 ∧ d.toInt = gI (w4 6).toInt (w5 5).toInt 1) := hd
      have hg2 := gI_rng (c := (w4 6).toInt) (k := (w5 5).toInt) (s := 1)
      have eM : arrM sm (wayM s) = arrU sm ((w4 6).toInt, (w5 5).toInt, (w7 6).toInt) := by
        unfold arrM
        rw [← u1, ← t5, ← t1]
      have ev : v = sm e.toNatClampNeg + (2 * wt (w7 6).toInt).toInt64 := by rw [hv, hg, two_wt t2]
      refine ok_ite (fun z => ?_) (fun z => ?_)
      · have z1 : d.toInt < (0 : Int) := i_lt.mp z
        unfold f_X7_ends_B114
        refine ok_nmx (fun y hy => ?_)
        refine last _ y hy ?_
        rw [eM]
        funext c
        unfold arrU vp_updL
        show (if c = e.toNatClampNeg then v else sm c) = sm c + (if (c : Int) = (w4 6).toInt then (2 * wt (w7 6).toInt).toInt64 else 0) + (if (c : Int) = gI (w4 6).toInt (w5 5).toInt 1 then (wt (w7 6).toInt).toInt64 else 0)
        rw [if_neg (c := (c : Int) = gI (w4 6).toInt (w5 5).toInt 1) (by omega), Int64.add_zero]
        by_cases hc : c = e.toNatClampNeg
        · rw [if_pos hc, if_pos (by omega), ev, hc]
        · rw [if_neg hc, if_neg (by omega), Int64.add_zero]
      · have z1 : ¬ d.toInt < (0 : Int) := fun y => z (i_lt.mpr y)
        have hxd : ¬ (d < 0 ∨ 100 ≤ d.toNatClampNeg) := ix (by omega) (by omega)
        have cd2 : (d.toNatClampNeg : Int) = d.toInt := clI (by omega)
        refine ok_chk hxd ?_
        refine ok_nmx (fun x hx => ?_)
        refine ok_chk hxd ?_
        unfold f_X7_ends_B114
        refine ok_nmx (fun y hy => ?_)
        refine last _ y hy ?_
        rw [eM]
        rw [hg] at hx
        funext c
        unfold arrU
        show vp_updL (vp_updL sm e.toNatClampNeg v) d.toNatClampNeg x c = sm c + (if (c : Int) = (w4 6).toInt then (2 * wt (w7 6).toInt).toInt64 else 0) + (if (c : Int) = gI (w4 6).toInt (w5 5).toInt 1 then (wt (w7 6).toInt).toInt64 else 0)
        have h1 : ∀ c : Nat, vp_updL sm e.toNatClampNeg v c = sm c + (if (c : Int) = (w4 6).toInt then (2 * wt (w7 6).toInt).toInt64 else 0) := by
          intro c
          unfold vp_updL
          by_cases hc : c = e.toNatClampNeg
          · rw [if_pos hc, if_pos (by omega), ev, hc]
          · rw [if_neg hc, if_neg (by omega), Int64.add_zero]
        rw [h1] at hx
        by_cases hc : c = d.toNatClampNeg
        · rw [if_pos (c := (c : Int) = gI (w4 6).toInt (w5 5).toInt 1) (by omega), hc]
          show (if d.toNatClampNeg = d.toNatClampNeg then x else _) = _
          rw [if_pos rfl, hx]
        · rw [if_neg (c := (c : Int) = gI (w4 6).toInt (w5 5).toInt 1) (by omega), Int64.add_zero]
          show (if c = d.toNatClampNeg then x else vp_updL sm e.toNatClampNeg v c) = _
          rw [if_neg hc, h1]
set_option maxHeartbeats 8000000 in
theorem e_endsM (le nr nt nf np nd : Int32) (a0 : Int64) (rf rt cu wa cd ca co pa ta sl fu ri pp dc db : Nat → Int32) (sm : Nat → Int64) (hM : MOK jSet rf rt) (hs : ∀ c : Nat, 100 ≤ c → sm c = 0) : okP (f_X7_ends le nr nt nf 0 0 a0 np nd jSet rf rt cu wa cd ca co pa ta sl fu ri pp dc db sm) (fun u => u.2.1 = tot ENf 100 ∧ u.2.2.2.2.2.2.2.2.2.2 = ENf) := by
  have hl : ∀ (f : Nat) (v1 : Int32) (sm : Nat → Int64), (100 - v1.toInt).toNat < f → 0 ≤ v1.toInt → v1.toInt ≤ 100 → (∀ c : Nat, (c : Int) < v1.toInt ∨ 100 ≤ c → sm c = 0) → okP (f_X7_ends_L2 f v1 le nr nt nf 0 0 a0 np nd jSet rf rt cu wa cd ca co pa ta sl fu ri pp dc db sm) (fun u => u.2.1 = tot ENf 100 ∧ u.2.2.2.2.2.2.2.2.2.2 = ENf) := by
    intro f
    induction f with
    | zero =>
      intro v1 sm hm
      exact absurd hm (Nat.not_lt_zero _)
    | succ f ih =>
      intro v1 sm hm v0 v100 h0
      show okP (f_X7_ends_L2b (f_X7_ends_L2 f) v1 le nr nt nf 0 0 a0 np nd jSet rf rt cu wa cd ca co pa ta sl fu ri pp dc db sm) _
      unfold f_X7_ends_L2b
      refine ok_ite (fun z => ?_) (fun z => ?_)
      · have z1 : (100 : Int) ≤ v1.toInt := i_le.mp z
        have e0 : sm = (fun _ => 0) := fun0 (fun c => h0 c (by omega))
        refine ok_bd7 (e_begins1 le jSet cd ca ta sl fu ri (by decide)) (fun b1 b2 b3 b4 b5 b6 b7 qb => ?_)
        injection qb with e1 qb
        injection qb with e2 qb
        injection qb with e3 qb
        injection qb with e4 qb
        injection qb with e5 qb
        injection qb with e6 e7
        subst e1
        subst e2
        subst e3
        subst e4
        subst e5
        subst e6
        subst e7
        have hh := e_ends25 nr nt nf np nd rf rt cu wa pp dc db hM a0 100 FU WM [(-1, 0, 0, 0, 0)] 0 _ _ co pa _ _ _ _ sm WM_is (Nat.le_of_lt (FU_gt (by decide))) (by decide) (by decide) (by decide) (RkL_start cd ca co pa ta sl fu ri)
        rw [e0, ENf_M] at hh
        rw [e0]
        exact hh
      · have z1 : ¬ (100 : Int) ≤ v1.toInt := fun y => z (i_le.mpr y)
        have fv : (v1 + 1).toInt = v1.toInt + (1 : Int) := i_add2 rfl rfl (by omega) (by omega)
        have cv : (v1.toNatClampNeg : Int) = v1.toInt := clI v0
        refine ok_chk (ix (by omega) (by omega)) ?_
        refine ok_nmi (fun x hx kx => ?_)
        refine ih x _ (by omega) (by omega) (by omega) (fun c hc => ?_)
        show (if c = v1.toNatClampNeg then 0 else sm c) = 0
        by_cases h1 : c = v1.toNatClampNeg
        · rw [if_pos h1]
        · rw [if_neg h1]
          exact h0 c (by omega)
  unfold f_X7_ends
  exact hl FU 0 sm (FU_gt (by decide)) (by decide) (by decide) (fun c hc => by
    rcases hc with hc | hc
    · have : (0 : Int32).toInt = 0 := rfl
      omega
    · exact hs c hc)
theorem e_missed0 (x1 : Int32) (dc de : Nat → Int32) : okP (f_X4_missed x1 0 dc de) (fun r => r = 1) := by
  unfold f_X4_missed
  obtain ⟨f1, hf1⟩ := FU_s 1 (by omega)
  rw [hf1]
  show okP (f_X4_missed_L5b (f_X4_missed_L5 f1) x1 1 0 0 dc de) _
  unfold f_X4_missed_L5b
  exact ok_ite (fun _ => ok_some rfl) (fun z => absurd (by decide) z)
set_option maxHeartbeats 8000000 in
theorem e_weigh1 (x2 : Int32) (t0 : Int64) (sm : Nat → Int64) (st cu wa pc pm ph pa pn dc de kn : Nat → Int32) (hs : ∀ c : Nat, 100 ≤ c → sm c = 0) : okP (f_X0_weigh 100 x2 t0 sm 0 0 st cu wa pc pm ph pa pn dc de kn ENf) (fun u => u.1 = tot ENf 100 ∧ u.2.1 = ENf ∧ u.2.2 = kn) := by
  have hl : ∀ (f : Nat) (v3 : Int32) (t : Int64) (sm : Nat → Int64), (100 - v3.toInt).toNat < f → 0 ≤ v3.toInt → v3.toInt ≤ 100 → t = tot ENf v3.toInt.toNat → (∀ c : Nat, (c : Int) < v3.toInt → sm c = ENf c) → (∀ c : Nat, 100 ≤ c → sm c = 0) → okP (f_X0_weigh_L7 100 f x2 v3 t sm 0 0 st cu wa pc pm ph pa pn dc de kn ENf) (fun u => u.1 = tot ENf 100 ∧ u.2.1 = ENf ∧ u.2.2 = kn) := by
    intro f
    induction f with
    | zero =>
      intro v3 t sm hm
      exact absurd hm (Nat.not_lt_zero _)
    | succ f ih =>
      intro v3 t sm hm v0 v100 ht h1 h2
      show okP (f_X0_weigh_L7b 100 (f_X0_weigh_L7 100 f) x2 v3 t sm 0 0 st cu wa pc pm ph pa pn dc de kn ENf) _
      unfold f_X0_weigh_L7b
      have hend : (100 : Int) ≤ v3.toInt → okP (some (t, sm, kn)) (fun u => u.1 = tot ENf 100 ∧ u.2.1 = ENf ∧ u.2.2 = kn) := by
        intro z1
        refine ok_some ⟨?_, ?_, rfl⟩
        · show t = _
          rw [ht, show v3.toInt.toNat = 100 by omega]
        · show sm = ENf
          funext c
          by_cases hc : c < 100
          · exact h1 c (by omega)
          · rw [h2 c (by omega), EN_hi c (by omega)]
      refine ok_ite (fun z => hend (i_le.mp z)) (fun z => ?_)
      have z1 : ¬ (100 : Int) ≤ v3.toInt := fun y => z (i_le.mpr y)
      refine ok_ite (fun y => hend (i_le.mp y)) (fun _ => ?_)
      have hx : ¬ (v3 < 0 ∨ 100 ≤ v3.toNatClampNeg) := ix (by omega) (by omega)
      have cv : (v3.toNatClampNeg : Int) = v3.toInt := clI v0
      have fv : (v3 + 1).toInt = v3.toInt + (1 : Int) := i_add2 rfl rfl (by omega) (by omega)
      refine ok_chk hx ?_
      refine ok_nmx (fun x hx7 => ?_)
      have go : ∀ v4 : Int64, v4 = ENf v3.toNatClampNeg → okP (f_X0_weigh_B50 100 (f_X0_weigh_L7 100 f) x2 v3 v4 t sm 0 0 st cu wa pc pm ph pa pn dc de kn ENf) (fun u => u.1 = tot ENf 100 ∧ u.2.1 = ENf ∧ u.2.2 = kn) := by
        intro v4 h4
        unfold f_X0_weigh_B50
        obtain ⟨f1, hf1⟩ := FU_s 1 (by omega)
        rw [hf1]
        show okP (f_X0_weigh_L53b 100 (f_X0_weigh_L7 100 f) (f_X0_weigh_L53 100 (f_X0_weigh_L7 100 f) f1) x2 v3 v4 0 t sm 0 0 st cu wa pc pm ph pa pn dc de kn ENf) _
        unfold f_X0_weigh_L53b
        refine ok_ite (fun _ => ?_) (fun y => absurd (by decide) y)
        unfold f_X0_weigh_B107
        refine ok_chk hx ?_
        refine ok_nmx (fun t2 ht2 => ?_)
        refine ok_nmi (fun y hy ky => ?_)
        refine ih y t2 _ (by omega) (by omega) (by omega) ?_ (fun c hc => ?_) (fun c hc => ?_)
        · rw [ht2, ht, h4, show y.toInt.toNat = v3.toInt.toNat + 1 by omega, i_cl]
          rfl
        · show (if c = v3.toNatClampNeg then v4 else sm c) = ENf c
          by_cases hcc : c = v3.toNatClampNeg
          · rw [if_pos hcc, h4, hcc]
          · rw [if_neg hcc]
            exact h1 c (by omega)
        · show (if c = v3.toNatClampNeg then v4 else sm c) = 0
          rw [if_neg (by omega)]
          exact h2 c hc
      refine ok_ite (fun _ => go x hx7) (fun _ => ?_)
      refine ok_ite (fun _ => go x hx7) (fun _ => ?_)
      refine ok_bd1 (e_missed0 v3 dc de) (fun r q => ?_)
      replace q : r = 1 := q
      refine ok_nmx (fun m hm2 => ?_)
      refine go m ?_
      rw [hm2, q, hx7, Int64.mul_one]
  unfold f_X0_weigh
  exact hl FU 0 0 sm (FU_gt (by decide)) (by decide) (by decide) rfl (fun c hc => by have : (0 : Int32).toInt = 0 := rfl; omega) hs
