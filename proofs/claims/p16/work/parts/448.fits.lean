/-! What a piece fits: class and model. -/
def warmS (cu wa : Nat → Int32) (w high c n age need : Int) (m0 : Nat) : Prop := ∀ m : Nat, m < m0 → n - age ≤ (m : Int) → need ≤ (wa (100 * (m % 2) + (drS cu w high c m).toNat)).toInt
def besS (a b : Int) : Prop := -1 ≤ a / 10 - b / 10 ∧ a / 10 - b / 10 ≤ 1 ∧ -1 ≤ a % 10 - b % 10 ∧ a % 10 - b % 10 ≤ 1
def FitP (cu wa : Nat → Int32) (w fo n high age need c r : Int) : Prop := (warmS cu wa w high c n age need n.toNat ∧ besS (drS cu w high c n.toNat) fo ∧ drS cu w high c n.toNat = fo ∧ r = 4) ∨ (warmS cu wa w high c n age need n.toNat ∧ besS (drS cu w high c n.toNat) fo ∧ ¬ drS cu w high c n.toNat = fo ∧ r = 1) ∨ ((¬ warmS cu wa w high c n age need n.toNat ∨ ¬ besS (drS cu w high c n.toNat) fo) ∧ r = 0)
theorem FitP_uniq {cu wa : Nat → Int32} {w fo n high age need c r t : Int} (h : FitP cu wa w fo n high age need c r) (g : FitP cu wa w fo n high age need c t) : r = t := by
  rcases h with ⟨a1, a2, a3, a4⟩ | ⟨a1, a2, a3, a4⟩ | ⟨a1, a4⟩ <;> rcases g with ⟨b1, b2, b3, b4⟩ | ⟨b1, b2, b3, b4⟩ | ⟨b1, b4⟩
  · omega
  · exact absurd a3 b3
  · exact b1.elim (fun z => absurd a1 z) (fun z => absurd a2 z)
  · exact absurd b3 a3
  · omega
  · exact b1.elim (fun z => absurd a1 z) (fun z => absurd a2 z)
  · exact a1.elim (fun z => absurd b1 z) (fun z => absurd b2 z)
  · exact a1.elim (fun z => absurd b1 z) (fun z => absurd b2 z)
  · omega
theorem FitP_congr {cu cv wa wb : Nat → Int32} {w fo n high age need c r : Int} (e : EqN 200 cu cv) (e2 : EqN 200 wa wb) (h0 : 0 ≤ c) (h1 : c ≤ 99) (h : FitP cu wa w fo n high age need c r) : FitP cv wb w fo n high age need c r := by
  have hd := drS_congr e w high h0 h1
  have hw : warmS cu wa w high c n age need n.toNat ↔ warmS cv wb w high c n age need n.toNat := by
    constructor
    · intro z m hm hm2
      have a := z m hm hm2
      have hr := drS_rng cu w high h0 h1 m
      rw [e2 _ (by omega), hd m] at a
      exact a
    · intro z m hm hm2
      have a := z m hm hm2
      have hr := drS_rng cu w high h0 h1 m
      rw [e2 _ (by omega), hd m]
      exact a
  unfold FitP at *
  rw [← hw, ← hd n.toNat]
  exact h
theorem abs_is (x : Int32) (h : -1000 ≤ x.toInt) (g : x.toInt ≤ 1000) : (0 ≤ x.toInt ∧ (if 0 ≤ x then x else 0 - x).toInt = x.toInt) ∨ (x.toInt < 0 ∧ (if 0 ≤ x then x else 0 - x).toInt = -x.toInt) := by
  by_cases c : (0 : Int32) ≤ x
  · have d : (0 : Int) ≤ x.toInt := i_le.mp c
    rw [if_pos c]
    exact Or.inl ⟨d, rfl⟩
  · have d : ¬ (0 : Int) ≤ x.toInt := fun z => c (i_le.mpr z)
    rw [if_neg c]
    have f : (0 - x).toInt = (0 : Int) - x.toInt := i_sub2 rfl rfl (by omega) (by omega)
    exact Or.inr ⟨by omega, by omega⟩
theorem e_isBeside (a b : Int32) (a0 : 0 ≤ a.toInt) (a1 : a.toInt ≤ 99) (b0 : 0 ≤ b.toInt) (b1 : b.toInt ≤ 99) : okP (f_X1_isBeside a b) (fun r => (r.toInt = 0 ∧ (¬ besS a.toInt b.toInt ∨ a.toInt = b.toInt)) ∨ (r.toInt = 1 ∧ besS a.toInt b.toInt ∧ ¬ a.toInt = b.toInt)) := by
  unfold f_X1_isBeside
  have f1 : (a / 10).toInt = a.toInt / (10 : Int) := i_div2 rfl rfl (by omega) (by omega)
  have f2 : (b / 10).toInt = b.toInt / (10 : Int) := i_div2 rfl rfl (by omega) (by omega)
  have f3 : (a - a / 10 * 10).toInt = a.toInt % (10 : Int) := i_rem2 rfl rfl (by omega) (by omega)
  have f4 : (b - b / 10 * 10).toInt = b.toInt % (10 : Int) := i_rem2 rfl rfl (by omega) (by omega)
  have f5 : ((a / 10) - (b / 10)).toInt = (a / 10).toInt - (b / 10).toInt := i_sub2 rfl rfl (by omega) (by omega)
  have f6 : ((a - a / 10 * 10) - (b - b / 10 * 10)).toInt = (a - a / 10 * 10).toInt - (b - b / 10 * 10).toInt := i_sub2 rfl rfl (by omega) (by omega)
  have g1 := abs_is ((a / 10) - (b / 10)) (by omega) (by omega)
  have g2 := abs_is ((a - a / 10 * 10) - (b - b / 10 * 10)) (by omega) (by omega)
  refine ok_nmi (fun x hx kx => ?_)
  rw [← kx] at g1
  refine ok_nmi (fun y hy ky => ?_)
  rw [← ky] at g2
  clear hx hy kx ky
  rw [f5, f1, f2] at g1
  rw [f6, f3, f4] at g2
  clear f1 f2 f3 f4 f5 f6
  refine ok_ite (fun c => ?_) (fun c => ?_)
  · by_cases d : x < y
    · rw [if_pos d] at c
      have c1 : y.toInt = (1 : Int) := i_eq.mp c
      have d1 : x.toInt < y.toInt := i_lt.mp d
      exact ok_some (Or.inr ⟨rfl, by unfold besS; omega, by omega⟩)
    · rw [if_neg d] at c
      have c1 : x.toInt = (1 : Int) := i_eq.mp c
      have d1 : ¬ x.toInt < y.toInt := fun z => d (i_lt.mpr z)
      exact ok_some (Or.inr ⟨rfl, by unfold besS; omega, by omega⟩)
  · by_cases d : x < y
    · rw [if_pos d] at c
      have c1 : ¬ y.toInt = (1 : Int) := fun z => c (i_eq.mpr z)
      have d1 : x.toInt < y.toInt := i_lt.mp d
      exact ok_some (Or.inl ⟨rfl, by unfold besS; omega⟩)
    · rw [if_neg d] at c
      have c1 : ¬ x.toInt = (1 : Int) := fun z => c (i_eq.mpr z)
      have d1 : ¬ x.toInt < y.toInt := fun z => d (i_lt.mpr z)
      exact ok_some (Or.inl ⟨rfl, by unfold besS; omega⟩)
theorem e_reckon (x1 x2 : Int32) (s cu wa pc pm ph pa pn : Nat → Int32) (h0 : 0 ≤ x1.toInt) (h1 : x1.toInt ≤ 3) (h2 : 0 ≤ x2.toInt) (h3 : x2.toInt ≤ 99) (k : Nat) (hk : x1.toNatClampNeg = k) (n0 : 0 ≤ (pm k).toInt) (n1 : (pm k).toInt ≤ 24) (a0 : 0 ≤ (pa k).toInt) (a1 : (pa k).toInt ≤ 24) (c0 : 0 ≤ (pc k).toInt) (c1 : (pc k).toInt ≤ 99) : okP (f_X1_reckon x1 x2 s cu wa pc pm ph pa pn) (fun r => FitP cu wa (s 7).toInt (pc k).toInt (pm k).toInt (ph k).toInt (pa k).toInt (pn k).toInt x2.toInt r.toInt) := by
  have hx : ¬ (x1 < 0 ∨ 4 ≤ x1.toNatClampNeg) := ix (by omega) (by omega)
  have hl : ∀ (X6 X7 : Int32), X6.toInt = (pm k).toInt → X7.toInt = (pm k).toInt - (pa k).toInt → ∀ (f m : Nat) (v5 v6 : Int32), (pm k).toInt.toNat - m < f → m ≤ (pm k).toInt.toNat → v6.toInt = (m : Int) → v5.toInt = drS cu (s 7).toInt (ph k).toInt x2.toInt m → warmS cu wa (s 7).toInt (ph k).toInt x2.toInt (pm k).toInt (pa k).toInt (pn k).toInt m → okP (f_X1_reckon_L29 f x1 X6 X7 v5 v6 s cu wa pc pm ph pa pn) (fun r => FitP cu wa (s 7).toInt (pc k).toInt (pm k).toInt (ph k).toInt (pa k).toInt (pn k).toInt x2.toInt r.toInt) := by
    intro X6 X7 e6 e7 f
    induction f with
    | zero =>
      intro m v5 v6 hm
      exact absurd hm (Nat.not_lt_zero _)
    | succ f ih =>
      intro m v5 v6 hm hmn h6 h5 hw
      show okP (f_X1_reckon_L29b (f_X1_reckon_L29 f) x1 X6 X7 v5 v6 s cu wa pc pm ph pa pn) _
      have hr := drS_rng cu (s 7).toInt (ph k).toInt h2 h3 m
      have hstep : warmS cu wa (s 7).toInt (ph k).toInt x2.toInt (pm k).toInt (pa k).toInt (pn k).toInt (m + 1) → v6.toInt < (pm k).toInt → okP (f_X1_reckon_B71 (f_X1_reckon_L29 f) x1 X6 X7 v5 v6 s cu wa pc pm ph pa pn) (fun r => FitP cu wa (s 7).toInt (pc k).toInt (pm k).toInt (ph k).toInt (pa k).toInt (pn k).toInt x2.toInt r.toInt) := by
        intro hw1 hlt
        unfold f_X1_reckon_B71
        refine ok_chk hx ?_
        rw [hk]
        refine ok_bd1 (e_monthOn v5 v6 (ph k) s cu (by omega) (by omega) (by omega)) (fun r q => ?_)
        replace q : r.toInt = mo v5.toInt (cu (100 * (v6.toInt.toNat % 2) + v5.toInt.toNat)).toInt (s 7).toInt (ph k).toInt := q
        have fv : (v6 + 1).toInt = v6.toInt + (1 : Int) := i_add2 rfl rfl (by omega) (by omega)
        refine ok_nmi (fun x hx1 kx => ?_)
        refine ih (m + 1) r x (by omega) (by omega) (by omega) ?_ hw1
        have e5 : v6.toInt.toNat = m := by omega
        rw [q, h5, e5]
        rfl
      unfold f_X1_reckon_L29b
      refine ok_ite (fun a => ?_) (fun a => ?_)
      · have d : X6.toInt ≤ v6.toInt := i_le.mp a
        have e : m = (pm k).toInt.toNat := by omega
        rw [e] at h5 hw hr
        refine ok_chk hx ?_
        rw [hk]
        refine ok_nmi (fun y hy ky => ?_)
        refine ok_ite (fun b => ?_) (fun b => ?_)
        · have b1 : v5.toInt = y.toInt := i_eq.mp b
          exact ok_some (Or.inl ⟨hw, by unfold besS; omega, by omega, rfl⟩)
        · have b1 : ¬ v5.toInt = y.toInt := fun z => b (i_eq.mpr z)
          refine ok_bd1 (e_isBeside v5 y (by omega) (by omega) (by omega) (by omega)) (fun r q => ?_)
          refine ok_ite (fun c => ?_) (fun c => ?_)
          · have d1 : r.toInt = (0 : Int) := i_eq.mp c
            have hn : ¬ besS v5.toInt y.toInt := by
              rcases q with ⟨_, q | q⟩ | ⟨q, _⟩
              · exact q
              · exact absurd q b1
              · omega
            rw [h5, ky] at hn
            exact ok_some (Or.inr (Or.inr ⟨Or.inr hn, rfl⟩))
          · have d1 : ¬ r.toInt = (0 : Int) := fun z => c (i_eq.mpr z)
            have hn : besS v5.toInt y.toInt := by
              rcases q with ⟨q, _⟩ | ⟨_, q, _⟩
              · exact absurd q d1
              · exact q
            rw [h5, ky] at hn
            exact ok_some (Or.inr (Or.inl ⟨hw, hn, by omega, rfl⟩))
      · have d : ¬ X6.toInt ≤ v6.toInt := fun z => a (i_le.mpr z)
        refine ok_ite (fun b => ?_) (fun b => ?_)
        · have b1 : v6.toInt < X7.toInt := i_lt.mp b
          refine hstep (fun j hj hj2 => ?_) (by omega)
          exact hw j (by omega) hj2
        · have b1 : ¬ v6.toInt < X7.toInt := fun z => b (i_lt.mpr z)
          refine ok_bd1 (s_X1_inSeason v6 v5 (by omega) (by omega) (by omega)) (fun r q => ?_)
          replace q : r.toInt = 100 * (v6.toInt % 2) + v5.toInt := q
          have e : r.toNatClampNeg = 100 * (m % 2) + (drS cu (s 7).toInt (ph k).toInt x2.toInt m).toNat := by
            rw [i_cl]
            omega
          refine ok_chk (ix (by omega) (by omega)) ?_
          refine ok_chk hx ?_
          rw [e, hk]
          refine ok_ite (fun b2 => ?_) (fun b2 => ?_)
          · have b3 : (pn k).toInt ≤ (wa (100 * (m % 2) + (drS cu (s 7).toInt (ph k).toInt x2.toInt m).toNat)).toInt := i_le.mp b2
            refine hstep (fun j hj hj2 => ?_) (by omega)
            by_cases hjm : j = m
            · rw [hjm]
              exact b3
            · exact hw j (by omega) hj2
          · have b3 : ¬ (pn k).toInt ≤ (wa (100 * (m % 2) + (drS cu (s 7).toInt (ph k).toInt x2.toInt m).toNat)).toInt := fun z => b2 (i_le.mpr z)
            exact ok_some (Or.inr (Or.inr ⟨Or.inl (fun z => b3 (z m (by omega) (by omega))), rfl⟩))
  unfold f_X1_reckon
  refine ok_chk hx ?_
  rw [hk]
  refine ok_nmi (fun X6 e6 k6 => ?_)
  rw [hk] at hx
  refine ok_chk hx ?_
  have f7 : (X6 - pa k).toInt = X6.toInt - (pa k).toInt := i_sub2 rfl rfl (by omega) (by omega)
  refine ok_nmi (fun X7 e7 k7 => ?_)
  exact hl X6 X7 k6 (by omega) FU 0 x2 0 (FU_gt (by omega)) (by omega) rfl rfl (fun j hj => absurd hj (Nat.not_lt_zero _))
def PieOK (pc pm ph pa : Nat → Int32) : Prop := ∀ p : Nat, p < 4 → 0 ≤ (pc p).toInt ∧ (pc p).toInt ≤ 99 ∧ 0 ≤ (pm p).toInt ∧ (pm p).toInt ≤ 24 ∧ 0 ≤ (ph p).toInt ∧ (ph p).toInt ≤ 1 ∧ 0 ≤ (pa p).toInt ∧ (pa p).toInt ≤ 24
def KnO (kn s cu wa pc pm ph pa pn : Nat → Int32) : Prop := ∀ p c : Nat, p < 4 → c < 100 → (kn (100 * p + c)).toInt = -1 ∨ FitP cu wa (s 7).toInt (pc p).toInt (pm p).toInt (ph p).toInt (pa p).toInt (pn p).toInt (c : Int) (kn (100 * p + c)).toInt
def Kn0 (kn : Nat → Int32) : Prop := ∀ j : Nat, j < 400 → kn j = -1
theorem Kn0_fil {k k' : Nat → Int32} (h : k' = fil 0 400 (-1) k) : Kn0 k' := by
  intro j hj
  rw [h]
  unfold fil
  rw [if_pos ⟨Nat.zero_le _, hj⟩]
theorem KnO_0 {kn : Nat → Int32} (h : Kn0 kn) (s cu wa pc pm ph pa pn : Nat → Int32) : KnO kn s cu wa pc pm ph pa pn := by
  intro p c hp hc
  rw [h _ (by omega)]
  exact Or.inl rfl
theorem e_X1_fit (x1 x2 : Int32) (o_known told_settings told_currents told_warmths told_pieceCells told_pieceMonths told_pieceHighs told_pieceAges told_pieceNeeds : Nat → Int32) (h0 : 0 ≤ x1.toInt) (h1 : x1.toInt ≤ 3) (h2 : 0 ≤ x2.toInt) (h3 : x2.toInt ≤ 99) (hP : PieOK told_pieceCells told_pieceMonths told_pieceHighs told_pieceAges) (hK : KnO o_known told_settings told_currents told_warmths told_pieceCells told_pieceMonths told_pieceHighs told_pieceAges told_pieceNeeds) : okP (f_X1_fit x1 x2 o_known told_settings told_currents told_warmths told_pieceCells told_pieceMonths told_pieceHighs told_pieceAges told_pieceNeeds) (fun u => (FitP told_currents told_warmths (told_settings 7).toInt (told_pieceCells x1.toNatClampNeg).toInt (told_pieceMonths x1.toNatClampNeg).toInt (told_pieceHighs x1.toNatClampNeg).toInt (told_pieceAges x1.toNatClampNeg).toInt (told_pieceNeeds x1.toNatClampNeg).toInt x2.toInt u.1.toInt) ∧ (KnO u.2 told_settings told_currents told_warmths told_pieceCells told_pieceMonths told_pieceHighs told_pieceAges told_pieceNeeds)) := by
  have k1 : x1.toNatClampNeg < 4 := by
    rw [i_cl]
    omega
  have k2 : x2.toNatClampNeg < 100 := by
    rw [i_cl]
    omega
  have hc : (x2.toNatClampNeg : Int) = x2.toInt := clI h2
  have hc1 : (x1.toNatClampNeg : Int) = x1.toInt := clI h0
  obtain ⟨p1, p2, p3, p4, p5, p6, p7, p8⟩ := hP x1.toNatClampNeg k1
  unfold f_X1_fit
  have f1 : (100 * x1).toInt = (100 : Int) * x1.toInt := i_mul2 rfl rfl (by omega) (by omega)
  have f2 : ((100 * x1) + x2).toInt = (100 * x1).toInt + x2.toInt := i_add2 rfl rfl (by omega) (by omega)
  refine ok_nmi (fun i hi ki => ?_)
  have e : 100 * x1.toNatClampNeg + x2.toNatClampNeg = i.toNatClampNeg := by
    have ci : (i.toNatClampNeg : Int) = i.toInt := clI (by omega)
    omega
  have hx : ¬ (i < 0 ∨ 400 ≤ i.toNatClampNeg) := ix (by omega) (by omega)
  have hk := hK x1.toNatClampNeg x2.toNatClampNeg k1 k2
  rw [e, hc] at hk
  refine ok_chk hx ?_
  refine ok_ite (fun a => ?_) (fun a => ?_)
  · refine ok_bd1 (e_reckon x1 x2 told_settings told_currents told_warmths told_pieceCells told_pieceMonths told_pieceHighs told_pieceAges told_pieceNeeds h0 h1 h2 h3 x1.toNatClampNeg rfl p3 p4 p7 p8 p1 p2) (fun r q => ?_)
    refine ok_chk hx ?_
    unfold f_X1_fit_B29
    refine ok_chk hx ?_
    refine ok_some ⟨?_, ?_⟩
    · rw [upd_is]
      exact q
    · show KnO (upd o_known i.toNatClampNeg r) told_settings told_currents told_warmths told_pieceCells told_pieceMonths told_pieceHighs told_pieceAges told_pieceNeeds
      intro p c hp hc2
      by_cases hj : 100 * p + c = i.toNatClampNeg
      · have ep : p = x1.toNatClampNeg := by omega
        have ec : c = x2.toNatClampNeg := by omega
        rw [hj, upd_is, ep, ec, hc]
        exact Or.inr q
      · rw [upd_no hj]
        exact hK p c hp hc2
  · have a1 : ¬ (o_known i.toNatClampNeg).toInt = -1 := fun z => a (i_eq.mpr z)
    unfold f_X1_fit_B29
    refine ok_chk hx ?_
    refine ok_some ⟨?_, hK⟩
    rcases hk with hk | hk
    · exact absurd hk a1
    · exact hk
theorem e_X7_fitA (x1 x2 : Int32) (o_sets o_currents o_warmths o_pieceParts : Nat → Int32) (h0 : 0 ≤ x1.toInt) (h1 : x1.toInt ≤ 3) (h2 : 0 ≤ x2.toInt) (h3 : x2.toInt ≤ 99) (w0 : 0 ≤ (o_sets 7).toInt) (w1 : (o_sets 7).toInt ≤ 8) (hc : CurOK o_currents) (k : Nat) (hc1 : (k : Int) = x1.toInt) (pc pm ph pa pn : Int32) (hpc : o_pieceParts (5 * k) = pc) (hpm : o_pieceParts (5 * k + 1) = pm) (hph : o_pieceParts (5 * k + 2) = ph) (hpa : o_pieceParts (5 * k + 3) = pa) (hpn : o_pieceParts (5 * k + 4) = pn) (p1 : 0 ≤ pc.toInt) (p2 : pc.toInt ≤ 99) (p3 : 0 ≤ pm.toInt) (p4 : pm.toInt ≤ 24) (p5 : 0 ≤ ph.toInt) (p6 : ph.toInt ≤ 1) (p7 : 0 ≤ pa.toInt) (p8 : pa.toInt ≤ 24) : okP (f_X7_fit x1 x2 o_sets o_currents o_warmths o_pieceParts) (fun r => FitP o_currents o_warmths (o_sets 7).toInt pc.toInt pm.toInt ph.toInt pa.toInt pn.toInt x2.toInt r.toInt) := by
  have hl : ∀ (v3 v4 : Int32), v3.toInt = 5 * x1.toInt → v4.toInt = pm.toInt → ∀ (f m : Nat) (v5 v6 v7 : Int32), pm.toInt.toNat - m < f → m ≤ pm.toInt.toNat → v7.toInt = (m : Int) → v5.toInt = drS o_currents (o_sets 7).toInt ph.toInt x2.toInt m → (v6.toInt = 1 ∧ warmS o_currents o_warmths (o_sets 7).toInt ph.toInt x2.toInt pm.toInt pa.toInt pn.toInt m ∨ v6.toInt = 0 ∧ ¬ warmS o_currents o_warmths (o_sets 7).toInt ph.toInt x2.toInt pm.toInt pa.toInt pn.toInt pm.toInt.toNat) → okP (f_X7_fit_L23 f v3 v4 v5 v6 v7 o_sets o_currents o_warmths o_pieceParts) (fun r => FitP o_currents o_warmths (o_sets 7).toInt pc.toInt pm.toInt ph.toInt pa.toInt pn.toInt x2.toInt r.toInt) := by
    intro v3 v4 e3 e4
    have g2 : (v3 + 2).toInt = v3.toInt + (2 : Int) := i_add2 rfl rfl (by omega) (by omega)
    have g3 : (v3 + 3).toInt = v3.toInt + (3 : Int) := i_add2 rfl rfl (by omega) (by omega)
    have g4 : (v3 + 4).toInt = v3.toInt + (4 : Int) := i_add2 rfl rfl (by omega) (by omega)
    have n0 : v3.toNatClampNeg = 5 * k := by
      rw [i_cl]
      omega
    have n2 : (v3 + 2).toNatClampNeg = 5 * k + 2 := by
      rw [i_cl]
      omega
    have n3 : (v3 + 3).toNatClampNeg = 5 * k + 3 := by
      rw [i_cl]
      omega
    have n4 : (v3 + 4).toNatClampNeg = 5 * k + 4 := by
      rw [i_cl]
      omega
    have hx0 : ¬ (v3 < 0 ∨ 20 ≤ v3.toNatClampNeg) := ix (by omega) (by omega)
    have hx2 : ¬ (v3 + 2 < 0 ∨ 20 ≤ (v3 + 2).toNatClampNeg) := ix (by omega) (by omega)
    have hx3 : ¬ (v3 + 3 < 0 ∨ 20 ≤ (v3 + 3).toNatClampNeg) := ix (by omega) (by omega)
    have hx4 : ¬ (v3 + 4 < 0 ∨ 20 ≤ (v3 + 4).toNatClampNeg) := ix (by omega) (by omega)
    intro f
    induction f with
    | zero =>
      intro m v5 v6 v7 hm
      exact absurd hm (Nat.not_lt_zero _)
    | succ f ih =>
      intro m v5 v6 v7 hm hmn h7 h5 hw
      show okP (f_X7_fit_L23b (f_X7_fit_L23 f) v3 v4 v5 v6 v7 o_sets o_currents o_warmths o_pieceParts) _
      have hr := drS_rng o_currents (o_sets 7).toInt ph.toInt h2 h3 m
      have hstep : ∀ y0 : Int32, (y0.toInt = 1 ∧ warmS o_currents o_warmths (o_sets 7).toInt ph.toInt x2.toInt pm.toInt pa.toInt pn.toInt (m + 1) ∨ y0.toInt = 0 ∧ ¬ warmS o_currents o_warmths (o_sets 7).toInt ph.toInt x2.toInt pm.toInt pa.toInt pn.toInt pm.toInt.toNat) → v7.toInt < pm.toInt → okP (f_X7_fit_B82 (f_X7_fit_L23 f) v3 v4 v5 v7 y0 o_sets o_currents o_warmths o_pieceParts) (fun r => FitP o_currents o_warmths (o_sets 7).toInt pc.toInt pm.toInt ph.toInt pa.toInt pn.toInt x2.toInt r.toInt) := by
        intro y0 hy hlt
        unfold f_X7_fit_B82
        refine ok_chk hx2 ?_
        rw [n2, hph]
        refine ok_bd1 (e_drifted v5 v7 ph o_sets o_currents (by omega) (by omega) (by omega) (by omega) w0 w1 hc) (fun r q => ?_)
        replace q : r.toInt = mo v5.toInt (o_currents (100 * (v7.toInt.toNat % 2) + v5.toInt.toNat)).toInt (o_sets 7).toInt ph.toInt := q
        have fv : (v7 + 1).toInt = v7.toInt + (1 : Int) := i_add2 rfl rfl (by omega) (by omega)
        refine ok_nmi (fun x hx kx => ?_)
        refine ih (m + 1) r y0 x (by omega) (by omega) (by omega) ?_ hy
        have e5 : v7.toInt.toNat = m := by omega
        rw [q, h5, e5]
        rfl
      unfold f_X7_fit_L23b
      refine ok_ite (fun a => ?_) (fun a => ?_)
      · have d : v4.toInt ≤ v7.toInt := i_le.mp a
        have e : m = pm.toInt.toNat := by omega
        rw [e] at h5 hw hr
        refine ok_chk hx0 ?_
        rw [n0, hpc]
        have f1 : (v5 / 10).toInt = v5.toInt / (10 : Int) := i_div2 rfl rfl (by omega) (by omega)
        have f2 : (pc / 10).toInt = pc.toInt / (10 : Int) := i_div2 rfl rfl (by omega) (by omega)
        have f3 : (v5 - v5 / 10 * 10).toInt = v5.toInt % (10 : Int) := i_rem2 rfl rfl (by omega) (by omega)
        have f4 : (pc - pc / 10 * 10).toInt = pc.toInt % (10 : Int) := i_rem2 rfl rfl (by omega) (by omega)
        have f5 : ((v5 / 10) - (pc / 10)).toInt = (v5 / 10).toInt - (pc / 10).toInt := i_sub2 rfl rfl (by omega) (by omega)
        have f6 : ((v5 - v5 / 10 * 10) - (pc - pc / 10 * 10)).toInt = (v5 - v5 / 10 * 10).toInt - (pc - pc / 10 * 10).toInt := i_sub2 rfl rfl (by omega) (by omega)
        have hx00 := hx0
        rw [n0] at hx00
        refine ok_nmi (fun x hx kx => ?_)
        refine ok_chk hx00 ?_
        refine ok_nmi (fun y hy ky => ?_)
        have hno : ¬ besS v5.toInt pc.toInt → okP (f_X7_fit_B172 v3 v5 v6 o_sets o_currents o_warmths o_pieceParts) (fun r => FitP o_currents o_warmths (o_sets 7).toInt pc.toInt pm.toInt ph.toInt pa.toInt pn.toInt x2.toInt r.toInt) := by
          intro hb
          rw [h5] at hb
          unfold f_X7_fit_B172 f_X7_fit_B173
          refine ok_ite (fun _ => ?_) (fun _ => ?_)
          · exact ok_some (Or.inr (Or.inr ⟨Or.inr hb, rfl⟩))
          · refine ok_ite (fun _ => ?_) (fun z => absurd rfl z)
            exact ok_some (Or.inr (Or.inr ⟨Or.inr hb, rfl⟩))
        refine ok_bd1 (s_X7_in _ (-1) 1) (fun u hu => ?_)
        replace hu : (u.toInt = 1 ∧ (-1 : Int) ≤ x.toInt64.toInt ∧ x.toInt64.toInt ≤ (1 : Int)) ∨ (u.toInt = 0 ∧ (x.toInt64.toInt < (-1 : Int) ∨ (1 : Int) < x.toInt64.toInt)) := hu
        rw [j_i2l] at hu
        refine ok_ite (fun b => ?_) (fun b => ?_)
        · have b1 : u.toInt = (0 : Int) := i_eq.mp b
          refine hno (fun z => ?_)
          unfold besS at z
          omega
        · have b1 : ¬ u.toInt = (0 : Int) := fun z => b (i_eq.mpr z)
          refine ok_bd1 (s_X7_in _ (-1) 1) (fun t ht => ?_)
          replace ht : (t.toInt = 1 ∧ (-1 : Int) ≤ y.toInt64.toInt ∧ y.toInt64.toInt ≤ (1 : Int)) ∨ (t.toInt = 0 ∧ (y.toInt64.toInt < (-1 : Int) ∨ (1 : Int) < y.toInt64.toInt)) := ht
          rw [j_i2l] at ht
          refine ok_ite (fun b => ?_) (fun b => ?_)
          · have b2 : t.toInt = (0 : Int) := i_eq.mp b
            refine hno (fun z => ?_)
            unfold besS at z
            omega
          · have b2 : ¬ t.toInt = (0 : Int) := fun z => b (i_eq.mpr z)
            have hb : besS v5.toInt pc.toInt := by
              unfold besS
              omega
            unfold f_X7_fit_B173
            refine ok_ite (fun c => ?_) (fun c => ?_)
            · have c1 : v6.toInt = (0 : Int) := i_eq.mp c
              rcases hw with ⟨z, _⟩ | ⟨_, z⟩
              · omega
              · exact ok_some (Or.inr (Or.inr ⟨Or.inl z, rfl⟩))
            · have c1 : ¬ v6.toInt = (0 : Int) := fun z => c (i_eq.mpr z)
              refine ok_ite (fun z => absurd z (by decide)) (fun _ => ?_)
              refine ok_chk hx0 ?_
              rw [n0, hpc]
              have hw1 : warmS o_currents o_warmths (o_sets 7).toInt ph.toInt x2.toInt pm.toInt pa.toInt pn.toInt pm.toInt.toNat := by
                rcases hw with ⟨_, z⟩ | ⟨z, _⟩
                · exact z
                · omega
              refine ok_ite (fun c2 => ?_) (fun c2 => ?_)
              · have c3 : v5.toInt = pc.toInt := i_eq.mp c2
                rw [h5] at hb c3
                exact ok_some (Or.inl ⟨hw1, hb, c3, rfl⟩)
              · have c3 : ¬ v5.toInt = pc.toInt := fun z => c2 (i_eq.mpr z)
                rw [h5] at hb c3
                exact ok_some (Or.inr (Or.inl ⟨hw1, hb, c3, rfl⟩))
      · have d : ¬ v4.toInt ≤ v7.toInt := fun z => a (i_le.mpr z)
        refine ok_ite (fun b => ?_) (fun b => ?_)
        · have b1 : v6.toInt = (0 : Int) := i_eq.mp b
          unfold f_X7_fit_B81
          refine hstep 0 (Or.inr ⟨rfl, ?_⟩) (by omega)
          rcases hw with ⟨z, _⟩ | ⟨_, z⟩
          · omega
          · exact z
        · have b1 : ¬ v6.toInt = (0 : Int) := fun z => b (i_eq.mpr z)
          have hw1 : warmS o_currents o_warmths (o_sets 7).toInt ph.toInt x2.toInt pm.toInt pa.toInt pn.toInt m := by
            rcases hw with ⟨_, z⟩ | ⟨z, _⟩
            · exact z
            · omega
          refine ok_chk hx3 ?_
          rw [n3, hpa]
          have fa : (v4 - pa).toInt = v4.toInt - pa.toInt := i_sub2 rfl rfl (by omega) (by omega)
          refine ok_ite (fun c => ?_) (fun c => ?_)
          · have c1 : v7.toInt < (v4 - pa).toInt := i_lt.mp c
            unfold f_X7_fit_B77
            refine hstep 1 (Or.inl ⟨rfl, fun j hj hj2 => ?_⟩) (by omega)
            exact hw1 j (by omega) hj2
          · have c1 : ¬ v7.toInt < (v4 - pa).toInt := fun z => c (i_lt.mpr z)
            have f1 : (v7 - v7 / 2 * 2).toInt = v7.toInt % (2 : Int) := i_rem2 rfl rfl (by omega) (by omega)
            have f2 : (100 * (v7 - v7 / 2 * 2)).toInt = (100 : Int) * (v7 - v7 / 2 * 2).toInt := i_mul2 rfl rfl (by omega) (by omega)
            have f3 : ((100 * (v7 - v7 / 2 * 2)) + v5).toInt = (100 * (v7 - v7 / 2 * 2)).toInt + v5.toInt := i_add2 rfl rfl (by omega) (by omega)
            have e : ((100 * (v7 - v7 / 2 * 2)) + v5).toNatClampNeg = 100 * (m % 2) + (drS o_currents (o_sets 7).toInt ph.toInt x2.toInt m).toNat := by
              rw [i_cl]
              omega
            refine ok_chk (ix (by omega) (by omega)) ?_
            refine ok_chk hx4 ?_
            rw [n4, hpn, e]
            refine ok_ite (fun c2 => ?_) (fun c2 => ?_)
            · have c3 : (o_warmths (100 * (m % 2) + (drS o_currents (o_sets 7).toInt ph.toInt x2.toInt m).toNat)).toInt < pn.toInt := i_lt.mp c2
              unfold f_X7_fit_B81
              refine hstep 0 (Or.inr ⟨rfl, fun z => ?_⟩) (by omega)
              have z1 := z m (by omega) (by omega)
              omega
            · have c3 : ¬ (o_warmths (100 * (m % 2) + (drS o_currents (o_sets 7).toInt ph.toInt x2.toInt m).toNat)).toInt < pn.toInt := fun z => c2 (i_lt.mpr z)
              unfold f_X7_fit_B77
              refine hstep 1 (Or.inl ⟨rfl, fun j hj hj2 => ?_⟩) (by omega)
              by_cases hjm : j = m
              · rw [hjm]
                omega
              · exact hw1 j (by omega) hj2
  unfold f_X7_fit
  have f5 : (5 * x1).toInt = (5 : Int) * x1.toInt := i_mul2 rfl rfl (by omega) (by omega)
  refine ok_nmi (fun v3 e3 k3 => ?_)
  have g1 : (v3 + 1).toInt = v3.toInt + (1 : Int) := i_add2 rfl rfl (by omega) (by omega)
  have n1 : (v3 + 1).toNatClampNeg = 5 * k + 1 := by
    rw [i_cl]
    omega
  refine ok_chk (ix (by omega) (by omega)) ?_
  rw [n1, hpm]
  refine ok_nmi (fun v4 e4 k4 => ?_)
  exact hl v3 v4 (by omega) k4 FU 0 x2 1 0 (FU_gt (by omega)) (by omega) rfl rfl (Or.inl ⟨rfl, fun j hj => absurd hj (Nat.not_lt_zero _)⟩)
theorem e_X7_fit (x1 x2 : Int32) (o_sets o_currents o_warmths o_pieceParts : Nat → Int32) (h0 : 0 ≤ x1.toInt) (h1 : x1.toInt ≤ 3) (h2 : 0 ≤ x2.toInt) (h3 : x2.toInt ≤ 99) (w0 : 0 ≤ (o_sets 7).toInt) (w1 : (o_sets 7).toInt ≤ 8) (hc : CurOK o_currents) (hP : PieOK (fun p => o_pieceParts (5 * p)) (fun p => o_pieceParts (5 * p + 1)) (fun p => o_pieceParts (5 * p + 2)) (fun p => o_pieceParts (5 * p + 3))) : okP (f_X7_fit x1 x2 o_sets o_currents o_warmths o_pieceParts) (fun r => FitP o_currents o_warmths (o_sets 7).toInt (o_pieceParts (5 * x1.toNatClampNeg)).toInt (o_pieceParts (5 * x1.toNatClampNeg + 1)).toInt (o_pieceParts (5 * x1.toNatClampNeg + 2)).toInt (o_pieceParts (5 * x1.toNatClampNeg + 3)).toInt (o_pieceParts (5 * x1.toNatClampNeg + 4)).toInt x2.toInt r.toInt) := by
  have k1 : x1.toNatClampNeg < 4 := by
    rw [i_cl]
    omega
  obtain ⟨p1, p2, p3, p4, p5, p6, p7, p8⟩ := hP x1.toNatClampNeg k1
  exact e_X7_fitA x1 x2 o_sets o_currents o_warmths o_pieceParts h0 h1 h2 h3 w0 w1 hc x1.toNatClampNeg (clI h0) _ _ _ _ _ rfl rfl rfl rfl rfl p1 p2 p3 p4 p5 p6 p7 p8
/-! At the law: pieces of both alike. -/
def PieR (pc pm ph pa pn pp : Nat → Int32) : Prop := ∀ p : Nat, p < 4 → pc p = pp (5 * p) ∧ pm p = pp (5 * p + 1) ∧ ph p = pp (5 * p + 2) ∧ pa p = pp (5 * p + 3) ∧ pn p = pp (5 * p + 4)
theorem PieOK_m {pc pm ph pa pn pp : Nat → Int32} (h : PieR pc pm ph pa pn pp) (g : PieOK pc pm ph pa) : PieOK (fun p => pp (5 * p)) (fun p => pp (5 * p + 1)) (fun p => pp (5 * p + 2)) (fun p => pp (5 * p + 3)) := by
  intro p hp
  obtain ⟨a1, a2, a3, a4, a5⟩ := h p hp
  have b := g p hp
  rw [a1, a2, a3, a4] at b
  exact b
