/-! The model's walk: what it keeps, and what falls. -/
def sS (l : Nat) (c : Nat → Int) : Int := match l with
  | 0 => (c 0 + 1) * 387420489
  | 1 => c 0 * 387420489 + (c 1 + 1) * 14348907
  | 2 => c 0 * 387420489 + c 1 * 14348907 + (c 2 + 1) * 531441
  | 3 => c 0 * 387420489 + c 1 * 14348907 + c 2 * 531441 + (c 3 + 1) * 19683
  | 4 => c 0 * 387420489 + c 1 * 14348907 + c 2 * 531441 + c 3 * 19683 + (c 4 + 1) * 729
  | 5 => c 0 * 387420489 + c 1 * 14348907 + c 2 * 531441 + c 3 * 19683 + c 4 * 729 + (c 5 + 1) * 27
  | _ => c 0 * 387420489 + c 1 * 14348907 + c 2 * 531441 + c 3 * 19683 + c 4 * 729 + c 5 * 27 + (c 6 + 1)
def cB (l : Nat) (c : Nat → Int) : Prop := ∀ j : Nat, j ≤ l → -1 ≤ c j ∧ c j ≤ 23
theorem cB_all {l : Nat} {c : Nat → Int} (h : cB l c) (hl : l ≤ 6) : (-1 ≤ c 0 ∧ c 0 ≤ 23) ∧ (1 ≤ l → -1 ≤ c 1 ∧ c 1 ≤ 23) ∧ (2 ≤ l → -1 ≤ c 2 ∧ c 2 ≤ 23) ∧ (3 ≤ l → -1 ≤ c 3 ∧ c 3 ≤ 23) ∧ (4 ≤ l → -1 ≤ c 4 ∧ c 4 ≤ 23) ∧ (5 ≤ l → -1 ≤ c 5 ∧ c 5 ≤ 23) ∧ (6 ≤ l → -1 ≤ c 6 ∧ c 6 ≤ 23) :=
  ⟨h 0 (Nat.zero_le _), h 1, h 2, h 3, h 4, h 5, h 6⟩
theorem sS_bd {l : Nat} {c : Nat → Int} (h : cB l c) (hl : l ≤ 6) : -1000000000 ≤ sS l c ∧ sS l c ≤ 10000000000 := by
  obtain ⟨h0, h1, h2, h3, h4, h5, h6⟩ := cB_all h hl
  match l, hl with
  | 0, _ => simp only [sS]; omega
  | 1, _ => simp only [sS]; have := h1 (by omega); omega
  | 2, _ => simp only [sS]; have := h1 (by omega); have := h2 (by omega); omega
  | 3, _ => simp only [sS]; have := h1 (by omega); have := h2 (by omega); have := h3 (by omega); omega
  | 4, _ => simp only [sS]; have := h1 (by omega); have := h2 (by omega); have := h3 (by omega); have := h4 (by omega); omega
  | 5, _ => simp only [sS]; have := h1 (by omega); have := h2 (by omega); have := h3 (by omega); have := h4 (by omega); have := h5 (by omega); omega
  | 6, _ => simp only [sS]; have := h1 (by omega); have := h2 (by omega); have := h3 (by omega); have := h4 (by omega); have := h5 (by omega); have := h6 (by omega); omega
theorem sS_back {l : Nat} {c d : Nat → Int} (h : cB (l + 1) c) (hl : l + 1 ≤ 6) (hd : ∀ j : Nat, j ≤ l → d j = c j) : sS (l + 1) c + 1 ≤ sS l d := by
  obtain ⟨h0, h1, h2, h3, h4, h5, h6⟩ := cB_all h hl
  match l, hl with
  | 0, _ => simp only [sS]; have := h1 (by omega); have := hd 0 (by omega); omega
  | 1, _ => simp only [sS]; have := h2 (by omega); have := hd 0 (by omega); have := hd 1 (by omega); omega
  | 2, _ => simp only [sS]; have := h3 (by omega); have := hd 0 (by omega); have := hd 1 (by omega); have := hd 2 (by omega); omega
  | 3, _ => simp only [sS]; have := h4 (by omega); have := hd 0 (by omega); have := hd 1 (by omega); have := hd 2 (by omega); have := hd 3 (by omega); omega
  | 4, _ => simp only [sS]; have := h5 (by omega); have := hd 0 (by omega); have := hd 1 (by omega); have := hd 2 (by omega); have := hd 3 (by omega); have := hd 4 (by omega); omega
  | 5, _ => simp only [sS]; have := h6 (by omega); have := hd 0 (by omega); have := hd 1 (by omega); have := hd 2 (by omega); have := hd 3 (by omega); have := hd 4 (by omega); have := hd 5 (by omega); omega
theorem sS_stay {l : Nat} {c d : Nat → Int} (hl : l ≤ 6) (hd : ∀ j : Nat, j < l → d j = c j) (he : d l = c l + 1) : sS l c + 1 ≤ sS l d := by
  match l, hl with
  | 0, _ => simp only [sS]; omega
  | 1, _ => simp only [sS]; have := hd 0 (by omega); omega
  | 2, _ => simp only [sS]; have := hd 0 (by omega); have := hd 1 (by omega); omega
  | 3, _ => simp only [sS]; have := hd 0 (by omega); have := hd 1 (by omega); have := hd 2 (by omega); omega
  | 4, _ => simp only [sS]; have := hd 0 (by omega); have := hd 1 (by omega); have := hd 2 (by omega); have := hd 3 (by omega); omega
  | 5, _ => simp only [sS]; have := hd 0 (by omega); have := hd 1 (by omega); have := hd 2 (by omega); have := hd 3 (by omega); have := hd 4 (by omega); omega
  | 6, _ => simp only [sS]; have := hd 0 (by omega); have := hd 1 (by omega); have := hd 2 (by omega); have := hd 3 (by omega); have := hd 4 (by omega); have := hd 5 (by omega); omega
theorem sS_on {l : Nat} {c d : Nat → Int} (hl : l + 1 ≤ 6) (hd : ∀ j : Nat, j < l → d j = c j) (he : d l = c l + 1) (hn : d (l + 1) = -1) : sS (l + 1) d = sS l c := by
  match l, hl with
  | 0, _ => have hn' : d 1 = -1 := hn; have he' : d 0 = c 0 + 1 := he; simp only [sS]; omega
  | 1, _ => have hn' : d 2 = -1 := hn; have he' : d 1 = c 1 + 1 := he; simp only [sS]; have := hd 0 (by omega); omega
  | 2, _ => have hn' : d 3 = -1 := hn; have he' : d 2 = c 2 + 1 := he; simp only [sS]; have := hd 0 (by omega); have := hd 1 (by omega); omega
  | 3, _ => have hn' : d 4 = -1 := hn; have he' : d 3 = c 3 + 1 := he; simp only [sS]; have := hd 0 (by omega); have := hd 1 (by omega); have := hd 2 (by omega); omega
  | 4, _ => have hn' : d 5 = -1 := hn; have he' : d 4 = c 4 + 1 := he; simp only [sS]; have := hd 0 (by omega); have := hd 1 (by omega); have := hd 2 (by omega); have := hd 3 (by omega); omega
  | 5, _ => have hn' : d 6 = -1 := hn; have he' : d 5 = c 5 + 1 := he; simp only [sS]; have := hd 0 (by omega); have := hd 1 (by omega); have := hd 2 (by omega); have := hd 3 (by omega); have := hd 4 (by omega); omega
def WI (lev : Int32) (sets code cellAt : Nat → Int32) : Prop := -1 ≤ lev.toInt ∧ lev.toInt ≤ (sets 2).toInt ∧ (∀ j : Nat, (j : Int) ≤ lev.toInt → 0 ≤ (cellAt j).toInt ∧ (cellAt j).toInt ≤ 99) ∧ (∀ j : Nat, (j : Int) ≤ lev.toInt → -1 ≤ (code j).toInt ∧ (code j).toInt ≤ 23)
def wm (lev : Int32) (code : Nat → Int32) : Nat := if lev.toInt < 0 then 0 else (100000000000 - (7 * sS lev.toInt.toNat (fun j => (code j).toInt) + lev.toInt)).toNat
theorem wm_lt {lev : Int32} {sets code cellAt : Nat → Int32} (h : WI lev sets code cellAt) (h6 : (sets 2).toInt ≤ 6) : wm lev code < 1000000000000 := by
  obtain ⟨h1, h2, _, h4⟩ := h
  unfold wm
  split
  · omega
  · have := sS_bd (l := lev.toInt.toNat) (c := fun j => (code j).toInt) (fun j hj => h4 j (by omega)) (by omega)
    omega
theorem wm_back {lev lev' : Int32} {sets code code' cellAt : Nat → Int32} (h : WI lev sets code cellAt) (h6 : (sets 2).toInt ≤ 6) (h0 : 0 ≤ lev.toInt) (he : lev'.toInt = lev.toInt - 1) (hd : ∀ j : Nat, (j : Int) < lev.toInt → code' j = code j) : wm lev' code' < wm lev code := by
  obtain ⟨h1, h2, _, h4⟩ := h
  have hb := sS_bd (l := lev.toInt.toNat) (c := fun j => (code j).toInt) (fun j hj => h4 j (by omega)) (by omega)
  have hw : wm lev code = (100000000000 - (7 * sS lev.toInt.toNat (fun j => (code j).toInt) + lev.toInt)).toNat := by
    unfold wm
    rw [if_neg (by omega)]
  rw [hw]
  unfold wm
  by_cases hz : lev'.toInt < 0
  · rw [if_pos hz]
    omega
  · rw [if_neg hz]
    clear hw
    have hl : lev.toInt.toNat = lev'.toInt.toNat + 1 := by omega
    rw [hl] at hb ⊢
    have := sS_back (l := lev'.toInt.toNat) (c := fun j => (code j).toInt) (d := fun j => (code' j).toInt) (fun j hj => h4 j (by omega)) (by omega) (fun j hj => by
      show (code' j).toInt = (code j).toInt
      rw [hd j (by omega)])
    omega
theorem wm_stay {lev : Int32} {sets code code' cellAt : Nat → Int32} (h : WI lev sets code cellAt) (h6 : (sets 2).toInt ≤ 6) (h0 : 0 ≤ lev.toInt) (hd : ∀ j : Nat, (j : Int) < lev.toInt → code' j = code j) (hu : (code' lev.toInt.toNat).toInt = (code lev.toInt.toNat).toInt + 1) : wm lev code' < wm lev code := by
  obtain ⟨h1, h2, _, h4⟩ := h
  have hb := sS_bd (l := lev.toInt.toNat) (c := fun j => (code j).toInt) (fun j hj => h4 j (by omega)) (by omega)
  have := sS_stay (l := lev.toInt.toNat) (c := fun j => (code j).toInt) (d := fun j => (code' j).toInt) (by omega) (fun j hj => by
      show (code' j).toInt = (code j).toInt
      rw [hd j (by omega)]) hu
  unfold wm
  rw [if_neg (by omega), if_neg (by omega)]
  omega
theorem wm_on {lev lev' : Int32} {sets code code' cellAt : Nat → Int32} (h : WI lev sets code cellAt) (h6 : (sets 2).toInt ≤ 6) (h0 : 0 ≤ lev.toInt) (hs : lev.toInt < (sets 2).toInt) (he : lev'.toInt = lev.toInt + 1) (hd : ∀ j : Nat, (j : Int) < lev.toInt → code' j = code j) (hu : (code' lev.toInt.toNat).toInt = (code lev.toInt.toNat).toInt + 1) (hn : (code' (lev.toInt.toNat + 1)).toInt = -1) : wm lev' code' < wm lev code := by
  obtain ⟨h1, h2, _, h4⟩ := h
  have hb := sS_bd (l := lev.toInt.toNat) (c := fun j => (code j).toInt) (fun j hj => h4 j (by omega)) (by omega)
  have := sS_on (l := lev.toInt.toNat) (c := fun j => (code j).toInt) (d := fun j => (code' j).toInt) (by omega) (fun j hj => by
      show (code' j).toInt = (code j).toInt
      rw [hd j (by omega)]) hu hn
  have hl : lev'.toInt.toNat = lev.toInt.toNat + 1 := by omega
  unfold wm
  rw [if_neg (by omega), if_neg (by omega), hl]
  omega
theorem WI_cell {lev : Int32} {sets code cellAt : Nat → Int32} (h : WI lev sets code cellAt) (hl : lev.toInt = (sets 2).toInt) (k : Nat) (hk : (k : Int) ≤ (sets 2).toInt) : 0 ≤ (cellAt k).toInt ∧ (cellAt k).toInt ≤ 99 := h.2.2.1 k (by omega)
theorem cl1 {x : Int32} (h0 : 0 ≤ x.toInt) (h1 : x.toInt < 1000) : (x + 1).toNatClampNeg = x.toNatClampNeg + 1 := by
  have := i_add2 (a := x) (b := 1) rfl (y := 1) rfl (by omega) (by omega)
  rw [i_cl, i_cl, this]
  omega
theorem clm {x : Int32} (h0 : 0 ≤ x.toInt) (h1 : x.toInt < 1000) : ((x + 1) - 1).toNatClampNeg = x.toNatClampNeg := by
  have h2 := i_add2 (a := x) (b := 1) rfl (y := 1) rfl (by omega) (by omega)
  have := i_sub2 (a := x + 1) (b := 1) h2 (y := 1) rfl (by omega) (by omega)
  rw [i_cl, i_cl, this]
  omega
theorem WI_begin {sets code cellAt : Nat → Int32} {x : Int32} (h1 : 0 ≤ x.toInt) (h2 : x.toInt ≤ 99) (h3 : 0 ≤ (sets 2).toInt) : WI 0 sets (upd code 0 (-1)) (upd cellAt 0 x) := by
  have z : (0 : Int32).toInt = 0 := rfl
  refine ⟨by omega, by omega, fun j hj => ?_, fun j hj => ?_⟩
  · have : j = 0 := by omega
    subst this
    rw [upd_is]
    exact ⟨h1, h2⟩
  · have : j = 0 := by omega
    subst this
    rw [upd_is]
    decide
/-! A flight that is known. -/
def KnT (items cellAt : Nat → Int32) (f h : Int) : Prop := ∀ j : Nat, (j : Int) < h → (cellAt j).toInt = (items (f + j).toNat).toInt
def Kn (sets items : Nat → Int32) (f : Int) : Prop := ∀ j : Nat, (j : Int) ≤ (sets 2).toInt → 0 ≤ (items (f + j).toNat).toInt ∧ (items (f + j).toNat).toInt ≤ 99
theorem KnT_0 {items cellAt : Nat → Int32} {f : Int} : KnT items cellAt f (0 : Int) := fun j hj => by omega
theorem KnT_step {items cellAt : Nat → Int32} {f h h' : Int32} (k : KnT items cellAt f.toInt h.toInt) (h0 : 0 ≤ h.toInt) (hs : (f + h).toInt = f.toInt + h.toInt) (e : (cellAt h.toNatClampNeg).toInt = (items (f + h).toNatClampNeg).toInt) (e' : h'.toInt = h.toInt + 1) : KnT items cellAt f.toInt h'.toInt := by
  intro j hj
  by_cases hjh : (j : Int) = h.toInt
  · have e1 : h.toNatClampNeg = j := by
      rw [i_cl]
      omega
    have e2 : (f + h).toNatClampNeg = (f.toInt + j).toNat := by
      rw [i_cl, hs, hjh]
    rw [e1, e2] at e
    exact e
  · exact k j (by omega)
theorem Kn_of {lev : Int32} {sets code items cellAt : Nat → Int32} {f h : Int} (w : WI lev sets code cellAt) (hl : lev.toInt = (sets 2).toInt) (k : KnT items cellAt f h) (hh : (sets 2).toInt < h) : Kn sets items f := by
  intro j hj
  rw [← k j (by omega)]
  exact WI_cell w hl j hj
theorem Kn_at {sets items : Nat → Int32} {F : Int} {x : Int32} (k : Kn sets items F) (h0 : 0 ≤ F) (h1 : F ≤ x.toInt) (h2 : x.toInt ≤ F + (sets 2).toInt) : 0 ≤ (items x.toNatClampNeg).toInt ∧ (items x.toNatClampNeg).toInt ≤ 99 := by
  have := k (x.toInt - F).toNat (by omega)
  have e : (F + ((x.toInt - F).toNat : Int)).toNat = x.toNatClampNeg := by
    rw [i_cl]
    congr 1
    omega
  rw [e] at this
  exact this
theorem szs_upd {f : Nat → Int32} {k : Nat} {v : Int32} (h : ∀ j : Nat, j < 4 → 0 ≤ (f j).toInt ∧ (f j).toInt ≤ 16) (h1 : 0 ≤ v.toInt) (h2 : v.toInt ≤ 16) : ∀ j : Nat, j < 4 → 0 ≤ (upd f k v j).toInt ∧ (upd f k v j).toInt ≤ 16 := by
  intro j hj
  by_cases hk : j = k
  · rw [hk, upd_is]
    exact ⟨h1, h2⟩
  · rw [upd_no hk]
    exact h j hj
