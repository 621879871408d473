/-! What the constructors' loops leave. -/
theorem c_le {a b : Nat} (ha : a < 2147483648) (hb : b < 2147483648) : nI a ≤ nI b ↔ a ≤ b := nI_leI ha hb
theorem c_lt {a b : Nat} (ha : a < 2147483648) (hb : b < 2147483648) : nI a < nI b ↔ a < b := nI_ltI ha hb
def fil (i n : Nat) (x : Int32) (f : Nat → Int32) : Nat → Int32 := fun k => if i ≤ k ∧ k < n then x else f k
theorem fil_end (n : Nat) (x : Int32) (f : Nat → Int32) : fil n n x f = f := by
  funext k
  unfold fil
  rw [if_neg (by omega)]
theorem fil_step {i n : Nat} (h : i < n) (hn : n < 2147483648) (x : Int32) (f : Nat → Int32) : fil (i + 1) n x (upd f (nI i).toNatClampNeg x) = fil i n x f := by
  funext k
  rw [nI_clamp (by omega)]
  unfold fil upd
  by_cases h1 : k = i
  · subst h1
    rw [if_neg (by omega), if_pos rfl, if_pos (by omega)]
  · rw [if_neg h1]
    by_cases h2 : i + 1 ≤ k ∧ k < n
    · rw [if_pos h2, if_pos (by omega)]
    · rw [if_neg h2, if_neg (by omega)]
theorem okG {α : Type} {x : Option α} {P : α → Prop} (h : okP x P) : okP x P := h
theorem s_X1_forget_L2 (P : (Nat → Int32) → Prop) : ∀ (n i : Nat) (f : Nat → Int32), i ≤ 400 → 400 - i < n → P (fil i 400 (-1) f) → okP (f_X1_forget_L2 n (nI i) f) P := by
  intro n
  induction n with
  | zero => intro i f h1 h2; omega
  | succ n ih =>
    intro i f h1 h2 hp
    show okP (f_X1_forget_L2b (f_X1_forget_L2 n) (nI i) f) P
    unfold f_X1_forget_L2b
    refine ok_ite (fun h => ?_) (fun h => ?_)
    · have h : 400 ≤ i := (c_le (a := 400) (by omega) (by omega)).mp h
      have h : i = 400 := by omega
      subst h
      rw [fil_end] at hp
      exact ok_some hp
    · have h : ¬ 400 ≤ i := fun q => h ((c_le (a := 400) (by omega) (by omega)).mpr q)
      refine ok_chk (nI_in (by omega) (by omega)) (ok_nm ?_)
      rw [nI_1]
      exact ih (i + 1) _ (by omega) (by omega) (by rw [fil_step (by omega) (by omega)]; exact hp)
theorem FU_big : 2 ^ 60 < FU := by decide
theorem FU_gt {n : Nat} (h : n < 1000000000000) : n < FU := Nat.lt_trans (Nat.lt_trans h (by decide)) FU_big
theorem s_X1_forget (f : Nat → Int32) : okP (f_X1_forget f) (fun u => u = fil 0 400 (-1) f) := s_X1_forget_L2 _ FU 0 f (by omega) (FU_gt (by omega)) rfl
theorem t_X1_initB : okP (f_X1_initB (fun _ => 0)) (fun u => u = iKnown) := by
  unfold f_X1_initB
  refine ok_bd1 (s_X1_forget _) (fun a ha => ok_some ?_)
  rw [ha]
  funext k
  unfold fil iKnown
  by_cases h : k < 400
  · rw [if_pos (by omega), if_pos h]
  · rw [if_neg (by omega), if_neg h]
theorem bdI {x : Int32} {a b : Nat} (ha : a < 1000) (hb : b < 1000) (h : x = nI a - nI b) : x * x = nI (((a : Int) - (b : Int)).natAbs * ((a : Int) - (b : Int)).natAbs) := by
  have e1 : (nI a).toInt = a := nI_toInt (by omega)
  have e2 : (nI b).toInt = b := nI_toInt (by omega)
  have e3 : x.toInt = (a : Int) - b := by
    rw [h, i_sub (by rw [e1, e2]; omega) (by rw [e1, e2]; omega), e1, e2]
  generalize hd : ((a : Int) - (b : Int)) = z at e3 ⊢
  have hz : z.natAbs < 1000 := by omega
  have hm : z.natAbs * z.natAbs < 1000000 := by
    have := Nat.mul_le_mul (show z.natAbs ≤ 999 by omega) (show z.natAbs ≤ 999 by omega)
    omega
  have hs : (z.natAbs : Int) * (z.natAbs : Int) = z * z := Int.natAbs_mul_self
  have hm2 : ((z.natAbs * z.natAbs : Nat) : Int) = z * z := by rw [Int.natCast_mul]; exact hs
  apply Int32.toInt_inj.mp
  rw [nI_toInt (by omega), hm2, i_mul (by rw [e3]; omega) (by rw [e3]; omega), e3]
theorem s_wr_L2 (sq : Nat) (hsq : sq < 1000000) (P : Int32 → Prop) : ∀ (n r : Nat), r ≤ 100 → 100 - r < n → P (nI (rtF (100 - r) r sq)) → okP (f_X4_wholeRoot_L2 n (nI sq) (nI r)) P := by
  intro n
  induction n with
  | zero => intro r h1 h2; omega
  | succ n ih =>
    intro r h1 h2 hp
    show okP (f_X4_wholeRoot_L2b (f_X4_wholeRoot_L2 n) (nI sq) (nI r)) P
    unfold f_X4_wholeRoot_L2b
    have hq : (r + 1) * (r + 1) ≤ 10201 := by
      have := Nat.mul_le_mul (show r + 1 ≤ 101 by omega) (show r + 1 ≤ 101 by omega)
      omega
    rw [nI_1, pk_mul]
    refine ok_ite (fun h => ?_) (fun h => ?_)
    · have h : 100 ≤ r := (c_le (a := 100) (by omega) (by omega)).mp h
      have h : r = 100 := by omega
      subst h
      exact ok_some hp
    · have h : ¬ 100 ≤ r := fun q => h ((c_le (a := 100) (by omega) (by omega)).mpr q)
      have hr : 100 - r = (100 - (r + 1)) + 1 := by omega
      rw [hr] at hp
      refine ok_ite (fun g => ?_) (fun g => ?_)
      · have g : sq < (r + 1) * (r + 1) := (c_lt (by omega) (by omega)).mp g
        unfold rtF at hp
        rw [if_pos g] at hp
        exact ok_some hp
      · have g : ¬ sq < (r + 1) * (r + 1) := fun q => g ((c_lt (by omega) (by omega)).mpr q)
        unfold rtF at hp
        rw [if_neg g] at hp
        exact ok_nm (ih (r + 1) (by omega) (by omega) hp)
theorem s_wr (sq : Nat) (hsq : sq < 1000000) : okP (f_X4_wholeRoot (nI sq)) (fun r => r = nI (rt sq)) := s_wr_L2 sq hsq _ FU 0 (by omega) (FU_gt (by omega)) rfl
theorem dmod {a : Nat} (ha : a < 1000) : nI a - nI a / 10 * 10 = nI (a % 10) := pk_rem (d := 10) (by omega) (by omega) (by omega)
theorem ddiv {a : Nat} (ha : a < 1000) : nI a / 10 = nI (a / 10) := pk_div (d := 10) (by omega) (by omega) (by omega)
theorem sqd_lt {e k : Nat} (he : e < 100) (hk : k < 100) : sqd e k < 1000 := by
  unfold sqd
  have h1 : (((k / 10 : Nat) : Int) - ((e / 10 : Nat) : Int)).natAbs ≤ 9 := by omega
  have h2 : (((k % 10 : Nat) : Int) - ((e % 10 : Nat) : Int)).natAbs ≤ 9 := by omega
  have := Nat.mul_le_mul h1 h1
  have := Nat.mul_le_mul h2 h2
  omega
def look (e i : Nat) (f : Nat → Int32) : Nat → Int32 := fun k => if i ≤ k ∧ k < 100 then nI (rt (sqd e k)) else f k
theorem look_end (e : Nat) (f : Nat → Int32) : look e 100 f = f := by
  funext k
  unfold look
  rw [if_neg (by omega)]
theorem look_step {e i : Nat} (h : i < 100) (f : Nat → Int32) : look e (i + 1) (upd f (nI i).toNatClampNeg (nI (rt (sqd e i)))) = look e i f := by
  funext k
  rw [nI_clamp (by omega)]
  unfold look upd
  by_cases h1 : k = i
  · subst h1
    rw [if_neg (by omega), if_pos rfl, if_pos (by omega)]
  · rw [if_neg h1]
    by_cases h2 : i + 1 ≤ k ∧ k < 100
    · rw [if_pos h2, if_pos (by omega)]
    · rw [if_neg h2, if_neg (by omega)]
theorem s_look_L9 (e : Nat) (he : e < 100) (g : Nat → Int32) (P : (Nat → Int32) → Prop) : ∀ (n i : Nat) (f : Nat → Int32), i ≤ 100 → 100 - i < n → P (look e i f) → okP (f_X4_look_L9 n (nI e) (nI i) g f) P := by
  intro n
  induction n with
  | zero => intro i f h1 h2; omega
  | succ n ih =>
    intro i f h1 h2 hp
    show okP (f_X4_look_L9b (f_X4_look_L9 n) (nI e) (nI i) g f) P
    unfold f_X4_look_L9b
    refine ok_ite (fun h => ?_) (fun h => ?_)
    · have h : 100 ≤ i := (c_le (a := 100) (by omega) (by omega)).mp h
      have h : i = 100 := by omega
      subst h
      rw [look_end] at hp
      exact ok_some hp
    · have h : ¬ 100 ≤ i := fun q => h ((c_le (a := 100) (by omega) (by omega)).mpr q)
      refine ok_nmx (fun x hx => ok_nmx (fun y hy => ?_))
      rw [ddiv (by omega), ddiv (by omega)] at hx
      rw [dmod (by omega), dmod (by omega)] at hy
      have hv : (4 : Int32) * (x * x + y * y) = nI (sqd e i) := by
        rw [bdI (by omega) (by omega) hx, bdI (by omega) (by omega) hy, nI_add]
        exact pk_mul 4 _
      rw [hv]
      refine ok_bd1 (s_wr _ (Nat.lt_trans (sqd_lt he (by omega)) (by omega))) (fun r hr => ?_)
      refine ok_chk (nI_in (by omega) (by omega)) (ok_nm ?_)
      rw [nI_1, hr]
      exact ih (i + 1) _ (by omega) (by omega) (by rw [look_step (by omega)]; exact hp)
theorem s_look (e : Nat) (he : e < 100) (g f : Nat → Int32) (hg : g 0 = nI e) : okP (f_X4_look g f) (fun u => u = look e 0 f) := by
  unfold f_X4_look
  refine ok_nmx (fun x hx => ?_)
  rw [hx, hg]
  exact s_look_L9 e he g _ FU 0 f (by omega) (FU_gt (by omega)) rfl
theorem t4_L204 (P : (Nat → Int32) × (Nat → Int32) × (Nat → Int32) × (Nat → Int32) → Prop) (hF cU fA : Nat → Int32) : ∀ (n i : Nat) (f : Nat → Int32), i ≤ 100 → 100 - i < n → P (hF, cU, fil i 100 1 f, look 0 0 fA) → okP (f_X4_initB_L204 n (nI i) iSet hF cU f fA) P := by
  intro n
  induction n with
  | zero => intro i f h1 h2; omega
  | succ n ih =>
    intro i f h1 h2 hp
    show okP (f_X4_initB_L204b (f_X4_initB_L204 n) (nI i) iSet hF cU f fA) P
    unfold f_X4_initB_L204b
    refine ok_ite (fun h => ?_) (fun h => ?_)
    · have h : 100 ≤ i := (c_le (a := 100) (by omega) (by omega)).mp h
      have h : i = 100 := by omega
      subst h
      rw [fil_end] at hp
      refine ok_bd1 (s_look 0 (by omega) iSet fA rfl) (fun w hw => ok_some ?_)
      rw [hw]
      exact hp
    · have h : ¬ 100 ≤ i := fun q => h ((c_le (a := 100) (by omega) (by omega)).mpr q)
      refine ok_chk (nI_in (by omega) (by omega)) (ok_nm ?_)
      rw [nI_1]
      exact ih (i + 1) _ (by omega) (by omega) (by rw [fil_step (by omega) (by omega)]; exact hp)
theorem t4_L181 (P : (Nat → Int32) × (Nat → Int32) × (Nat → Int32) × (Nat → Int32) → Prop) (hF dE fA : Nat → Int32) : ∀ (n i : Nat) (f : Nat → Int32), i ≤ 200 → 200 - i < n → P (hF, fil i 200 8 f, fil 0 100 1 dE, look 0 0 fA) → okP (f_X4_initB_L181 n (nI i) iSet hF f dE fA) P := by
  intro n
  induction n with
  | zero => intro i f h1 h2; omega
  | succ n ih =>
    intro i f h1 h2 hp
    show okP (f_X4_initB_L181b (f_X4_initB_L181 n) (nI i) iSet hF f dE fA) P
    unfold f_X4_initB_L181b
    refine ok_ite (fun h => ?_) (fun h => ?_)
    · have h : 200 ≤ i := (c_le (a := 200) (by omega) (by omega)).mp h
      have h : i = 200 := by omega
      subst h
      rw [fil_end] at hp
      exact t4_L204 P hF f fA FU 0 dE (by omega) (FU_gt (by omega)) hp
    · have h : ¬ 200 ≤ i := fun q => h ((c_le (a := 200) (by omega) (by omega)).mpr q)
      refine ok_chk (nI_in (by omega) (by omega)) (ok_nm ?_)
      rw [nI_1]
      exact ih (i + 1) _ (by omega) (by omega) (by rw [fil_step (by omega) (by omega)]; exact hp)
theorem t4_L160 (P : (Nat → Int32) × (Nat → Int32) × (Nat → Int32) × (Nat → Int32) → Prop) (cU dE fA : Nat → Int32) : ∀ (n i : Nat) (f : Nat → Int32), i ≤ 7 → 7 - i < n → P (fil i 7 (-1) f, fil 0 200 8 cU, fil 0 100 1 dE, look 0 0 fA) → okP (f_X4_initB_L160 n (nI i) iSet f cU dE fA) P := by
  intro n
  induction n with
  | zero => intro i f h1 h2; omega
  | succ n ih =>
    intro i f h1 h2 hp
    show okP (f_X4_initB_L160b (f_X4_initB_L160 n) (nI i) iSet f cU dE fA) P
    unfold f_X4_initB_L160b
    refine ok_ite (fun h => ?_) (fun h => ?_)
    · have h : 6 < i := (c_lt (a := 6) (by omega) (by omega)).mp h
      have h : i = 7 := by omega
      subst h
      rw [fil_end] at hp
      exact t4_L181 P f dE fA FU 0 cU (by omega) (FU_gt (by omega)) hp
    · have h : ¬ 6 < i := fun q => h ((c_lt (a := 6) (by omega) (by omega)).mpr q)
      refine ok_chk (nI_in (by omega) (by omega)) (ok_nm ?_)
      rw [nI_1]
      exact ih (i + 1) _ (by omega) (by omega) (by rw [fil_step (by omega) (by omega)]; exact hp)
theorem fil0 (n : Nat) (x : Int32) : fil 0 n x (fun _ => 0) = fun k => if k < n then x else 0 := by
  funext k
  unfold fil
  by_cases h : k < n
  · rw [if_pos ⟨Nat.zero_le _, h⟩, if_pos h]
  · rw [if_neg (fun q => h q.2), if_neg h]
theorem t_X4_initB : okP (f_X4_initB iSet (fun _ => 0) (fun _ => 0) (fun _ => 0) (fun _ => 0)) (fun u => u = (iFar7, iCur, iDep, iFars)) := by
  unfold f_X4_initB
  refine t4_L160 _ _ _ _ FU 0 _ (by omega) (FU_gt (by omega)) ?_
  rw [fil0, fil0, fil0]
  rfl
theorem t7_L292 (P : (Nat → Int32) × (Nat → Int32) × (Nat → Int32) × (Nat → Int32) × (Nat → Int32) → Prop) (sE cU dE lA : Nat → Int32) : ∀ (n i : Nat) (f : Nat → Int32), i ≤ 7 → 7 - i < n → P (upd (upd (upd (upd (upd sE 2 6) 3 1) 5 60) 6 1) 7 8, fil i 7 (-1) f, cU, dE, lA) → okP (f_X7_initB_L292 n (nI i) sE f cU dE lA) P := by
  intro n
  induction n with
  | zero => intro i f h1 h2; omega
  | succ n ih =>
    intro i f h1 h2 hp
    show okP (f_X7_initB_L292b (f_X7_initB_L292 n) (nI i) sE f cU dE lA) P
    unfold f_X7_initB_L292b
    refine ok_ite (fun h => ?_) (fun h => ?_)
    · have h : 7 ≤ i := (c_le (a := 7) (by omega) (by omega)).mp h
      have h : i = 7 := by omega
      subst h
      rw [fil_end] at hp
      exact ok_some hp
    · have h : ¬ 7 ≤ i := fun q => h ((c_le (a := 7) (by omega) (by omega)).mpr q)
      refine ok_chk (nI_in (by omega) (by omega)) (ok_nm ?_)
      rw [nI_1]
      exact ih (i + 1) _ (by omega) (by omega) (by rw [fil_step (by omega) (by omega)]; exact hp)
/-- the second loop of the model's constructor: depths are written twice -/
def fil2 (i : Nat) (f : Nat → Int32) : Nat → Int32 := fun k => if k < 100 ∧ (i ≤ k ∨ i ≤ k + 100 ∧ i ≤ 199 + 1) then 1 else f k
theorem t7_L259 (P : (Nat → Int32) × (Nat → Int32) × (Nat → Int32) × (Nat → Int32) × (Nat → Int32) → Prop) (sE rF lA : Nat → Int32) : ∀ (n i : Nat) (f g : Nat → Int32), i ≤ 200 → 200 - i < n → (∀ k, (k < i ∧ k < 100 → g k = 1) ∧ (100 ≤ k → g k = 0)) → P (upd (upd (upd (upd (upd sE 2 6) 3 1) 5 60) 6 1) 7 8, fil 0 7 (-1) rF, fil i 200 8 f, iDep, lA) → okP (f_X7_initB_L259 n (nI i) sE rF f g lA) P := by
  intro n
  induction n with
  | zero => intro i f g h1 h2; omega
  | succ n ih =>
    intro i f g h1 h2 hg hp
    show okP (f_X7_initB_L259b (f_X7_initB_L259 n) (nI i) sE rF f g lA) P
    unfold f_X7_initB_L259b
    refine ok_ite (fun h => ?_) (fun h => ?_)
    · have h : 200 ≤ i := (c_le (a := 200) (by omega) (by omega)).mp h
      have h : i = 200 := by omega
      subst h
      rw [fil_end] at hp
      have hgd : g = iDep := by
        funext k
        unfold iDep
        by_cases hk : k < 100
        · rw [if_pos hk]; exact (hg k).1 ⟨by omega, hk⟩
        · rw [if_neg hk]; exact (hg k).2 (by omega)
      rw [hgd]
      exact t7_L292 P sE f iDep lA FU 0 rF (by omega) (FU_gt (by omega)) hp
    · have h : ¬ 200 ≤ i := fun q => h ((c_le (a := 200) (by omega) (by omega)).mpr q)
      have hr : nI i - nI i / 100 * 100 = nI (i % 100) := pk_rem (d := 100) (by omega) (by omega) (by omega)
      rw [hr]
      refine ok_chk (nI_in (by omega) (by omega)) (ok_chk (nI_in (by omega) (by omega)) (ok_nm ?_))
      rw [nI_1, nI_clamp (n := i % 100) (by omega)]
      refine ih (i + 1) _ _ (by omega) (by omega) (fun k => ⟨fun hk => ?_, fun hk => ?_⟩) (by rw [fil_step (by omega) (by omega)]; exact hp)
      · unfold upd
        by_cases hki : k = i % 100
        · rw [if_pos hki]
        · rw [if_neg hki]
          exact (hg k).1 ⟨by omega, hk.2⟩
      · unfold upd
        rw [if_neg (by omega)]
        exact (hg k).2 hk
theorem t7_L239 (P : (Nat → Int32) × (Nat → Int32) × (Nat → Int32) × (Nat → Int32) × (Nat → Int32) → Prop) (sE rF cU : Nat → Int32) : ∀ (n i : Nat) (f : Nat → Int32), i ≤ 4 → 4 - i < n → P (upd (upd (upd (upd (upd sE 2 6) 3 1) 5 60) 6 1) 7 8, fil 0 7 (-1) rF, fil 0 200 8 cU, iDep, fil i 4 (-1) f) → okP (f_X7_initB_L239 n (nI i) sE rF cU (fun _ => 0) f) P := by
  intro n
  induction n with
  | zero => intro i f h1 h2; omega
  | succ n ih =>
    intro i f h1 h2 hp
    show okP (f_X7_initB_L239b (f_X7_initB_L239 n) (nI i) sE rF cU (fun _ => 0) f) P
    unfold f_X7_initB_L239b
    refine ok_ite (fun h => ?_) (fun h => ?_)
    · have h : 4 ≤ i := (c_le (a := 4) (by omega) (by omega)).mp h
      have h : i = 4 := by omega
      subst h
      rw [fil_end] at hp
      exact t7_L259 P sE rF f FU 0 cU _ (by omega) (FU_gt (by omega)) (fun k => ⟨fun hk => by omega, fun _ => rfl⟩) hp
    · have h : ¬ 4 ≤ i := fun q => h ((c_le (a := 4) (by omega) (by omega)).mpr q)
      refine ok_chk (nI_in (by omega) (by omega)) (ok_nm ?_)
      rw [nI_1]
      exact ih (i + 1) _ (by omega) (by omega) (by rw [fil_step (by omega) (by omega)]; exact hp)
theorem t_X7_initB : okP (f_X7_initB (fun _ => 0) (fun _ => 0) (fun _ => 0) (fun _ => 0) (fun _ => 0)) (fun u => u = (jSet, jFar7, iCur, iDep, jLan)) := by
  unfold f_X7_initB
  refine t7_L239 _ _ _ _ FU 0 _ (by omega) (FU_gt (by omega)) ?_
  rw [fil0, fil0, fil0]
  rfl
