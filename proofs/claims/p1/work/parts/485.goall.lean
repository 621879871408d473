/-! All ways of a fresh object: what the first keeps of them. -/
def allF {α : Type} (F : Int → Int → Int → Int → List α) : Nat → Int → List α
  | 0, _ => []
  | n + 1, f => F 0 (f / 3) (f % 3 + 1) 0 ++ allF F n (f + 1)
def WE : List (Int × Int × Int) := allF (flyE 6) 24 0
def WS : List (Int × Int) := allF (flyS 6) 24 0
def WP : List (List Int × Int) := allF (flyP 6) 24 0
def lenE (j : Nat) : Nat := (flyE 6 0 ((j : Int) / 3) ((j : Int) % 3 + 1) 0).length
theorem WE_len : WE.length = 89 := by decide +kernel
theorem len_oth {α β : Type} {F : Int → Int → Int → Int → List α} {G : Int → Int → Int → Int → List β} (h : ∀ c k p t, (F c k p t).length = (G c k p t).length) (c k p t : Int) : ∀ (n : Nat) (o : Int), (othF F c k p t n o).length = (othF G c k p t n o).length := by
  intro n
  induction n with
  | zero => intro o; rfl
  | succ n ih =>
    intro o
    show ((if o = k then [] else F c o p (t + 1)) ++ othF F c k p t n (o + 1)).length = ((if o = k then [] else G c o p (t + 1)) ++ othF G c k p t n (o + 1)).length
    rw [List.length_append, List.length_append, ih]
    by_cases ho : o = k
    · rw [if_pos ho, if_pos ho]
      rfl
    · rw [if_neg ho, if_neg ho, h]
theorem len_ch {α β : Type} {F : Int → Int → Int → Int → List α} {G : Int → Int → Int → Int → List β} (h : ∀ c k p t, (F c k p t).length = (G c k p t).length) (c k p t : Int) : (chF F c k p t).length = (chF G c k p t).length := by
  unfold chF
  rw [List.length_append, List.length_append, h]
  by_cases ht : t < 1
  · rw [if_pos ht, if_pos ht, len_oth h]
  · rw [if_neg ht, if_neg ht]
    rfl
theorem len_EP : ∀ (m : Nat) (c k p t : Int), (flyE m c k p t).length = (flyP m c k p t).length := by
  intro m
  induction m with
  | zero => intro c k p t; rfl
  | succ m ih =>
    intro c k p t
    show (if gI c k p = -1 then [] else if m = 0 then [(gI c k p, k, t)] else chF (flyE m) (gI c k p) k p t).length = (if gI c k p = -1 then [] else if m = 0 then [([gI c k p], t)] else (chF (flyP m) (gI c k p) k p t).map (fun it => (gI c k p :: it.1, it.2))).length
    by_cases h1 : gI c k p = -1
    · rw [if_pos h1, if_pos h1]
      rfl
    · rw [if_neg h1, if_neg h1]
      by_cases h2 : m = 0
      · rw [if_pos h2, if_pos h2]
        rfl
      · rw [if_neg h2, if_neg h2, List.length_map, len_ch ih]
theorem zL (k : Nat) : vp_updL (fun _ => 0) k 0 = (fun _ => 0) := by
  funext j
  unfold vp_updL
  by_cases h : j = k
  · rw [if_pos h]
  · rw [if_neg h]
theorem zI (k : Nat) : upd (fun _ => 0) k 0 = (fun _ => 0) := by
  funext j
  unfold upd
  by_cases h : j = k
  · rw [if_pos h]
  · rw [if_neg h]
set_option maxHeartbeats 4000000 in
theorem e_go64 (fuel : Int32) (hf to on fa : Nat → Int32) (fu0 : 54 ≤ fuel.toInt) (fu1 : fuel.toInt ≤ 60) (hR : RNone hf to on) : ∀ (f : Nat) (v1 count : Int32) (ws : Int64) (fn fw ft fs : Int32) (ca : Nat → Int32) (en : Nat → Int64) (se be : Nat → Int32), (24 - v1.toInt).toNat < f → 0 ≤ v1.toInt → v1.toInt ≤ 24 → ca 0 = 0 → 0 ≤ count.toInt → count.toInt + ((allF (flyE 6) (24 - v1.toInt).toNat v1.toInt).length : Int) ≤ 100000 → 1 ≤ count.toInt + ((allF (flyE 6) (24 - v1.toInt).toNat v1.toInt).length : Int) → okP (f_X5_goAll_L64 f v1 6 1 0 fuel 1 count ws (-1) fn fw ft fs hf to on fa ca en se be) (fun u => u.1.toInt = count.toInt + ((allF (flyE 6) (24 - v1.toInt).toNat v1.toInt).length : Int) ∧ u.2.1 = (allF (flyE 6) (24 - v1.toInt).toNat v1.toInt).foldl wsU ws ∧ u.2.2.1 = -1 ∧ u.2.2.2.1 = fn ∧ u.2.2.2.2.2.2.2.1 0 = 0 ∧ u.2.2.2.2.2.2.2.2.1 = (allF (flyE 6) (24 - v1.toInt).toNat v1.toInt).foldl arrU en ∧ u.2.2.2.2.2.2.2.2.2.1 = seeU ((allF (flyS 6) (24 - v1.toInt).toNat v1.toInt).foldl seeU se) (0, 0) ∧ (∀ j : Nat, j < 24 → v1.toInt ≤ (j : Int) → (u.2.2.2.2.2.2.2.2.2.2 j).toInt = (lenE j : Int)) ∧ (∀ j : Nat, (j : Int) < v1.toInt → u.2.2.2.2.2.2.2.2.2.2 j = be j)) := by
  intro f
  induction f with
  | zero =>
    intro v1 count ws fn fw ft fs ca en se be hm
    exact absurd hm (Nat.not_lt_zero _)
  | succ f ih =>
    intro v1 count ws fn fw ft fs ca en se be hm v0 v24 hca n0 n1 n2
    show okP (f_X5_goAll_L64b (f_X5_goAll_L64 f) v1 6 1 0 fuel 1 count ws (-1) fn fw ft fs hf to on fa ca en se be) _
    unfold f_X5_goAll_L64b
    refine ok_ite (fun a => ?_) (fun a => ?_)
    · have a1 : (24 : Int) ≤ v1.toInt := i_le.mp a
      have e0 : (24 - v1.toInt).toNat = 0 := by omega
      rw [e0] at n1 n2 ⊢
      have n2 : 1 ≤ count.toInt + 0 := n2
      refine ok_ite (fun b => ?_) (fun b => ?_)
      · have : count.toInt ≤ (0 : Int) := i_le.mp b
        omega
      · rw [hca]
        refine ok_bd1 (e_see1 0 0 se (by decide) (by decide) (by decide) (by decide)) (fun s1 qs => ?_)
        replace qs : s1 = seeU se (0, 0) := qs
        exact ok_some ⟨by show count.toInt = count.toInt + 0; omega, rfl, rfl, rfl, hca, rfl, qs, fun j h1 h2 => by omega, fun _ _ => rfl⟩
    · have a1 : ¬ (24 : Int) ≤ v1.toInt := fun z => a (i_le.mpr z)
      obtain ⟨n', hn', hn2⟩ : ∃ n' : Nat, (24 - v1.toInt).toNat = n' + 1 ∧ (24 - (v1.toInt + 1)).toNat = n' := ⟨(24 - (v1.toInt + 1)).toNat, by omega, rfl⟩
      have f1 : (v1 / 3).toInt = v1.toInt / (3 : Int) := i_div2 rfl rfl (by omega) (by omega)
      have f2 : (v1 - v1 / 3 * 3).toInt = v1.toInt % (3 : Int) := i_rem2 rfl rfl (by omega) (by omega)
      have f3 : ((v1 - v1 / 3 * 3) + 1).toInt = (v1 - v1 / 3 * 3).toInt + (1 : Int) := i_add2 rfl rfl (by omega) (by omega)
      have f4 : (v1 + 1).toInt = v1.toInt + (1 : Int) := i_add2 rfl rfl (by omega) (by omega)
      have cv : (v1.toNatClampNeg : Int) = v1.toInt := clI v0
      rw [hn'] at n1 n2 ⊢
      have eE : allF (flyE 6) (n' + 1) v1.toInt = flyE 6 0 (v1.toInt / 3) (v1.toInt % 3 + 1) 0 ++ allF (flyE 6) n' (v1.toInt + 1) := rfl
      have eS : allF (flyS 6) (n' + 1) v1.toInt = flyS 6 0 (v1.toInt / 3) (v1.toInt % 3 + 1) 0 ++ allF (flyS 6) n' (v1.toInt + 1) := rfl
      rw [eE, List.length_append] at n1 n2
      rw [eE, eS]
      have z0 : (0 : Int32).toNatClampNeg = 0 := by decide
      have hh := flyN 8 6 0 (v1 / 3) ((v1 - v1 / 3 * 3) + 1) 0 fuel count ws fw ft fs hf to on fa ca en se (by decide) (by omega) (by decide) (by decide) (by omega) (by omega) (by omega) (by omega) (Or.inl rfl) (by omega) fu1 hR (by rw [z0, hca]; decide) (by rw [z0, hca]; decide) n0
      rw [z0, hca, f1, f3, f2] at hh
      refine ok_bd9 (hh (by show count.toInt + ((flyE 6 0 (v1.toInt / 3) (v1.toInt % 3 + 1) 0).length : Int) ≤ 100000; omega)) (fun w1 w2 w3 w4 w5 w6 w7 w8 w9 q => ?_)
      obtain ⟨q1, q2, q3, q4, q5, q6⟩ := q
      have r1 : w1.toInt = count.toInt + ((flyE 6 0 (v1.toInt / 3) (v1.toInt % 3 + 1) 0).length : Int) := q1
      have r2 : w2 = (flyE 6 0 (v1.toInt / 3) (v1.toInt % 3 + 1) 0).foldl wsU ws := q2
      have r3 : w3 = -1 := q3
      have p4 : w7 0 = ca 0 := q4 0 (by decide)
      clear q4
      have r5 : w8 = (flyE 6 0 (v1.toInt / 3) (v1.toInt % 3 + 1) 0).foldl arrU en := q5
      have r6 : w9 = (flyS 6 0 (v1.toInt / 3) (v1.toInt % 3 + 1) 0).foldl seeU se := q6
      clear q1 q2 q3 q5 q6
      subst r3
      have g1 : (w1 - count).toInt = w1.toInt - count.toInt := i_sub2 rfl rfl (by omega) (by omega)
      refine ok_nmi (fun b hb kb => ?_)
      refine ok_chk (ix (by omega) (by omega)) ?_
      refine ok_nmi (fun x hx kx => ?_)
      have kx2 : x.toInt = v1.toInt + 1 := by omega
      have i1 := ih x w1 w2 fn w4 w5 w6 w7 w8 w9 (upd be v1.toNatClampNeg b) (by omega) (by omega) (by omega) (by rw [p4, hca]) (by omega)
      rw [kx2, hn2] at i1
      refine ok_mono (i1 (by omega) (by omega)) (fun u hu => ?_)
      obtain ⟨y1, y2, y3, y4, y5, y6, y7, y8, y9⟩ := hu
      refine ⟨?_, ?_, y3, y4, y5, ?_, ?_, ?_, ?_⟩
      · rw [y1, List.length_append]
        omega
      · rw [y2, r2, List.foldl_append]
      · rw [y6, r5, List.foldl_append]
      · rw [y7, r6, List.foldl_append]
      · intro j hj1 hj2
        by_cases hj : (j : Int) = v1.toInt
        · rw [y9 j (by omega), show j = v1.toNatClampNeg by omega, upd_is]
          unfold lenE
          rw [cv]
          omega
        · exact y8 j hj1 (by omega)
      · intro j hj
        rw [y9 j (by omega), upd_no (by omega)]
set_option maxHeartbeats 4000000 in
theorem e_goAll (fuel count : Int32) (ws : Int64) (tp fn fw ft fs : Int32) (hf to on fa ca : Nat → Int32) (be : Nat → Int32) (fu0 : 54 ≤ fuel.toInt) (fu1 : fuel.toInt ≤ 60) (hR : RNone hf to on) (hca : ca 0 = 0) : okP (f_X5_goAll 6 1 0 fuel 1 count ws tp fn fw ft fs hf to on fa ca (fun _ => 0) (fun _ => 0) be) (fun u => u.1.toInt = 89 ∧ u.2.1 = WE.foldl wsU 0 ∧ u.2.2.1 = -1 ∧ u.2.2.2.1 = -1 ∧ u.2.2.2.2.2.2.2.1 0 = 0 ∧ u.2.2.2.2.2.2.2.2.1 = WE.foldl arrU (fun _ => 0) ∧ u.2.2.2.2.2.2.2.2.2.1 = seeU (WS.foldl seeU (fun _ => 0)) (0, 0) ∧ (∀ j : Nat, j < 24 → (u.2.2.2.2.2.2.2.2.2.2 j).toInt = (lenE j : Int))) := by
  have h64 := e_go64 fuel hf to on fa fu0 fu1 hR FU 0 0 0 (-1) fw ft fs ca (fun _ => 0) (fun _ => 0) be (FU_gt (by decide)) (by decide) (by decide) hca (by decide)
  have hn : ((allF (flyE 6) (24 - (0 : Int32).toInt).toNat (0 : Int32).toInt).length : Int) = 89 := by
    show ((WE.length : Nat) : Int) = 89
    rw [WE_len]
    rfl
  rw [hn] at h64
  replace h64 := h64 (by decide) (by decide)
  have h3 : okP (f_X5_goAll_L64 FU 0 6 1 0 fuel 1 0 0 (-1) (-1) fw ft fs hf to on fa ca (fun _ => 0) (fun _ => 0) be) (fun u => u.1.toInt = 89 ∧ u.2.1 = WE.foldl wsU 0 ∧ u.2.2.1 = -1 ∧ u.2.2.2.1 = -1 ∧ u.2.2.2.2.2.2.2.1 0 = 0 ∧ u.2.2.2.2.2.2.2.2.1 = WE.foldl arrU (fun _ => 0) ∧ u.2.2.2.2.2.2.2.2.2.1 = seeU (WS.foldl seeU (fun _ => 0)) (0, 0) ∧ (∀ j : Nat, j < 24 → (u.2.2.2.2.2.2.2.2.2.2 j).toInt = (lenE j : Int))) := by
    refine ok_mono h64 (fun u hu => ?_)
    obtain ⟨y1, y2, y3, y4, y5, y6, y7, y8, y9⟩ := hu
    refine ⟨?_, y2, y3, y4, y5, y6, y7, fun j hj => y8 j hj (by have : (0 : Int32).toInt = 0 := rfl; omega)⟩
    rw [y1]
    rfl
  clear h64 hn
  have h43 : ∀ (f : Nat) (v : Int32), (70 - v.toInt).toNat < f → 0 ≤ v.toInt → v.toInt ≤ 70 → okP (f_X5_goAll_L43 f v 6 1 0 fuel 1 0 0 (-1) (-1) fw ft fs hf to on fa ca (fun _ => 0) (fun _ => 0) be) (fun u => u.1.toInt = 89 ∧ u.2.1 = WE.foldl wsU 0 ∧ u.2.2.1 = -1 ∧ u.2.2.2.1 = -1 ∧ u.2.2.2.2.2.2.2.1 0 = 0 ∧ u.2.2.2.2.2.2.2.2.1 = WE.foldl arrU (fun _ => 0) ∧ u.2.2.2.2.2.2.2.2.2.1 = seeU (WS.foldl seeU (fun _ => 0)) (0, 0) ∧ (∀ j : Nat, j < 24 → (u.2.2.2.2.2.2.2.2.2.2 j).toInt = (lenE j : Int))) := by
    intro f
    induction f with
    | zero =>
      intro v hm
      exact absurd hm (Nat.not_lt_zero _)
    | succ f ih =>
      intro v hm v0 v1
      show okP (f_X5_goAll_L43b (f_X5_goAll_L43 f) v 6 1 0 fuel 1 0 0 (-1) (-1) fw ft fs hf to on fa ca (fun _ => 0) (fun _ => 0) be) _
      unfold f_X5_goAll_L43b
      refine ok_ite (fun _ => h3) (fun a => ?_)
      have a1 : ¬ (70 : Int) ≤ v.toInt := fun z => a (i_le.mpr z)
      have fv : (v + 1).toInt = v.toInt + (1 : Int) := i_add2 rfl rfl (by omega) (by omega)
      refine ok_chk (ix (by omega) (by omega)) ?_
      refine ok_nmi (fun x hx kx => ?_)
      rw [zI]
      exact ih x (by omega) (by omega) (by omega)
  have h22 : ∀ (f : Nat) (v : Int32), (100 - v.toInt).toNat < f → 0 ≤ v.toInt → v.toInt ≤ 100 → okP (f_X5_goAll_L22 f v 6 1 0 fuel 1 0 0 (-1) (-1) fw ft fs hf to on fa ca (fun _ => 0) (fun _ => 0) be) (fun u => u.1.toInt = 89 ∧ u.2.1 = WE.foldl wsU 0 ∧ u.2.2.1 = -1 ∧ u.2.2.2.1 = -1 ∧ u.2.2.2.2.2.2.2.1 0 = 0 ∧ u.2.2.2.2.2.2.2.2.1 = WE.foldl arrU (fun _ => 0) ∧ u.2.2.2.2.2.2.2.2.2.1 = seeU (WS.foldl seeU (fun _ => 0)) (0, 0) ∧ (∀ j : Nat, j < 24 → (u.2.2.2.2.2.2.2.2.2.2 j).toInt = (lenE j : Int))) := by
    intro f
    induction f with
    | zero =>
      intro v hm
      exact absurd hm (Nat.not_lt_zero _)
    | succ f ih =>
      intro v hm v0 v1
      show okP (f_X5_goAll_L22b (f_X5_goAll_L22 f) v 6 1 0 fuel 1 0 0 (-1) (-1) fw ft fs hf to on fa ca (fun _ => 0) (fun _ => 0) be) _
      unfold f_X5_goAll_L22b
      refine ok_ite (fun _ => h43 FU 0 (FU_gt (by decide)) (by decide) (by decide)) (fun a => ?_)
      have a1 : ¬ (100 : Int) ≤ v.toInt := fun z => a (i_le.mpr z)
      have fv : (v + 1).toInt = v.toInt + (1 : Int) := i_add2 rfl rfl (by omega) (by omega)
      refine ok_chk (ix (by omega) (by omega)) ?_
      refine ok_nmi (fun x hx kx => ?_)
      rw [zL]
      exact ih x (by omega) (by omega) (by omega)
  unfold f_X5_goAll
  exact h22 FU 0 (FU_gt (by decide)) (by decide) (by decide)
set_option maxHeartbeats 4000000 in
theorem e_find1 (x1 fuel count : Int32) (ws : Int64) (tp fw ft fs : Int32) (hf to on fa ca : Nat → Int32) (en : Nat → Int64) (se be : Nat → Int32) (fu0 : 54 ≤ fuel.toInt) (fu1 : fuel.toInt ≤ 60) (hR : RNone hf to on) (hca : ca 0 = 0) (hn : count.toInt = 89) (hb : ∀ j : Nat, j < 24 → (be j).toInt = (lenE j : Int)) : okP (f_X5_find x1 6 1 0 fuel 1 count ws tp (-1) fw ft fs hf to on fa ca en se be) (fun u => ((0 ≤ x1.toInt ∧ x1.toInt < 89) ∧ u.1 = 1 ∧ ∃ it, WP[x1.toInt.toNat]? = some it ∧ u.2.2.2.2.2.1 = wt it.2 ∧ u.2.2.2.2.2.2.1.toInt = it.2 ∧ u.2.2.2.2.2.2.2.1 = 0 ∧ u.2.2.2.2.2.2.2.2.1 0 = 0 ∧ PathAt 0 it.1 u.2.2.2.2.2.2.2.2.1) ∨ (¬ (0 ≤ x1.toInt ∧ x1.toInt < 89) ∧ u.1 = 0)) := by
  have hl : ∀ (f : Nat) (v2 v3 : Int32), (24 - v3.toInt).toNat < f → 0 ≤ v3.toInt → v3.toInt ≤ 24 → 0 ≤ v2.toInt → v2.toInt < ((allF (flyP 6) (24 - v3.toInt).toNat v3.toInt).length : Int) → okP (f_X5_find_L33 f x1 v2 v3 6 1 0 fuel 1 count ws tp (-1) fw ft fs hf to on fa ca en se be) (fun u => u.1 = 1 ∧ ∃ it, (allF (flyP 6) (24 - v3.toInt).toNat v3.toInt)[v2.toInt.toNat]? = some it ∧ u.2.2.2.2.2.1 = wt it.2 ∧ u.2.2.2.2.2.2.1.toInt = it.2 ∧ u.2.2.2.2.2.2.2.1 = 0 ∧ u.2.2.2.2.2.2.2.2.1 0 = 0 ∧ PathAt 0 it.1 u.2.2.2.2.2.2.2.2.1) := by
    intro f
    induction f with
    | zero =>
      intro v2 v3 hm
      exact absurd hm (Nat.not_lt_zero _)
    | succ f ih =>
      intro v2 v3 hm v0 v24 t0 t1
      show okP (f_X5_find_L33b (f_X5_find_L33 f) x1 v2 v3 6 1 0 fuel 1 count ws tp (-1) fw ft fs hf to on fa ca en se be) _
      unfold f_X5_find_L33b
      refine ok_ite (fun a => ?_) (fun a => ?_)
      · have a1 : (24 : Int) ≤ v3.toInt := i_le.mp a
        rw [show (24 - v3.toInt).toNat = 0 by omega] at t1
        have t1 : v2.toInt < 0 := t1
        omega
      have a1 : ¬ (24 : Int) ≤ v3.toInt := fun z => a (i_le.mpr z)
      obtain ⟨n', hn', hn2⟩ : ∃ n' : Nat, (24 - v3.toInt).toNat = n' + 1 ∧ (24 - (v3.toInt + 1)).toNat = n' := ⟨(24 - (v3.toInt + 1)).toNat, by omega, rfl⟩
      have f1 : (v3 / 3).toInt = v3.toInt / (3 : Int) := i_div2 rfl rfl (by omega) (by omega)
      have f2 : (v3 - v3 / 3 * 3).toInt = v3.toInt % (3 : Int) := i_rem2 rfl rfl (by omega) (by omega)
      have f3 : ((v3 - v3 / 3 * 3) + 1).toInt = (v3 - v3 / 3 * 3).toInt + (1 : Int) := i_add2 rfl rfl (by omega) (by omega)
      have f4 : (v3 + 1).toInt = v3.toInt + (1 : Int) := i_add2 rfl rfl (by omega) (by omega)
      have cv : (v3.toNatClampNeg : Int) = v3.toInt := clI v0
      have hx : ¬ (v3 < 0 ∨ 24 ≤ v3.toNatClampNeg) := ix (by omega) (by omega)
      have hbv := hb v3.toNatClampNeg (by omega)
      unfold lenE at hbv
      rw [cv, len_EP] at hbv
      rw [hn'] at t1 ⊢
      have eP : allF (flyP 6) (n' + 1) v3.toInt = flyP 6 0 (v3.toInt / 3) (v3.toInt % 3 + 1) 0 ++ allF (flyP 6) n' (v3.toInt + 1) := rfl
      rw [eP, List.length_append] at t1
      rw [eP]
      refine ok_chk hx ?_
      refine ok_ite (fun b => ?_) (fun b => ?_)
      · have b1 : (be v3.toNatClampNeg).toInt ≤ v2.toInt := i_le.mp b
        have g1 : (v2 - be v3.toNatClampNeg).toInt = v2.toInt - (be v3.toNatClampNeg).toInt := i_sub2 rfl rfl (by omega) (by have := i_hi v2; omega)
        refine ok_chk hx ?_
        refine ok_nmi (fun y hy ky => ?_)
        refine ok_nmi (fun x hx1 kx => ?_)
        have kx2 : x.toInt = v3.toInt + 1 := by omega
        have i1 := ih y x (by omega) (by omega) (by omega) (by omega)
        rw [kx2, hn2] at i1
        refine ok_mono (i1 (by omega)) (fun u hu => ?_)
        obtain ⟨y1, it, y2, y3⟩ := hu
        refine ⟨y1, it, ?_, y3⟩
        rw [List.getElem?_append_right (by omega), show v2.toInt.toNat - (flyP 6 0 (v3.toInt / 3) (v3.toInt % 3 + 1) 0).length = y.toInt.toNat by omega]
        exact y2
      · have b1 : ¬ (be v3.toNatClampNeg).toInt ≤ v2.toInt := fun z => b (i_le.mpr z)
        have z0 : (0 : Int32).toNatClampNeg = 0 := by decide
        have hh := flyF 8 6 0 (v3 / 3) ((v3 - v3 / 3 * 3) + 1) 0 fuel v2 count ws fw ft fs hf to on fa ca en se (by decide) (by omega) (by decide) (by decide) (by omega) (by omega) (by omega) (by omega) (Or.inl rfl) (by omega) fu1 hR (by rw [z0, hca]; decide) (by rw [z0, hca]; decide) t0
        rw [z0, hca, f1, f3, f2] at hh
        refine ok_bd9 hh (fun w1 w2 w3 w4 w5 w6 w7 w8 w9 q => ?_)
        obtain ⟨q1, q2, q3⟩ := q
        have p2 : w7 0 = ca 0 := q2 0 (by decide)
        rcases q3 with ⟨y0, y1, it, y2, y3, y4, y5, y6⟩ | ⟨y0, _⟩
        · refine ok_some ⟨rfl, it, ?_, y3, y4, y5, by show w7 0 = 0; rw [p2, hca], y6⟩
          rw [List.getElem?_append_left (by have y0 : v2.toInt < ((flyP 6 0 (v3.toInt / 3) (v3.toInt % 3 + 1) 0).length : Int) := y0; omega)]
          exact y2
        · have y0 : ((flyP 6 0 (v3.toInt / 3) (v3.toInt % 3 + 1) 0).length : Int) ≤ v2.toInt := y0
          omega
  have hlen : WP.length = 89 := by decide +kernel
  unfold f_X5_find
  refine ok_ite (fun a => ?_) (fun a => ?_)
  · have a1 : x1.toInt < (0 : Int) := i_lt.mp a
    exact ok_some (Or.inr ⟨by omega, rfl⟩)
  · have a1 : ¬ x1.toInt < (0 : Int) := fun z => a (i_lt.mpr z)
    refine ok_ite (fun b => ?_) (fun b => ?_)
    · have b1 : x1.toInt < count.toInt := i_lt.mp b
      refine ok_ite (fun c => ?_) (fun c => ?_)
      · have c1 : x1.toInt = (-1 : Int) := i_eq.mp c
        omega
      · have h0 := hl FU x1 0 (FU_gt (by decide)) (by decide) (by decide) (by omega) (by show x1.toInt < ((WP.length : Nat) : Int); rw [hlen]; omega)
        exact ok_mono h0 (fun u hu => Or.inl ⟨by omega, hu⟩)
    · have b1 : ¬ x1.toInt < count.toInt := fun z => b (i_lt.mpr z)
      exact ok_some (Or.inr ⟨by omega, rfl⟩)
set_option maxHeartbeats 4000000 in
theorem e_begin1 (l t s fu gl : Int32) (hf to on fa ca st th tt tf : Nat → Int32) (e1 : st 1 = 0) (e2 : st 2 = 6) (e3 : st 3 = 1) (e4 : st 4 = 0) (e5 : st 5 = 60) (e6 : st 6 = 1) (h : ∀ j : Nat, j < 7 → th j = -1 ∧ tt j = 0) : okP (f_X5_begin l t s fu gl hf to on fa ca st th tt tf) (fun u => u.1 = 6 ∧ u.2.1 = 1 ∧ u.2.2.1 = 0 ∧ u.2.2.2.1 = 60 ∧ u.2.2.2.2.1 = 1 ∧ RNone u.2.2.2.2.2.1 u.2.2.2.2.2.2.1 u.2.2.2.2.2.2.2.1 ∧ u.2.2.2.2.2.2.2.2.2 0 = 0) := by
  have hB : ∀ (on : Nat → Int32), (∀ j : Nat, j < 7 → on j = -1) → okP (f_X5_begin_B114 0 6 1 s fu gl (va_cpy th hf 0 0 7) (va_cpy tt to 0 0 7) on (va_cpy tf fa 0 0 100) (upd ca 0 0) st th tt tf) (fun u => u.1 = 6 ∧ u.2.1 = 1 ∧ u.2.2.1 = 0 ∧ u.2.2.2.1 = 60 ∧ u.2.2.2.2.1 = 1 ∧ RNone u.2.2.2.2.2.1 u.2.2.2.2.2.2.1 u.2.2.2.2.2.2.2.1 ∧ u.2.2.2.2.2.2.2.2.2 0 = 0) := by
    intro on hon
    unfold f_X5_begin_B114
    refine ok_chk (Or.inl rfl) ?_
    rw [e5, e6]
    refine ok_nmx (fun a ha => ?_)
    refine ok_nmx (fun b hb => ?_)
    refine ok_some ⟨rfl, rfl, rfl, ha, hb, ?_, show upd ca 0 0 0 = 0 from upd_is⟩
    intro j hj
    show va_cpy th hf 0 0 7 j = -1 ∧ va_cpy tt to 0 0 7 j = 0 ∧ on j = -1
    rw [cpy_lt hj, cpy_lt hj]
    exact ⟨(h j hj).1, (h j hj).2, hon j hj⟩
  have hl : ∀ (f : Nat) (v : Int32) (on : Nat → Int32), (7 - v.toInt).toNat < f → 0 ≤ v.toInt → v.toInt ≤ 7 → (∀ j : Nat, (j : Int) < v.toInt → on j = -1) → okP (f_X5_begin_L47 f v l t s fu gl (va_cpy th hf 0 0 7) (va_cpy tt to 0 0 7) on (va_cpy tf fa 0 0 100) ca st th tt tf) (fun u => u.1 = 6 ∧ u.2.1 = 1 ∧ u.2.2.1 = 0 ∧ u.2.2.2.1 = 60 ∧ u.2.2.2.2.1 = 1 ∧ RNone u.2.2.2.2.2.1 u.2.2.2.2.2.2.1 u.2.2.2.2.2.2.2.1 ∧ u.2.2.2.2.2.2.2.2.2 0 = 0) := by
    intro f
    induction f with
    | zero =>
      intro v on hm
      exact absurd hm (Nat.not_lt_zero _)
    | succ f ih =>
      intro v on hm v0 v7 hon
      show okP (f_X5_begin_L47b (f_X5_begin_L47 f) v l t s fu gl (va_cpy th hf 0 0 7) (va_cpy tt to 0 0 7) on (va_cpy tf fa 0 0 100) ca st th tt tf) _
      unfold f_X5_begin_L47b
      refine ok_ite (fun a => ?_) (fun a => ?_)
      · have a1 : (6 : Int) < v.toInt := i_lt.mp a
        rw [e1, e2, e3, e4]
        refine ok_nmx (fun x hx => ?_)
        refine ok_nmx (fun y hy => ?_)
        refine ok_nmx (fun z hz => ?_)
        subst hx
        subst hy
        subst hz
        refine ok_ite (fun b => absurd b (by decide)) (fun _ => ?_)
        exact hB on (fun j hj => hon j (by omega))
      · have a1 : ¬ (6 : Int) < v.toInt := fun z => a (i_lt.mpr z)
        have fv : (v + 1).toInt = v.toInt + (1 : Int) := i_add2 rfl rfl (by omega) (by omega)
        have cv : (v.toNatClampNeg : Int) = v.toInt := clI v0
        refine ok_chk (ix (by omega) (by omega)) ?_
        refine ok_nmi (fun x hx kx => ?_)
        refine ih x _ (by omega) (by omega) (by omega) (fun j hj => ?_)
        by_cases h1 : j = v.toNatClampNeg
        · rw [h1, upd_is]
        · rw [upd_no h1]
          exact hon j (by omega)
  unfold f_X5_begin
  exact hl FU 0 on (FU_gt (by decide)) (by decide) (by decide) (fun j hj => by have : (0 : Int32).toInt = 0 := rfl; omega)
