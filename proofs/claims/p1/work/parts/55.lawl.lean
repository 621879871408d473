set_option maxRecDepth 100000 in
set_option maxHeartbeats 4000000 in
theorem q_law (L : Nat) (xs : Nat → Int32) (hL : L ≤ 6) : okP (f_law L xs) (fun r => r = 1) := by
  unfold f_law
  obtain ⟨n, hn⟩ := FU_s 2 (by omega)
  rw [hn]
  show okP (f_L_law_L18b L xs (f_L_law_L18 L xs (n + 1)) 0 0 1 1 0 0 0 0 0 0 0 0 0 0 0 0 0 jSet jFar7 (fun _ => 0) iCur (fun _ => 0) iDep (fun _ => 0) (fun _ => 0) (fun _ => 0) (fun _ => 0) (fun _ => 0) (fun _ => 0) (fun _ => 0) (fun _ => 0) (fun _ => 0) (fun _ => 0) (fun _ => 0) (fun _ => 0) (fun _ => 0) (fun _ => 0) (fun _ => 0) (fun _ => 0) (fun _ => 0) (fun _ => 0) (fun _ => 0) jLan (fun _ => 0) (fun _ => 0) (fun _ => 0) 0 (fun _ => 0) 0 0 iSet iFar7 (fun _ => 0) iCur (fun _ => 0) iDep iFars (fun _ => 0) (fun _ => 0) (fun _ => 0) (fun _ => 0) (fun _ => 0) (fun _ => 0) (fun _ => 0) 0 (fun _ => 0) iKnown 0 0 (fun _ => 0) (fun _ => 0) (fun _ => 0) (fun _ => 0) 0 0 iSet iFar7 (fun _ => 0) iCur (fun _ => 0) iDep iFars (fun _ => 0) (fun _ => 0) (fun _ => 0) (fun _ => 0) (fun _ => 0) (fun _ => 0) (fun _ => 0) 1 0 0 0 0 0 0 (-1) (-1) 0 0 0 (fun _ => 0) (fun _ => 0) (fun _ => 0) (fun _ => 0) (fun _ => 0) (fun _ => 0) (fun _ => 0) (fun _ => 0) 1 0 0 0 0 0 0 (-1) (-1) 0 0 0 (fun _ => 0) (fun _ => 0) (fun _ => 0) (fun _ => 0) (fun _ => 0) (fun _ => 0) (fun _ => 0) (fun _ => 0) (fun _ => (-1)) (fun _ => 0) (fun _ _ => 0)) _
  have hN : (Int32.ofNat L).toInt = (L : Int) := Int32.toInt_ofNat_of_lt (by omega)
  have f0 : (Int32.ofNat L - 6).toInt = (Int32.ofNat L).toInt - (6 : Int) := i_sub2 rfl rfl (by omega) (by omega)
  have z0 : (0 : Int32).toInt = 0 := rfl
  unfold f_L_law_L18b
  refine ok_ite (fun c => ok_some rfl) (fun c => ?_)
  have c1 : ¬ (Int32.ofNat L - 6).toInt < (0 : Int32).toInt := fun z => c (i_lt.mpr z)
  refine ok_chk (ix (by omega) (by omega)) ?_
  refine ok_nmx (fun x hx => ?_)
  refine ok_ite (fun _ => q_B176 L xs hL (by omega) n 0 rfl) (fun _ => ?_)
  refine ok_ite (fun _ => q_B209 L xs hL (by omega) n 0 rfl) (fun _ => ?_)
  refine ok_ite (fun _ => q_B232 L xs hL (by omega) n 0 rfl) (fun _ => ?_)
  refine ok_ite (fun _ => q_B275 L xs hL (by omega) n 0 rfl) (fun _ => ?_)
  refine ok_ite (fun _ => q_B338 L xs hL (by omega) n 0 rfl) (fun _ => ?_)
  refine ok_ite (fun _ => q_B351 L xs hL (by omega) n 0 rfl) (fun _ => ?_)
  refine ok_ite (fun _ => q_B364 L xs hL (by omega) n 0 rfl) (fun _ => ?_)
  refine ok_ite (fun _ => q_B378 L xs hL (by omega) n 0 rfl) (fun _ => ?_)
  refine ok_ite (fun _ => q_B411 L xs hL (by omega) n 0 rfl) (fun _ => ?_)
  refine ok_ite (fun _ => q_B444 L xs hL (by omega) n 0 rfl) (fun _ => ?_)
  refine ok_ite (fun _ => q_B477 L xs hL (by omega) n 0 rfl) (fun _ => ?_)
  refine ok_ite (fun _ => q_B530 L xs hL (by omega) n 0 rfl) (fun _ => ?_)
  refine ok_ite (fun _ => q_B563 L xs hL (by omega) n 0 rfl) (fun _ => ?_)
  refine ok_ite (fun _ => q_B626 L xs hL (by omega) n 0 rfl) (fun _ => ?_)
  refine ok_ite (fun _ => q_B669 L xs hL (by omega) n 0 rfl) (fun _ => ?_)
  refine ok_ite (fun _ => q_B702 L xs hL (by omega) n 0 rfl) (fun _ => ?_)
  refine ok_ite (fun _ => q_B735 L xs hL (by omega) n 0 rfl) (fun _ => ?_)
  refine ok_ite (fun _ => q_B769 L xs hL (by omega) n 0 rfl) (fun _ => ?_)
  refine ok_ite (fun _ => q_B792 L xs hL (by omega) n 0 rfl) (fun _ => ?_)
  refine ok_ite (fun _ => q_B815 L xs hL (by omega) n 0 rfl) (fun _ => ?_)
  refine ok_ite (fun _ => q_B828 L xs hL (by omega) n 0 rfl) (fun _ => ?_)
  refine ok_ite (fun _ => q_B851 L xs hL (by omega) n 0 rfl) (fun _ => ?_)
  refine ok_ite (fun _ => q_B864 L xs hL (by omega) n 0 rfl) (fun _ => ?_)
  refine ok_ite (fun _ => q_B877 L xs hL (by omega) n 0 rfl) (fun _ => ?_)
  refine ok_ite (fun _ => q_B931 L xs hL (by omega) n 0 rfl) (fun _ => ?_)
  refine ok_ite (fun _ => q_B974 L xs hL (by omega) n 0 rfl) (fun _ => ?_)
  refine ok_ite (fun _ => q_B987 L xs hL (by omega) n 0 rfl) (fun _ => ?_)
  refine ok_ite (fun _ => q_B1000 L xs hL (by omega) n 0 rfl) (fun _ => ?_)
  refine ok_ite (fun _ => q_B1043 L xs hL (by omega) n 0 rfl) (fun _ => ?_)
  refine ok_ite (fun _ => q_B1066 L xs hL (by omega) n 0 rfl) (fun _ => ?_)
  refine ok_ite (fun _ => q_B1119 L xs hL (by omega) n 0 rfl) (fun _ => ?_)
  refine ok_ite (fun _ => q_B1172 L xs hL (by omega) n 0 rfl) (fun _ => ?_)
  unfold f_L_law_B1235
  have f6 : ((0 : Int32) + 6).toInt = 6 := by decide
  refine ok_nmi (fun x6 hx6 kx6 => ?_)
  exact q_end L xs hL n x6 (by omega) _ _ _ _ _ _ _ _ _ _ _ _ _ _ _ _ _ _ _ _ _ _ _ _ _ _ _ _ _ _ _ _ _ _ _ _ _ _ _ _ _ _ _ _ _ _ _ _ _ _ _ _ _ _ _ _ _ _ _ _ _ _ _ _ _ _ _ _ _ _ _ _ _ _ _ _ _ _ _ _ _ _ _ _ _ _ _ _ _ _ _ _ _ _ _ _ _ _ _ _ _ _ _ _ _ _ _ _ _ _ _ _ _ _ _ _ _ _ _ _ _ _ _ _ _ _ _ _ _ _ _
