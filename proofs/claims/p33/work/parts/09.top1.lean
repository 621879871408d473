/-! ===== X6_waysChanged ===== -/
theorem dX6_waysChanged_0 : decode cX6_waysChanged 0 = .ok (.aload_n 0, 1) := by decide +kernel
theorem dX6_waysChanged_1 : decode cX6_waysChanged 1 = .ok (.iconst 1, 1) := by decide +kernel
theorem dX6_waysChanged_2 : decode cX6_waysChanged 2 = .ok (.putfield 67, 3) := by decide +kernel
theorem dX6_waysChanged_5 : decode cX6_waysChanged 5 = .ok (.aload_n 0, 1) := by decide +kernel
theorem dX6_waysChanged_6 : decode cX6_waysChanged 6 = .ok (.iconst 1, 1) := by decide +kernel
theorem dX6_waysChanged_7 : decode cX6_waysChanged 7 = .ok (.putfield 70, 3) := by decide +kernel
theorem dX6_waysChanged_10 : decode cX6_waysChanged 10 = .ok (.return_, 1) := by decide +kernel
abbrev W_X6_waysChanged (cyI cyJ cyO : ClassId) (h_o h_told h_kept h_walk h_trial h_seas h_ends h_otherEnds h_tape a_sheets : Nat) (o_hasImage : Int32) (o_walkIsOld : Int32) (o_endsAreOld : Int32) : va_W := [(h_o, .inr (6, [.ref h_told, .ref h_kept, .ref h_walk, .ref h_trial, .ref h_seas, .ref h_ends, .ref h_otherEnds, .ref h_tape, .ref a_sheets, .int o_hasImage, .int o_walkIsOld, .int o_endsAreOld]))]
def f_X6_waysChanged (o_walkIsOld : Int32) (o_endsAreOld : Int32) : Option (Int32 × Int32) :=
  some (1, 1)
abbrev rm_X6_waysChanged : Room := { frames := 0, cells := 0, slots := 0, locals := 0 }
set_option maxRecDepth 100000 in
set_option maxHeartbeats 4000000 in
theorem c_X6_waysChanged (l : Launch) (dC : Nat → ClassId) (dI : Nat → Nat → Nat) (cyI cyJ cyO : ClassId) (sz : Nat) (h_o h_told h_kept h_walk h_trial h_seas h_ends h_otherEnds h_tape a_sheets : Nat) (o_hasImage : Int32) (o_walkIsOld : Int32) (o_endsAreOld : Int32) (post : (Int32 × Int32) → Prop) (hf : okP (f_X6_waysChanged o_walkIsOld o_endsAreOld) post) : Cv l (dC, dI) (tyL cyI cyJ cyO) yX6_waysChanged wsX6_waysChanged rm_X6_waysChanged [.ref h_o] sz (W_X6_waysChanged cyI cyJ cyO h_o h_told h_kept h_walk h_trial h_seas h_ends h_otherEnds h_tape a_sheets o_hasImage o_walkIsOld o_endsAreOld) zN (fun u => post u) (fun u => (W_X6_waysChanged cyI cyJ cyO h_o h_told h_kept h_walk h_trial h_seas h_ends h_otherEnds h_tape a_sheets o_hasImage u.1 u.2)) := by
  refine Met.ofW (cc := cX6_waysChanged) (maxL := 1) (ret := none) (by decide) rfl ?_
  intro p e s m args below meth c s₁ B hml hv
  obtain ⟨rfl, hsz, hP, hK, hD0, hZ⟩ := hv
  have hx := B.exec
  have hb := B.bytes
  have hr := B.returns
  have hts := atoms_spec (ws := wsX6_waysChanged) B.pre
  have hown : s.vm.findClass RX6 = some m.cls := findClass_of_methodNamed B.named
  have hlocks := B.notSynchronized
  subst hsz
  have hD := hD0.self (sz := s.heap.size)
  generalize hAe : va_A (W_X6_waysChanged cyI cyJ cyO h_o h_told h_kept h_walk h_trial h_seas h_ends h_otherEnds h_tape a_sheets o_hasImage o_walkIsOld o_endsAreOld) s.heap.size = A at hD hZ ⊢
  have hA : ∀ q : Nat, s.heap.size ≤ q → A q := fun q h => by rw [← hAe]; exact Or.inr h
  clear hAe hD0
  have hS : va_S A s.heap s.heap [] := va_S.rf
  have hl := lv_entry ([.ref h_o]) (n := 1) (Nat.le_of_ble_eq_true rfl)
  rw [lg_entry_eq]
  generalize (lg_sl ([.ref h_o]) ++ List.replicate (1 - (lg_sl ([.ref h_o])).length) Slot.unset).toArray = ls at hl ⊢
  have hl : lv_has ls 1 [(0, .ref h_o)] := hl
  refine kW (fun Q hQ => ?_)
  have hq0 := hts _ (List.mem_cons_of_mem _ q_280)
  have hi6 : ∀ w ∈ u_ws RX6 TX6 12, w ∈ wsX6_waysChanged := fun w h => List.mem_cons_of_mem _ (inX6 w h)
  have hq2 := hts _ (List.mem_cons_of_mem _ q_281)
  have hw := hf
  unfold f_X6_waysChanged at hw
  have hP : va_P (dC, dI) vwCl (W_X6_waysChanged cyI cyJ cyO h_o h_told h_kept h_walk h_trial h_seas h_ends h_otherEnds h_tape a_sheets o_hasImage o_walkIsOld o_endsAreOld) s.heap := hP
  obtain ⟨H, hH⟩ : ∃ H, H = s.heap := ⟨_, rfl⟩
  obtain ⟨locs, hlo⟩ : ∃ x : List Loc, x = [] := ⟨_, rfl⟩
  have hP : va_P (dC, dI) vwCl (W_X6_waysChanged cyI cyJ cyO h_o h_told h_kept h_walk h_trial h_seas h_ends h_otherEnds h_tape a_sheets o_hasImage o_walkIsOld o_endsAreOld) H := by rw [hH]; exact hP
  have hS : va_S A s.heap H locs := by rw [hH, hlo]; exact hS
  refine kH hH hlo ?_
  clear hH hlo
  refine lv_aload_n hx hb dX6_waysChanged_0 rfl (lv_at hl 0 rfl) ?_
  refine lv_iconst (v := 1) hx hb dX6_waysChanged_1 (by decide) ?_
  refine va_put (D := (dC, dI)) (ci := 6) (v := .int 1) (ty := .boolean) (C := RX6) (T := TX6) (N := 12) hx hb hts hi6 tyX6 tyX6_ok nmX6 hown hK hP hD hS 0 rfl rfl 10 (by decide) hq0 (fun _ h9 => h9) rfl (by decide +kernel) rfl rfl (Nat.le_of_ble_eq_true rfl) dX6_waysChanged_2 (fun H locs hP hD hS => ?_)
  have hP : va_P (dC, dI) vwCl (W_X6_waysChanged cyI cyJ cyO h_o h_told h_kept h_walk h_trial h_seas h_ends h_otherEnds h_tape a_sheets o_hasImage 1 o_endsAreOld) H := hP
  have hD : va_D A (W_X6_waysChanged cyI cyJ cyO h_o h_told h_kept h_walk h_trial h_seas h_ends h_otherEnds h_tape a_sheets o_hasImage 1 o_endsAreOld) := hD
  refine lv_aload_n hx hb dX6_waysChanged_5 rfl (lv_at hl 0 rfl) ?_
  refine lv_iconst (v := 1) hx hb dX6_waysChanged_6 (by decide) ?_
  refine va_put (D := (dC, dI)) (ci := 6) (v := .int 1) (ty := .boolean) (C := RX6) (T := TX6) (N := 12) hx hb hts hi6 tyX6 tyX6_ok nmX6 hown hK hP hD hS 0 rfl rfl 11 (by decide) hq2 (fun _ h9 => h9) rfl (by decide +kernel) rfl rfl (Nat.le_of_ble_eq_true rfl) dX6_waysChanged_7 (fun H locs hP hD hS => ?_)
  have hP : va_P (dC, dI) vwCl (W_X6_waysChanged cyI cyJ cyO h_o h_told h_kept h_walk h_trial h_seas h_ends h_otherEnds h_tape a_sheets o_hasImage 1 1) H := hP
  have hD : va_D A (W_X6_waysChanged cyI cyJ cyO h_o h_told h_kept h_walk h_trial h_seas h_ends h_otherEnds h_tape a_sheets o_hasImage 1 1) := hD
  rw [hQ]
  exact W.vret hx hb hr (fun t ht hW => ⟨⟨(1, 1), rfl, okS hw, by rw [ht]; exact hP, va_K.moved hW.alike hK, hD⟩, hS.F ht⟩) hS.2.2 dX6_waysChanged_10
/-! ===== X6_seaChanged ===== -/
theorem dX6_seaChanged_0 : decode cX6_seaChanged 0 = .ok (.aload_n 0, 1) := by decide +kernel
theorem dX6_seaChanged_1 : decode cX6_seaChanged 1 = .ok (.getfield 34, 3) := by decide +kernel
theorem dX6_seaChanged_4 : decode cX6_seaChanged 4 = .ok (.invokevirtual 307, 3) := by decide +kernel
theorem dX6_seaChanged_7 : decode cX6_seaChanged 7 = .ok (.aload_n 0, 1) := by decide +kernel
theorem dX6_seaChanged_8 : decode cX6_seaChanged 8 = .ok (.iconst 1, 1) := by decide +kernel
theorem dX6_seaChanged_9 : decode cX6_seaChanged 9 = .ok (.putfield 70, 3) := by decide +kernel
theorem dX6_seaChanged_12 : decode cX6_seaChanged 12 = .ok (.return_, 1) := by decide +kernel
abbrev W_X6_seaChanged (cyI cyJ cyO : ClassId) (h_o h_seas h_told h_kept h_walk h_trial h_ends h_otherEnds h_tape a_sheets a_seas_known : Nat) (o_hasImage : Int32) (o_walkIsOld : Int32) (o_endsAreOld : Int32) (seas_known : Nat → Int32) : va_W := [(h_o, .inr (6, [.ref h_told, .ref h_kept, .ref h_walk, .ref h_trial, .ref h_seas, .ref h_ends, .ref h_otherEnds, .ref h_tape, .ref a_sheets, .int o_hasImage, .int o_walkIsOld, .int o_endsAreOld])), (h_seas, .inr (1, [.ref h_told, .ref a_seas_known])), (a_seas_known, .inl (cyI, 400, .inl seas_known))]
def f_X6_seaChanged (o_endsAreOld : Int32) (seas_known : Nat → Int32) : Option (Int32 × (Nat → Int32)) :=
  bd1 (f_X1_forget seas_known) fun w_1 =>
  some (1, w_1)
abbrev rm_X6_seaChanged : Room := { frames := 1, cells := 0, slots := 0, locals := 21 }
set_option maxRecDepth 100000 in
set_option maxHeartbeats 4000000 in
theorem c_X6_seaChanged (l : Launch) (dC : Nat → ClassId) (dI : Nat → Nat → Nat) (cyI cyJ cyO : ClassId) (sz : Nat) (h_o h_seas h_told h_kept h_walk h_trial h_ends h_otherEnds h_tape a_sheets a_seas_known : Nat) (o_hasImage : Int32) (o_walkIsOld : Int32) (o_endsAreOld : Int32) (seas_known : Nat → Int32) (post : (Int32 × (Nat → Int32)) → Prop) (hf : okP (f_X6_seaChanged o_endsAreOld seas_known) post) : Cv l (dC, dI) (tyL cyI cyJ cyO) yX6_seaChanged wsX6_seaChanged rm_X6_seaChanged [.ref h_o] sz (W_X6_seaChanged cyI cyJ cyO h_o h_seas h_told h_kept h_walk h_trial h_ends h_otherEnds h_tape a_sheets a_seas_known o_hasImage o_walkIsOld o_endsAreOld seas_known) zN (fun u => post u) (fun u => (W_X6_seaChanged cyI cyJ cyO h_o h_seas h_told h_kept h_walk h_trial h_ends h_otherEnds h_tape a_sheets a_seas_known o_hasImage o_walkIsOld u.1 u.2)) := by
  refine Met.ofW (cc := cX6_seaChanged) (maxL := 1) (ret := none) (by decide) rfl ?_
  intro p e s m args below meth c s₁ B hml hv
  obtain ⟨rfl, hsz, hP, hK, hD0, hZ⟩ := hv
  have hx := B.exec
  have hb := B.bytes
  have hr := B.returns
  have hts := atoms_spec (ws := wsX6_seaChanged) B.pre
  have hown : s.vm.findClass RX6 = some m.cls := findClass_of_methodNamed B.named
  have hlocks := B.notSynchronized
  subst hsz
  have hD := hD0.self (sz := s.heap.size)
  generalize hAe : va_A (W_X6_seaChanged cyI cyJ cyO h_o h_seas h_told h_kept h_walk h_trial h_ends h_otherEnds h_tape a_sheets a_seas_known o_hasImage o_walkIsOld o_endsAreOld seas_known) s.heap.size = A at hD hZ ⊢
  have hA : ∀ q : Nat, s.heap.size ≤ q → A q := fun q h => by rw [← hAe]; exact Or.inr h
  clear hAe hD0
  have hS : va_S A s.heap s.heap [] := va_S.rf
  have hl := lv_entry ([.ref h_o]) (n := 1) (Nat.le_of_ble_eq_true rfl)
  rw [lg_entry_eq]
  generalize (lg_sl ([.ref h_o]) ++ List.replicate (1 - (lg_sl ([.ref h_o])).length) Slot.unset).toArray = ls at hl ⊢
  have hl : lv_has ls 1 [(0, .ref h_o)] := hl
  refine kW (fun Q hQ => ?_)
  have hq0 := hts _ (List.mem_cons_of_mem _ q_274)
  have hi6 : ∀ w ∈ u_ws RX6 TX6 12, w ∈ wsX6_seaChanged := fun w h => List.mem_cons_of_mem _ (inX6 w h)
  have hq2 := hts _ (List.mem_cons_of_mem _ q_281)
  have hw := hf
  unfold f_X6_seaChanged at hw
  have hP : va_P (dC, dI) vwCl (W_X6_seaChanged cyI cyJ cyO h_o h_seas h_told h_kept h_walk h_trial h_ends h_otherEnds h_tape a_sheets a_seas_known o_hasImage o_walkIsOld o_endsAreOld seas_known) s.heap := hP
  obtain ⟨H, hH⟩ : ∃ H, H = s.heap := ⟨_, rfl⟩
  obtain ⟨locs, hlo⟩ : ∃ x : List Loc, x = [] := ⟨_, rfl⟩
  have hP : va_P (dC, dI) vwCl (W_X6_seaChanged cyI cyJ cyO h_o h_seas h_told h_kept h_walk h_trial h_ends h_otherEnds h_tape a_sheets a_seas_known o_hasImage o_walkIsOld o_endsAreOld seas_known) H := by rw [hH]; exact hP
  have hS : va_S A s.heap H locs := by rw [hH, hlo]; exact hS
  refine kH hH hlo ?_
  clear hH hlo
  refine lv_aload_n hx hb dX6_seaChanged_0 rfl (lv_at hl 0 rfl) ?_
  refine va_get (D := (dC, dI)) (ci := 6) (v := .ref h_seas) (C := RX6) (T := TX6) (N := 12) hx hb hts hi6 hown hK hP 0 rfl rfl 4 (by decide) hq0 (fun _ h9 => h9) rfl dX6_seaChanged_1 ?_
  have hPc := hP.sub (ws' := (W_X1_forget cyI cyJ cyO h_seas h_told a_seas_known seas_known)) [1, 2] rfl
  have hDc := hD.sub (ws' := (W_X1_forget cyI cyJ cyO h_seas h_told a_seas_known seas_known)) [1, 2] (by decide +kernel) rfl
  have hFc := va_free (wc := (W_X1_forget cyI cyJ cyO h_seas h_told a_seas_known seas_known)) hD hS hA [1, 2] rfl
  refine kc_v (wr := [(h_o, .inr (6, [.ref h_told, .ref h_kept, .ref h_walk, .ref h_trial, .ref h_seas, .ref h_ends, .ref h_otherEnds, .ref h_tape, .ref a_sheets, .int o_hasImage, .int o_walkIsOld, .int o_endsAreOld]))]) (va_runV (As := []) (rest := []) ⟨hx, hb, hml, hown, hts⟩ (c_X1_forget l dC dI cyI cyJ cyO H.size h_seas h_told a_seas_known seas_known _ (okb1 hw)) (cwV 0 hts (gdV (fun w h => List.mem_cons_of_mem _ h) q_323 q_194 q_195 q_4 q_196) rfl rfl rfl (by decide +kernel) ⟨Nat.le_of_ble_eq_true rfl, Nat.le_of_ble_eq_true rfl⟩) ⟨(kpre zN_ok hK hPc hDc trivial hS hFc).1, va_recv hK hP (ci := 1) (q0 := 1) rfl rfl, (kpre zN_ok hK hPc hDc trivial hS hFc).2⟩ rfl rfl hl.1 rfl (lv_room (Nat.le_of_ble_eq_true rfl)) dX6_seaChanged_4 ⟨Nat.le_of_ble_eq_true rfl, Nat.le_of_ble_eq_true rfl⟩) hP hD hS hFc [1, 2] [0] rfl rfl (by decide +kernel) (by decide +kernel) (fun w_1 H locs hw hP hD hS => ?_)
  try dsimp only at hw
  have hP : va_P (dC, dI) vwCl (W_X6_seaChanged cyI cyJ cyO h_o h_seas h_told h_kept h_walk h_trial h_ends h_otherEnds h_tape a_sheets a_seas_known o_hasImage o_walkIsOld o_endsAreOld w_1) H := hP.sub [0, 1, 2] rfl
  have hD : va_D A (W_X6_seaChanged cyI cyJ cyO h_o h_seas h_told h_kept h_walk h_trial h_ends h_otherEnds h_tape a_sheets a_seas_known o_hasImage o_walkIsOld o_endsAreOld w_1) := hD.sub [0, 1, 2] (by decide +kernel) rfl
  clear hPc hDc hFc
  refine lv_aload_n hx hb dX6_seaChanged_7 rfl (lv_at hl 0 rfl) ?_
  refine lv_iconst (v := 1) hx hb dX6_seaChanged_8 (by decide) ?_
  refine va_put (D := (dC, dI)) (ci := 6) (v := .int 1) (ty := .boolean) (C := RX6) (T := TX6) (N := 12) hx hb hts hi6 tyX6 tyX6_ok nmX6 hown hK hP hD hS 0 rfl rfl 11 (by decide) hq2 (fun _ h9 => h9) rfl (by decide +kernel) rfl rfl (Nat.le_of_ble_eq_true rfl) dX6_seaChanged_9 (fun H locs hP hD hS => ?_)
  have hP : va_P (dC, dI) vwCl (W_X6_seaChanged cyI cyJ cyO h_o h_seas h_told h_kept h_walk h_trial h_ends h_otherEnds h_tape a_sheets a_seas_known o_hasImage o_walkIsOld 1 w_1) H := hP
  have hD : va_D A (W_X6_seaChanged cyI cyJ cyO h_o h_seas h_told h_kept h_walk h_trial h_ends h_otherEnds h_tape a_sheets a_seas_known o_hasImage o_walkIsOld 1 w_1) := hD
  rw [hQ]
  exact W.vret hx hb hr (fun t ht hW => ⟨⟨(1, w_1), rfl, okS hw, by rw [ht]; exact hP, va_K.moved hW.alike hK, hD⟩, hS.F ht⟩) hS.2.2 dX6_seaChanged_12
/-! ===== X6_isPiece ===== -/
theorem dX6_isPiece_0 : decode cX6_isPiece 0 = .ok (.iload_n 1, 1) := by decide +kernel
theorem dX6_isPiece_1 : decode cX6_isPiece 1 = .ok (.ifCond .lt 18, 3) := by decide +kernel
theorem dX6_isPiece_4 : decode cX6_isPiece 4 = .ok (.iload_n 1, 1) := by decide +kernel
theorem dX6_isPiece_5 : decode cX6_isPiece 5 = .ok (.aload_n 0, 1) := by decide +kernel
theorem dX6_isPiece_6 : decode cX6_isPiece 6 = .ok (.getfield 10, 3) := by decide +kernel
theorem dX6_isPiece_9 : decode cX6_isPiece 9 = .ok (.getfield 164, 3) := by decide +kernel
theorem dX6_isPiece_12 : decode cX6_isPiece 12 = .ok (.if_icmp .ge 7, 3) := by decide +kernel
theorem dX6_isPiece_15 : decode cX6_isPiece 15 = .ok (.iconst 1, 1) := by decide +kernel
theorem dX6_isPiece_16 : decode cX6_isPiece 16 = .ok (.goto 4, 3) := by decide +kernel
theorem dX6_isPiece_19 : decode cX6_isPiece 19 = .ok (.iconst 0, 1) := by decide +kernel
theorem dX6_isPiece_20 : decode cX6_isPiece 20 = .ok (.ireturn, 1) := by decide +kernel
abbrev W_X6_isPiece (cyI cyJ cyO : ClassId) (h_o h_told h_kept h_walk h_trial h_seas h_ends h_otherEnds h_tape a_sheets a_told_settings a_told_howFar a_told_tones a_told_currents a_told_warmths a_told_depths a_told_fars a_told_pieceCells a_told_pieceMonths a_told_pieceHighs a_told_pieceAges a_told_pieceNeeds a_told_dragCells a_told_dragEighths : Nat) (o_hasImage : Int32) (o_walkIsOld : Int32) (o_endsAreOld : Int32) (told_pieceCount : Int32) (told_dragCount : Int32) : va_W := [(h_o, .inr (6, [.ref h_told, .ref h_kept, .ref h_walk, .ref h_trial, .ref h_seas, .ref h_ends, .ref h_otherEnds, .ref h_tape, .ref a_sheets, .int o_hasImage, .int o_walkIsOld, .int o_endsAreOld])), (h_told, .inr (4, [.ref a_told_settings, .ref a_told_howFar, .ref a_told_tones, .ref a_told_currents, .ref a_told_warmths, .ref a_told_depths, .ref a_told_fars, .ref a_told_pieceCells, .ref a_told_pieceMonths, .ref a_told_pieceHighs, .ref a_told_pieceAges, .ref a_told_pieceNeeds, .ref a_told_dragCells, .ref a_told_dragEighths, .int told_pieceCount, .int told_dragCount]))]
def f_X6_isPiece (x1 : Int32) (told_pieceCount : Int32) : Option (Int32) :=
  if x1 < 0 then
    some 0
  else
    if told_pieceCount ≤ x1 then
      some 0
    else
      some 1
abbrev rm_X6_isPiece : Room := { frames := 0, cells := 0, slots := 0, locals := 0 }
set_option maxRecDepth 100000 in
set_option maxHeartbeats 4000000 in
theorem c_X6_isPiece (l : Launch) (dC : Nat → ClassId) (dI : Nat → Nat → Nat) (cyI cyJ cyO : ClassId) (sz : Nat) (h_o h_told h_kept h_walk h_trial h_seas h_ends h_otherEnds h_tape a_sheets a_told_settings a_told_howFar a_told_tones a_told_currents a_told_warmths a_told_depths a_told_fars a_told_pieceCells a_told_pieceMonths a_told_pieceHighs a_told_pieceAges a_told_pieceNeeds a_told_dragCells a_told_dragEighths : Nat) (o_hasImage : Int32) (o_walkIsOld : Int32) (o_endsAreOld : Int32) (told_pieceCount : Int32) (told_dragCount : Int32) (x1 : Int32) (post : Int32 → Prop) (hf : okP (f_X6_isPiece x1 told_pieceCount) post) : Ci l (dC, dI) (tyL cyI cyJ cyO) yX6_isPiece wsX6_isPiece rm_X6_isPiece [.ref h_o, .int x1] sz (W_X6_isPiece cyI cyJ cyO h_o h_told h_kept h_walk h_trial h_seas h_ends h_otherEnds h_tape a_sheets a_told_settings a_told_howFar a_told_tones a_told_currents a_told_warmths a_told_depths a_told_fars a_told_pieceCells a_told_pieceMonths a_told_pieceHighs a_told_pieceAges a_told_pieceNeeds a_told_dragCells a_told_dragEighths o_hasImage o_walkIsOld o_endsAreOld told_pieceCount told_dragCount) zN (fun r (_ : Unit) => post r) (fun _ => (W_X6_isPiece cyI cyJ cyO h_o h_told h_kept h_walk h_trial h_seas h_ends h_otherEnds h_tape a_sheets a_told_settings a_told_howFar a_told_tones a_told_currents a_told_warmths a_told_depths a_told_fars a_told_pieceCells a_told_pieceMonths a_told_pieceHighs a_told_pieceAges a_told_pieceNeeds a_told_dragCells a_told_dragEighths o_hasImage o_walkIsOld o_endsAreOld told_pieceCount told_dragCount)) := by
  refine Met.ofW (cc := cX6_isPiece) (maxL := 2) (ret := (some .boolean)) (by decide) rfl ?_
  intro p e s m args below meth c s₁ B hml hv
  obtain ⟨rfl, hsz, hP, hK, hD0, hZ⟩ := hv
  have hx := B.exec
  have hb := B.bytes
  have hr := B.returns
  have hts := atoms_spec (ws := wsX6_isPiece) B.pre
  have hown : s.vm.findClass RX6 = some m.cls := findClass_of_methodNamed B.named
  have hlocks := B.notSynchronized
  subst hsz
  have hD := hD0.self (sz := s.heap.size)
  generalize hAe : va_A (W_X6_isPiece cyI cyJ cyO h_o h_told h_kept h_walk h_trial h_seas h_ends h_otherEnds h_tape a_sheets a_told_settings a_told_howFar a_told_tones a_told_currents a_told_warmths a_told_depths a_told_fars a_told_pieceCells a_told_pieceMonths a_told_pieceHighs a_told_pieceAges a_told_pieceNeeds a_told_dragCells a_told_dragEighths o_hasImage o_walkIsOld o_endsAreOld told_pieceCount told_dragCount) s.heap.size = A at hD hZ ⊢
  have hA : ∀ q : Nat, s.heap.size ≤ q → A q := fun q h => by rw [← hAe]; exact Or.inr h
  clear hAe hD0
  have hS : va_S A s.heap s.heap [] := va_S.rf
  have hl := lv_entry ([.ref h_o, .int x1]) (n := 2) (Nat.le_of_ble_eq_true rfl)
  rw [lg_entry_eq]
  generalize (lg_sl ([.ref h_o, .int x1]) ++ List.replicate (2 - (lg_sl ([.ref h_o, .int x1])).length) Slot.unset).toArray = ls at hl ⊢
  have hl : lv_has ls 2 [(0, .ref h_o), (1, .int x1)] := hl
  refine kW (fun Q hQ => ?_)
  have hq0 := hts _ (List.mem_cons_of_mem _ q_270)
  have hi6 : ∀ w ∈ u_ws RX6 TX6 12, w ∈ wsX6_isPiece := fun w h => List.mem_cons_of_mem _ (inX6 w h)
  have hq2 := hts _ (List.mem_cons_of_mem _ q_74)
  have hi4 : ∀ w ∈ u_ws RX4 TX4 16, w ∈ wsX6_isPiece := fun w h => List.mem_cons_of_mem _ (inX4 w h)
  have hw := hf
  unfold f_X6_isPiece at hw
  have hP : va_P (dC, dI) vwCl (W_X6_isPiece cyI cyJ cyO h_o h_told h_kept h_walk h_trial h_seas h_ends h_otherEnds h_tape a_sheets a_told_settings a_told_howFar a_told_tones a_told_currents a_told_warmths a_told_depths a_told_fars a_told_pieceCells a_told_pieceMonths a_told_pieceHighs a_told_pieceAges a_told_pieceNeeds a_told_dragCells a_told_dragEighths o_hasImage o_walkIsOld o_endsAreOld told_pieceCount told_dragCount) s.heap := hP
  obtain ⟨H, hH⟩ : ∃ H, H = s.heap := ⟨_, rfl⟩
  obtain ⟨locs, hlo⟩ : ∃ x : List Loc, x = [] := ⟨_, rfl⟩
  have hP : va_P (dC, dI) vwCl (W_X6_isPiece cyI cyJ cyO h_o h_told h_kept h_walk h_trial h_seas h_ends h_otherEnds h_tape a_sheets a_told_settings a_told_howFar a_told_tones a_told_currents a_told_warmths a_told_depths a_told_fars a_told_pieceCells a_told_pieceMonths a_told_pieceHighs a_told_pieceAges a_told_pieceNeeds a_told_dragCells a_told_dragEighths o_hasImage o_walkIsOld o_endsAreOld told_pieceCount told_dragCount) H := by rw [hH]; exact hP
  have hS : va_S A s.heap H locs := by rw [hH, hlo]; exact hS
  refine kH hH hlo ?_
  clear hH hlo
  refine lv_iload_n hx hb dX6_isPiece_0 rfl (lv_at hl 1 rfl) ?_
  refine lv_if_lt (tgt := 19) hx hb dX6_isPiece_1 (by decide) (fun c_1 => ?_) (fun c_1 => ?_)
  · replace hw := okT hw c_1
    clear c_1
    refine lv_iconst (v := 0) hx hb dX6_isPiece_19 (by decide) ?_
    rw [hQ]
    exact W.zret (v := 0) hx hb hr (by decide) (fun t ht hW => ⟨⟨0, (), rfl, okS hw, by rw [ht]; exact hP, va_K.moved hW.alike hK, hD⟩, hS.F ht⟩) hS.2.2 dX6_isPiece_20
  · replace hw := okF hw c_1
    clear c_1
    refine lv_iload_n hx hb dX6_isPiece_4 rfl (lv_at hl 1 rfl) ?_
    refine lv_aload_n hx hb dX6_isPiece_5 rfl (lv_at hl 0 rfl) ?_
    refine va_get (D := (dC, dI)) (ci := 6) (v := .ref h_told) (C := RX6) (T := TX6) (N := 12) hx hb hts hi6 hown hK hP 0 rfl rfl 0 (by decide) hq0 (fun _ h9 => h9) rfl dX6_isPiece_6 ?_
    refine va_get (D := (dC, dI)) (ci := 4) (v := .int told_pieceCount) (C := RX4) (T := TX4) (N := 16) hx hb hts hi4 hown hK hP 1 rfl rfl 14 (by decide) hq2 (fun _ h9 => h9) rfl dX6_isPiece_9 ?_
    refine lv_icmp_ge (tgt := 19) hx hb dX6_isPiece_12 (by decide) (fun c_2 => ?_) (fun c_2 => ?_)
    · replace hw := okT hw c_2
      clear c_2
      refine lv_iconst (v := 0) hx hb dX6_isPiece_19 (by decide) ?_
      rw [hQ]
      exact W.zret (v := 0) hx hb hr (by decide) (fun t ht hW => ⟨⟨0, (), rfl, okS hw, by rw [ht]; exact hP, va_K.moved hW.alike hK, hD⟩, hS.F ht⟩) hS.2.2 dX6_isPiece_20
    · replace hw := okF hw c_2
      clear c_2
      refine lv_iconst (v := 1) hx hb dX6_isPiece_15 (by decide) ?_
      refine lv_goto (tgt := 20) hx hb dX6_isPiece_16 (by decide) ?_
      rw [hQ]
      exact W.zret (v := 1) hx hb hr (by decide) (fun t ht hW => ⟨⟨1, (), rfl, okS hw, by rw [ht]; exact hP, va_K.moved hW.alike hK, hD⟩, hS.F ht⟩) hS.2.2 dX6_isPiece_20
/-! ===== X6_walked ===== -/
theorem dX6_walked_0 : decode cX6_walked 0 = .ok (.aload_n 0, 1) := by decide +kernel
theorem dX6_walked_1 : decode cX6_walked 1 = .ok (.getfield 67, 3) := by decide +kernel
theorem dX6_walked_4 : decode cX6_walked 4 = .ok (.ifCond .eq 26, 3) := by decide +kernel
theorem dX6_walked_7 : decode cX6_walked 7 = .ok (.aload_n 0, 1) := by decide +kernel
theorem dX6_walked_8 : decode cX6_walked 8 = .ok (.getfield 22, 3) := by decide +kernel
theorem dX6_walked_11 : decode cX6_walked 11 = .ok (.aload_n 0, 1) := by decide +kernel
theorem dX6_walked_12 : decode cX6_walked 12 = .ok (.getfield 10, 3) := by decide +kernel
theorem dX6_walked_15 : decode cX6_walked 15 = .ok (.invokevirtual 241, 3) := by decide +kernel
theorem dX6_walked_18 : decode cX6_walked 18 = .ok (.aload_n 0, 1) := by decide +kernel
theorem dX6_walked_19 : decode cX6_walked 19 = .ok (.getfield 22, 3) := by decide +kernel
theorem dX6_walked_22 : decode cX6_walked 22 = .ok (.invokevirtual 251, 3) := by decide +kernel
theorem dX6_walked_25 : decode cX6_walked 25 = .ok (.aload_n 0, 1) := by decide +kernel
theorem dX6_walked_26 : decode cX6_walked 26 = .ok (.iconst 0, 1) := by decide +kernel
theorem dX6_walked_27 : decode cX6_walked 27 = .ok (.putfield 67, 3) := by decide +kernel
theorem dX6_walked_30 : decode cX6_walked 30 = .ok (.aload_n 0, 1) := by decide +kernel
theorem dX6_walked_31 : decode cX6_walked 31 = .ok (.getfield 22, 3) := by decide +kernel
theorem dX6_walked_34 : decode cX6_walked 34 = .ok (.areturn, 1) := by decide +kernel
abbrev W_X6_walked (cyI cyJ cyO : ClassId) (h_o h_told h_walk h_kept h_trial h_seas h_ends h_otherEnds h_tape a_sheets a_told_settings a_told_howFar a_told_tones a_told_currents a_told_warmths a_told_depths a_told_fars a_told_pieceCells a_told_pieceMonths a_told_pieceHighs a_told_pieceAges a_told_pieceNeeds a_told_dragCells a_told_dragEighths a_walk_howFar a_walk_tones a_walk_only a_walk_fars a_walk_cellAt a_walk_ends a_walk_seen a_walk_begun : Nat) (o_hasImage : Int32) (o_walkIsOld : Int32) (o_endsAreOld : Int32) (told_pieceCount : Int32) (told_dragCount : Int32) (told_settings : Nat → Int32) (told_howFar : Nat → Int32) (told_tones : Nat → Int32) (told_fars : Nat → Int32) (walk_last : Int32) (walk_turnsLet : Int32) (walk_slowsLet : Int32) (walk_fuel : Int32) (walk_glide : Int32) (walk_count : Int32) (walk_weightSum : Int64) (walk_toPass : Int32) (walk_foundNumber : Int32) (walk_foundWeight : Int32) (walk_foundTurns : Int32) (walk_foundSlowed : Int32) (walk_howFar : Nat → Int32) (walk_tones : Nat → Int32) (walk_only : Nat → Int32) (walk_fars : Nat → Int32) (walk_cellAt : Nat → Int32) (walk_ends : Nat → Int64) (walk_seen : Nat → Int32) (walk_begun : Nat → Int32) : va_W := [(h_o, .inr (6, [.ref h_told, .ref h_kept, .ref h_walk, .ref h_trial, .ref h_seas, .ref h_ends, .ref h_otherEnds, .ref h_tape, .ref a_sheets, .int o_hasImage, .int o_walkIsOld, .int o_endsAreOld])), (h_told, .inr (4, [.ref a_told_settings, .ref a_told_howFar, .ref a_told_tones, .ref a_told_currents, .ref a_told_warmths, .ref a_told_depths, .ref a_told_fars, .ref a_told_pieceCells, .ref a_told_pieceMonths, .ref a_told_pieceHighs, .ref a_told_pieceAges, .ref a_told_pieceNeeds, .ref a_told_dragCells, .ref a_told_dragEighths, .int told_pieceCount, .int told_dragCount])), (a_told_settings, .inl (cyI, 8, .inl told_settings)), (a_told_howFar, .inl (cyI, 7, .inl told_howFar)), (a_told_tones, .inl (cyI, 7, .inl told_tones)), (a_told_fars, .inl (cyI, 100, .inl told_fars)), (h_walk, .inr (5, [.ref a_walk_howFar, .ref a_walk_tones, .ref a_walk_only, .ref a_walk_fars, .int walk_last, .int walk_turnsLet, .int walk_slowsLet, .int walk_fuel, .int walk_glide, .ref a_walk_cellAt, .ref a_walk_ends, .ref a_walk_seen, .ref a_walk_begun, .int walk_count, .long walk_weightSum, .int walk_toPass, .int walk_foundNumber, .int walk_foundWeight, .int walk_foundTurns, .int walk_foundSlowed])), (a_walk_howFar, .inl (cyI, 7, .inl walk_howFar)), (a_walk_tones, .inl (cyI, 7, .inl walk_tones)), (a_walk_only, .inl (cyI, 7, .inl walk_only)), (a_walk_fars, .inl (cyI, 100, .inl walk_fars)), (a_walk_cellAt, .inl (cyI, 7, .inl walk_cellAt)), (a_walk_ends, .inl (cyJ, 100, .inr (.inl walk_ends))), (a_walk_seen, .inl (cyI, 70, .inl walk_seen)), (a_walk_begun, .inl (cyI, 24, .inl walk_begun))]
def f_X6_walked (o_walkIsOld : Int32) (told_settings : Nat → Int32) (told_howFar : Nat → Int32) (told_tones : Nat → Int32) (told_fars : Nat → Int32) (walk_last : Int32) (walk_turnsLet : Int32) (walk_slowsLet : Int32) (walk_fuel : Int32) (walk_glide : Int32) (walk_count : Int32) (walk_weightSum : Int64) (walk_toPass : Int32) (walk_foundNumber : Int32) (walk_foundWeight : Int32) (walk_foundTurns : Int32) (walk_foundSlowed : Int32) (walk_howFar : Nat → Int32) (walk_tones : Nat → Int32) (walk_only : Nat → Int32) (walk_fars : Nat → Int32) (walk_cellAt : Nat → Int32) (walk_ends : Nat → Int64) (walk_seen : Nat → Int32) (walk_begun : Nat → Int32) : Option (Int32 × Int32 × Int32 × Int32 × Int32 × Int32 × Int32 × Int64 × Int32 × Int32 × Int32 × Int32 × Int32 × (Nat → Int32) × (Nat → Int32) × (Nat → Int32) × (Nat → Int32) × (Nat → Int32) × (Nat → Int64) × (Nat → Int32) × (Nat → Int32)) :=
  if o_walkIsOld = 0 then
    some (o_walkIsOld, walk_last, walk_turnsLet, walk_slowsLet, walk_fuel, walk_glide, walk_count, walk_weightSum, walk_toPass, walk_foundNumber, walk_foundWeight, walk_foundTurns, walk_foundSlowed, walk_howFar, walk_tones, walk_only, walk_fars, walk_cellAt, walk_ends, walk_seen, walk_begun)
  else
    bd10 (f_X5_begin walk_last walk_turnsLet walk_slowsLet walk_fuel walk_glide walk_howFar walk_tones walk_only walk_fars walk_cellAt told_settings told_howFar told_tones told_fars) fun w_1 w_2 w_3 w_4 w_5 w_6 w_7 w_8 w_9 w_10 =>
    bd11 (f_X5_goAll w_1 w_2 w_3 w_4 w_5 walk_count walk_weightSum walk_toPass walk_foundNumber walk_foundWeight walk_foundTurns walk_foundSlowed w_6 w_7 w_8 w_9 w_10 walk_ends walk_seen walk_begun) fun w_11 w_12 w_13 w_14 w_15 w_16 w_17 w_18 w_19 w_20 w_21 =>
    some (0, w_1, w_2, w_3, w_4, w_5, w_11, w_12, w_13, w_14, w_15, w_16, w_17, w_6, w_7, w_8, w_9, w_18, w_19, w_20, w_21)
abbrev rm_X6_walked : Room := { frames := 42, cells := 0, slots := 0, locals := 1054 }
set_option maxRecDepth 100000 in
set_option maxHeartbeats 4000000 in
theorem c_X6_walked (l : Launch) (dC : Nat → ClassId) (dI : Nat → Nat → Nat) (cyI cyJ cyO : ClassId) (sz : Nat) (tD tR tL tM : Nat) (h_o h_told h_walk h_kept h_trial h_seas h_ends h_otherEnds h_tape a_sheets a_told_settings a_told_howFar a_told_tones a_told_currents a_told_warmths a_told_depths a_told_fars a_told_pieceCells a_told_pieceMonths a_told_pieceHighs a_told_pieceAges a_told_pieceNeeds a_told_dragCells a_told_dragEighths a_walk_howFar a_walk_tones a_walk_only a_walk_fars a_walk_cellAt a_walk_ends a_walk_seen a_walk_begun : Nat) (o_hasImage : Int32) (o_walkIsOld : Int32) (o_endsAreOld : Int32) (told_pieceCount : Int32) (told_dragCount : Int32) (told_settings : Nat → Int32) (told_howFar : Nat → Int32) (told_tones : Nat → Int32) (told_fars : Nat → Int32) (walk_last : Int32) (walk_turnsLet : Int32) (walk_slowsLet : Int32) (walk_fuel : Int32) (walk_glide : Int32) (walk_count : Int32) (walk_weightSum : Int64) (walk_toPass : Int32) (walk_foundNumber : Int32) (walk_foundWeight : Int32) (walk_foundTurns : Int32) (walk_foundSlowed : Int32) (walk_howFar : Nat → Int32) (walk_tones : Nat → Int32) (walk_only : Nat → Int32) (walk_fars : Nat → Int32) (walk_cellAt : Nat → Int32) (walk_ends : Nat → Int64) (walk_seen : Nat → Int32) (walk_begun : Nat → Int32) (post : (Int32 × Int32 × Int32 × Int32 × Int32 × Int32 × Int32 × Int64 × Int32 × Int32 × Int32 × Int32 × Int32 × (Nat → Int32) × (Nat → Int32) × (Nat → Int32) × (Nat → Int32) × (Nat → Int32) × (Nat → Int64) × (Nat → Int32) × (Nat → Int32)) → Prop) (hf : okP (f_X6_walked o_walkIsOld told_settings told_howFar told_tones told_fars walk_last walk_turnsLet walk_slowsLet walk_fuel walk_glide walk_count walk_weightSum walk_toPass walk_foundNumber walk_foundWeight walk_foundTurns walk_foundSlowed walk_howFar walk_tones walk_only walk_fars walk_cellAt walk_ends walk_seen walk_begun) post) : Cr h_walk l (dC, dI) (tyL cyI cyJ cyO) yX6_walked wsX6_walked rm_X6_walked [.ref h_o] sz (W_X6_walked cyI cyJ cyO h_o h_told h_walk h_kept h_trial h_seas h_ends h_otherEnds h_tape a_sheets a_told_settings a_told_howFar a_told_tones a_told_currents a_told_warmths a_told_depths a_told_fars a_told_pieceCells a_told_pieceMonths a_told_pieceHighs a_told_pieceAges a_told_pieceNeeds a_told_dragCells a_told_dragEighths a_walk_howFar a_walk_tones a_walk_only a_walk_fars a_walk_cellAt a_walk_ends a_walk_seen a_walk_begun o_hasImage o_walkIsOld o_endsAreOld told_pieceCount told_dragCount told_settings told_howFar told_tones told_fars walk_last walk_turnsLet walk_slowsLet walk_fuel walk_glide walk_count walk_weightSum walk_toPass walk_foundNumber walk_foundWeight walk_foundTurns walk_foundSlowed walk_howFar walk_tones walk_only walk_fars walk_cellAt walk_ends walk_seen walk_begun) (zX tD tR tL tM) (fun u => post u) (fun u => (W_X6_walked cyI cyJ cyO h_o h_told h_walk h_kept h_trial h_seas h_ends h_otherEnds h_tape a_sheets a_told_settings a_told_howFar a_told_tones a_told_currents a_told_warmths a_told_depths a_told_fars a_told_pieceCells a_told_pieceMonths a_told_pieceHighs a_told_pieceAges a_told_pieceNeeds a_told_dragCells a_told_dragEighths a_walk_howFar a_walk_tones a_walk_only a_walk_fars a_walk_cellAt a_walk_ends a_walk_seen a_walk_begun o_hasImage u.1 o_endsAreOld told_pieceCount told_dragCount told_settings told_howFar told_tones told_fars u.2.1 u.2.2.1 u.2.2.2.1 u.2.2.2.2.1 u.2.2.2.2.2.1 u.2.2.2.2.2.2.1 u.2.2.2.2.2.2.2.1 u.2.2.2.2.2.2.2.2.1 u.2.2.2.2.2.2.2.2.2.1 u.2.2.2.2.2.2.2.2.2.2.1 u.2.2.2.2.2.2.2.2.2.2.2.1 u.2.2.2.2.2.2.2.2.2.2.2.2.1 u.2.2.2.2.2.2.2.2.2.2.2.2.2.1 u.2.2.2.2.2.2.2.2.2.2.2.2.2.2.1 u.2.2.2.2.2.2.2.2.2.2.2.2.2.2.2.1 u.2.2.2.2.2.2.2.2.2.2.2.2.2.2.2.2.1 u.2.2.2.2.2.2.2.2.2.2.2.2.2.2.2.2.2.1 u.2.2.2.2.2.2.2.2.2.2.2.2.2.2.2.2.2.2.1 u.2.2.2.2.2.2.2.2.2.2.2.2.2.2.2.2.2.2.2.1 u.2.2.2.2.2.2.2.2.2.2.2.2.2.2.2.2.2.2.2.2)) := by
  refine Met.ofW (cc := cX6_walked) (maxL := 1) (ret := (some (.object "SevenRings$Walk"))) (by decide) rfl ?_
  intro p e s m args below meth c s₁ B hml hv
  obtain ⟨rfl, hsz, hP, hK, hD0, hZ⟩ := hv
  have hx := B.exec
  have hb := B.bytes
  have hr := B.returns
  have hts := atoms_spec (ws := wsX6_walked) B.pre
  have hown : s.vm.findClass RX6 = some m.cls := findClass_of_methodNamed B.named
  have hlocks := B.notSynchronized
  subst hsz
  have hD := hD0.self (sz := s.heap.size)
  generalize hAe : va_A (W_X6_walked cyI cyJ cyO h_o h_told h_walk h_kept h_trial h_seas h_ends h_otherEnds h_tape a_sheets a_told_settings a_told_howFar a_told_tones a_told_currents a_told_warmths a_told_depths a_told_fars a_told_pieceCells a_told_pieceMonths a_told_pieceHighs a_told_pieceAges a_told_pieceNeeds a_told_dragCells a_told_dragEighths a_walk_howFar a_walk_tones a_walk_only a_walk_fars a_walk_cellAt a_walk_ends a_walk_seen a_walk_begun o_hasImage o_walkIsOld o_endsAreOld told_pieceCount told_dragCount told_settings told_howFar told_tones told_fars walk_last walk_turnsLet walk_slowsLet walk_fuel walk_glide walk_count walk_weightSum walk_toPass walk_foundNumber walk_foundWeight walk_foundTurns walk_foundSlowed walk_howFar walk_tones walk_only walk_fars walk_cellAt walk_ends walk_seen walk_begun) s.heap.size = A at hD hZ ⊢
  have hA : ∀ q : Nat, s.heap.size ≤ q → A q := fun q h => by rw [← hAe]; exact Or.inr h
  clear hAe hD0
  have hS : va_S A s.heap s.heap [] := va_S.rf
  have hl := lv_entry ([.ref h_o]) (n := 1) (Nat.le_of_ble_eq_true rfl)
  rw [lg_entry_eq]
  generalize (lg_sl ([.ref h_o]) ++ List.replicate (1 - (lg_sl ([.ref h_o])).length) Slot.unset).toArray = ls at hl ⊢
  have hl : lv_has ls 1 [(0, .ref h_o)] := hl
  refine kW (fun Q hQ => ?_)
  have hq0 := hts _ (List.mem_cons_of_mem _ q_280)
  have hi6 : ∀ w ∈ u_ws RX6 TX6 12, w ∈ wsX6_walked := fun w h => List.mem_cons_of_mem _ (inX6 w h)
  have hq2 := hts _ (List.mem_cons_of_mem _ q_272)
  have hq3 := hts _ (List.mem_cons_of_mem _ q_270)
  have hw := hf
  unfold f_X6_walked at hw
  have hP : va_P (dC, dI) vwCl (W_X6_walked cyI cyJ cyO h_o h_told h_walk h_kept h_trial h_seas h_ends h_otherEnds h_tape a_sheets a_told_settings a_told_howFar a_told_tones a_told_currents a_told_warmths a_told_depths a_told_fars a_told_pieceCells a_told_pieceMonths a_told_pieceHighs a_told_pieceAges a_told_pieceNeeds a_told_dragCells a_told_dragEighths a_walk_howFar a_walk_tones a_walk_only a_walk_fars a_walk_cellAt a_walk_ends a_walk_seen a_walk_begun o_hasImage o_walkIsOld o_endsAreOld told_pieceCount told_dragCount told_settings told_howFar told_tones told_fars walk_last walk_turnsLet walk_slowsLet walk_fuel walk_glide walk_count walk_weightSum walk_toPass walk_foundNumber walk_foundWeight walk_foundTurns walk_foundSlowed walk_howFar walk_tones walk_only walk_fars walk_cellAt walk_ends walk_seen walk_begun) s.heap := hP
  obtain ⟨H, hH⟩ : ∃ H, H = s.heap := ⟨_, rfl⟩
  obtain ⟨locs, hlo⟩ : ∃ x : List Loc, x = [] := ⟨_, rfl⟩
  have hP : va_P (dC, dI) vwCl (W_X6_walked cyI cyJ cyO h_o h_told h_walk h_kept h_trial h_seas h_ends h_otherEnds h_tape a_sheets a_told_settings a_told_howFar a_told_tones a_told_currents a_told_warmths a_told_depths a_told_fars a_told_pieceCells a_told_pieceMonths a_told_pieceHighs a_told_pieceAges a_told_pieceNeeds a_told_dragCells a_told_dragEighths a_walk_howFar a_walk_tones a_walk_only a_walk_fars a_walk_cellAt a_walk_ends a_walk_seen a_walk_begun o_hasImage o_walkIsOld o_endsAreOld told_pieceCount told_dragCount told_settings told_howFar told_tones told_fars walk_last walk_turnsLet walk_slowsLet walk_fuel walk_glide walk_count walk_weightSum walk_toPass walk_foundNumber walk_foundWeight walk_foundTurns walk_foundSlowed walk_howFar walk_tones walk_only walk_fars walk_cellAt walk_ends walk_seen walk_begun) H := by rw [hH]; exact hP
  have hS : va_S A s.heap H locs := by rw [hH, hlo]; exact hS
  refine kH hH hlo ?_
  clear hH hlo
  refine lv_aload_n hx hb dX6_walked_0 rfl (lv_at hl 0 rfl) ?_
  refine va_get (D := (dC, dI)) (ci := 6) (v := .int o_walkIsOld) (C := RX6) (T := TX6) (N := 12) hx hb hts hi6 hown hK hP 0 rfl rfl 10 (by decide) hq0 (fun _ h9 => h9) rfl dX6_walked_1 ?_
  refine lv_if_eq (tgt := 30) hx hb dX6_walked_4 (by decide) (fun c_1 => ?_) (fun c_1 => ?_)
  · replace hw := okT hw c_1
    clear c_1
    refine lv_aload_n hx hb dX6_walked_30 rfl (lv_at hl 0 rfl) ?_
    refine va_get (D := (dC, dI)) (ci := 6) (v := .ref h_walk) (C := RX6) (T := TX6) (N := 12) hx hb hts hi6 hown hK hP 0 rfl rfl 2 (by decide) hq2 (fun _ h9 => h9) rfl dX6_walked_31 ?_
    rw [hQ]
    exact W.aret hx hb hr (Or.inl ⟨_, rfl⟩) (Or.inr ⟨_, rfl⟩) (fun t ht hW => ⟨⟨(o_walkIsOld, walk_last, walk_turnsLet, walk_slowsLet, walk_fuel, walk_glide, walk_count, walk_weightSum, walk_toPass, walk_foundNumber, walk_foundWeight, walk_foundTurns, walk_foundSlowed, walk_howFar, walk_tones, walk_only, walk_fars, walk_cellAt, walk_ends, walk_seen, walk_begun), h_walk, rfl, okS hw, rfl, by rw [ht]; exact hP, va_K.moved hW.alike hK, hD⟩, hS.F ht⟩) hS.2.2 dX6_walked_34
  · replace hw := okF hw c_1
    clear c_1
    refine lv_aload_n hx hb dX6_walked_7 rfl (lv_at hl 0 rfl) ?_
    refine va_get (D := (dC, dI)) (ci := 6) (v := .ref h_walk) (C := RX6) (T := TX6) (N := 12) hx hb hts hi6 hown hK hP 0 rfl rfl 2 (by decide) hq2 (fun _ h9 => h9) rfl dX6_walked_8 ?_
    refine lv_aload_n hx hb dX6_walked_11 rfl (lv_at hl 0 rfl) ?_
    refine va_get (D := (dC, dI)) (ci := 6) (v := .ref h_told) (C := RX6) (T := TX6) (N := 12) hx hb hts hi6 hown hK hP 0 rfl rfl 0 (by decide) hq3 (fun _ h9 => h9) rfl dX6_walked_12 ?_
    have hPc := hP.sub (ws' := (W_X5_begin cyI cyJ cyO h_walk h_told a_walk_howFar a_walk_tones a_walk_only a_walk_fars a_walk_cellAt a_walk_ends a_walk_seen a_walk_begun a_told_settings a_told_howFar a_told_tones a_told_currents a_told_warmths a_told_depths a_told_fars a_told_pieceCells a_told_pieceMonths a_told_pieceHighs a_told_pieceAges a_told_pieceNeeds a_told_dragCells a_told_dragEighths walk_last walk_turnsLet walk_slowsLet walk_fuel walk_glide walk_count walk_weightSum walk_toPass walk_foundNumber walk_foundWeight walk_foundTurns walk_foundSlowed walk_howFar walk_tones walk_only walk_fars walk_cellAt told_pieceCount told_dragCount told_settings told_howFar told_tones told_fars)) [6, 7, 8, 9, 10, 11, 1, 2, 3, 4, 5] rfl
    have hDc := hD.sub (ws' := (W_X5_begin cyI cyJ cyO h_walk h_told a_walk_howFar a_walk_tones a_walk_only a_walk_fars a_walk_cellAt a_walk_ends a_walk_seen a_walk_begun a_told_settings a_told_howFar a_told_tones a_told_currents a_told_warmths a_told_depths a_told_fars a_told_pieceCells a_told_pieceMonths a_told_pieceHighs a_told_pieceAges a_told_pieceNeeds a_told_dragCells a_told_dragEighths walk_last walk_turnsLet walk_slowsLet walk_fuel walk_glide walk_count walk_weightSum walk_toPass walk_foundNumber walk_foundWeight walk_foundTurns walk_foundSlowed walk_howFar walk_tones walk_only walk_fars walk_cellAt told_pieceCount told_dragCount told_settings told_howFar told_tones told_fars)) [6, 7, 8, 9, 10, 11, 1, 2, 3, 4, 5] (by decide +kernel) rfl
    have hFc := va_free (wc := (W_X5_begin cyI cyJ cyO h_walk h_told a_walk_howFar a_walk_tones a_walk_only a_walk_fars a_walk_cellAt a_walk_ends a_walk_seen a_walk_begun a_told_settings a_told_howFar a_told_tones a_told_currents a_told_warmths a_told_depths a_told_fars a_told_pieceCells a_told_pieceMonths a_told_pieceHighs a_told_pieceAges a_told_pieceNeeds a_told_dragCells a_told_dragEighths walk_last walk_turnsLet walk_slowsLet walk_fuel walk_glide walk_count walk_weightSum walk_toPass walk_foundNumber walk_foundWeight walk_foundTurns walk_foundSlowed walk_howFar walk_tones walk_only walk_fars walk_cellAt told_pieceCount told_dragCount told_settings told_howFar told_tones told_fars)) hD hS hA [6, 7, 8, 9, 10, 11, 1, 2, 3, 4, 5] rfl
    refine kc_v (wr := [(h_o, .inr (6, [.ref h_told, .ref h_kept, .ref h_walk, .ref h_trial, .ref h_seas, .ref h_ends, .ref h_otherEnds, .ref h_tape, .ref a_sheets, .int o_hasImage, .int o_walkIsOld, .int o_endsAreOld])), (a_walk_ends, .inl (cyJ, 100, .inr (.inl walk_ends))), (a_walk_seen, .inl (cyI, 70, .inl walk_seen)), (a_walk_begun, .inl (cyI, 24, .inl walk_begun))]) (va_runV (As := [.ref h_told]) (rest := []) ⟨hx, hb, hml, hown, hts⟩ (c_X5_begin l dC dI cyI cyJ cyO H.size h_walk h_told a_walk_howFar a_walk_tones a_walk_only a_walk_fars a_walk_cellAt a_walk_ends a_walk_seen a_walk_begun a_told_settings a_told_howFar a_told_tones a_told_currents a_told_warmths a_told_depths a_told_fars a_told_pieceCells a_told_pieceMonths a_told_pieceHighs a_told_pieceAges a_told_pieceNeeds a_told_dragCells a_told_dragEighths walk_last walk_turnsLet walk_slowsLet walk_fuel walk_glide walk_count walk_weightSum walk_toPass walk_foundNumber walk_foundWeight walk_foundTurns walk_foundSlowed walk_howFar walk_tones walk_only walk_fars walk_cellAt told_pieceCount told_dragCount told_settings told_howFar told_tones told_fars _ (okb10 hw)) (cwV 1 hts (gdV (fun w h => List.mem_cons_of_mem _ h) q_401 q_402 q_403 q_3 q_404) rfl rfl rfl (by decide +kernel) ⟨Nat.le_of_ble_eq_true rfl, Nat.le_of_ble_eq_true rfl⟩) ⟨(kpre zN_ok hK hPc hDc trivial hS hFc).1, va_recv hK hP (ci := 5) (q0 := 6) rfl rfl, (kpre zN_ok hK hPc hDc trivial hS hFc).2⟩ rfl rfl hl.1 rfl (lv_room (Nat.le_of_ble_eq_true rfl)) dX6_walked_15 ⟨Nat.le_of_ble_eq_true rfl, Nat.le_of_ble_eq_true rfl⟩) hP hD hS hFc [6, 7, 8, 9, 10, 11, 1, 2, 3, 4, 5] [0, 12, 13, 14] rfl rfl (by decide +kernel) (by decide +kernel) (fun u H locs hw hP hD hS => ?_)
    obtain ⟨w_2, w_3, w_4, w_5, w_6, w_7, w_8, w_9, w_10, w_11⟩ := u
    try dsimp only at hw
    have hP : va_P (dC, dI) vwCl (W_X6_walked cyI cyJ cyO h_o h_told h_walk h_kept h_trial h_seas h_ends h_otherEnds h_tape a_sheets a_told_settings a_told_howFar a_told_tones a_told_currents a_told_warmths a_told_depths a_told_fars a_told_pieceCells a_told_pieceMonths a_told_pieceHighs a_told_pieceAges a_told_pieceNeeds a_told_dragCells a_told_dragEighths a_walk_howFar a_walk_tones a_walk_only a_walk_fars a_walk_cellAt a_walk_ends a_walk_seen a_walk_begun o_hasImage o_walkIsOld o_endsAreOld told_pieceCount told_dragCount told_settings told_howFar told_tones told_fars w_2 w_3 w_4 w_5 w_6 walk_count walk_weightSum walk_toPass walk_foundNumber walk_foundWeight walk_foundTurns walk_foundSlowed w_7 w_8 w_9 w_10 w_11 walk_ends walk_seen walk_begun) H := hP.sub [0, 10, 11, 12, 13, 14, 4, 5, 6, 7, 8, 9, 1, 2, 3] rfl
    have hD : va_D A (W_X6_walked cyI cyJ cyO h_o h_told h_walk h_kept h_trial h_seas h_ends h_otherEnds h_tape a_sheets a_told_settings a_told_howFar a_told_tones a_told_currents a_told_warmths a_told_depths a_told_fars a_told_pieceCells a_told_pieceMonths a_told_pieceHighs a_told_pieceAges a_told_pieceNeeds a_told_dragCells a_told_dragEighths a_walk_howFar a_walk_tones a_walk_only a_walk_fars a_walk_cellAt a_walk_ends a_walk_seen a_walk_begun o_hasImage o_walkIsOld o_endsAreOld told_pieceCount told_dragCount told_settings told_howFar told_tones told_fars w_2 w_3 w_4 w_5 w_6 walk_count walk_weightSum walk_toPass walk_foundNumber walk_foundWeight walk_foundTurns walk_foundSlowed w_7 w_8 w_9 w_10 w_11 walk_ends walk_seen walk_begun) := hD.sub [0, 10, 11, 12, 13, 14, 4, 5, 6, 7, 8, 9, 1, 2, 3] (by decide +kernel) rfl
    clear hPc hDc hFc
    refine lv_aload_n hx hb dX6_walked_18 rfl (lv_at hl 0 rfl) ?_
    refine va_get (D := (dC, dI)) (ci := 6) (v := .ref h_walk) (C := RX6) (T := TX6) (N := 12) hx hb hts hi6 hown hK hP 0 rfl rfl 2 (by decide) hq2 (fun _ h9 => h9) rfl dX6_walked_19 ?_
    have hPc := hP.sub (ws' := (W_X5_goAll cyI cyJ cyO h_walk a_walk_howFar a_walk_tones a_walk_only a_walk_fars a_walk_cellAt a_walk_ends a_walk_seen a_walk_begun w_2 w_3 w_4 w_5 w_6 walk_count walk_weightSum walk_toPass walk_foundNumber walk_foundWeight walk_foundTurns walk_foundSlowed w_7 w_8 w_9 w_10 w_11 walk_ends walk_seen walk_begun)) [6, 7, 8, 9, 10, 11, 12, 13, 14] rfl
    have hDc := hD.sub (ws' := (W_X5_goAll cyI cyJ cyO h_walk a_walk_howFar a_walk_tones a_walk_only a_walk_fars a_walk_cellAt a_walk_ends a_walk_seen a_walk_begun w_2 w_3 w_4 w_5 w_6 walk_count walk_weightSum walk_toPass walk_foundNumber walk_foundWeight walk_foundTurns walk_foundSlowed w_7 w_8 w_9 w_10 w_11 walk_ends walk_seen walk_begun)) [6, 7, 8, 9, 10, 11, 12, 13, 14] (by decide +kernel) rfl
    have hFc := va_free (wc := (W_X5_goAll cyI cyJ cyO h_walk a_walk_howFar a_walk_tones a_walk_only a_walk_fars a_walk_cellAt a_walk_ends a_walk_seen a_walk_begun w_2 w_3 w_4 w_5 w_6 walk_count walk_weightSum walk_toPass walk_foundNumber walk_foundWeight walk_foundTurns walk_foundSlowed w_7 w_8 w_9 w_10 w_11 walk_ends walk_seen walk_begun)) hD hS hA [6, 7, 8, 9, 10, 11, 12, 13, 14] rfl
    refine kc_v (wr := [(h_o, .inr (6, [.ref h_told, .ref h_kept, .ref h_walk, .ref h_trial, .ref h_seas, .ref h_ends, .ref h_otherEnds, .ref h_tape, .ref a_sheets, .int o_hasImage, .int o_walkIsOld, .int o_endsAreOld])), (h_told, .inr (4, [.ref a_told_settings, .ref a_told_howFar, .ref a_told_tones, .ref a_told_currents, .ref a_told_warmths, .ref a_told_depths, .ref a_told_fars, .ref a_told_pieceCells, .ref a_told_pieceMonths, .ref a_told_pieceHighs, .ref a_told_pieceAges, .ref a_told_pieceNeeds, .ref a_told_dragCells, .ref a_told_dragEighths, .int told_pieceCount, .int told_dragCount])), (a_told_settings, .inl (cyI, 8, .inl told_settings)), (a_told_howFar, .inl (cyI, 7, .inl told_howFar)), (a_told_tones, .inl (cyI, 7, .inl told_tones)), (a_told_fars, .inl (cyI, 100, .inl told_fars))]) (va_runV (As := []) (rest := []) ⟨hx, hb, hml, hown, hts⟩ (c_X5_goAll l dC dI cyI cyJ cyO H.size tD tR tL tM h_walk a_walk_howFar a_walk_tones a_walk_only a_walk_fars a_walk_cellAt a_walk_ends a_walk_seen a_walk_begun w_2 w_3 w_4 w_5 w_6 walk_count walk_weightSum walk_toPass walk_foundNumber walk_foundWeight walk_foundTurns walk_foundSlowed w_7 w_8 w_9 w_10 w_11 walk_ends walk_seen walk_begun _ (okb11 hw)) (cwV 0 hts (gdV (fun w h => List.mem_cons_of_mem _ h) q_408 q_409 q_410 q_3 q_411) rfl rfl rfl (by decide +kernel) ⟨Nat.le_of_ble_eq_true rfl, Nat.le_of_ble_eq_true rfl⟩) ⟨(kpre zX_ok hK hPc hDc hZ hS hFc).1, va_recv hK hP (ci := 5) (q0 := 6) rfl rfl, (kpre zX_ok hK hPc hDc hZ hS hFc).2⟩ rfl rfl hl.1 rfl (lv_room (Nat.le_of_ble_eq_true rfl)) dX6_walked_22 ⟨Nat.le_of_ble_eq_true rfl, Nat.le_of_ble_eq_true rfl⟩) hP hD hS hFc [6, 7, 8, 9, 10, 11, 12, 13, 14] [0, 1, 2, 3, 4, 5] rfl rfl (by decide +kernel) (by decide +kernel) (fun u H locs hw hP hD hS => ?_)
    obtain ⟨w_12, w_13, w_14, w_15, w_16, w_17, w_18, w_19, w_20, w_21, w_22⟩ := u
    try dsimp only at hw
    have hP : va_P (dC, dI) vwCl (W_X6_walked cyI cyJ cyO h_o h_told h_walk h_kept h_trial h_seas h_ends h_otherEnds h_tape a_sheets a_told_settings a_told_howFar a_told_tones a_told_currents a_told_warmths a_told_depths a_told_fars a_told_pieceCells a_told_pieceMonths a_told_pieceHighs a_told_pieceAges a_told_pieceNeeds a_told_dragCells a_told_dragEighths a_walk_howFar a_walk_tones a_walk_only a_walk_fars a_walk_cellAt a_walk_ends a_walk_seen a_walk_begun o_hasImage o_walkIsOld o_endsAreOld told_pieceCount told_dragCount told_settings told_howFar told_tones told_fars w_2 w_3 w_4 w_5 w_6 w_12 w_13 w_14 w_15 w_16 w_17 w_18 w_7 w_8 w_9 w_10 w_19 w_20 w_21 w_22) H := hP.sub [0, 1, 2, 3, 4, 5, 6, 7, 8, 9, 10, 11, 12, 13, 14] rfl
    have hD : va_D A (W_X6_walked cyI cyJ cyO h_o h_told h_walk h_kept h_trial h_seas h_ends h_otherEnds h_tape a_sheets a_told_settings a_told_howFar a_told_tones a_told_currents a_told_warmths a_told_depths a_told_fars a_told_pieceCells a_told_pieceMonths a_told_pieceHighs a_told_pieceAges a_told_pieceNeeds a_told_dragCells a_told_dragEighths a_walk_howFar a_walk_tones a_walk_only a_walk_fars a_walk_cellAt a_walk_ends a_walk_seen a_walk_begun o_hasImage o_walkIsOld o_endsAreOld told_pieceCount told_dragCount told_settings told_howFar told_tones told_fars w_2 w_3 w_4 w_5 w_6 w_12 w_13 w_14 w_15 w_16 w_17 w_18 w_7 w_8 w_9 w_10 w_19 w_20 w_21 w_22) := hD.sub [0, 1, 2, 3, 4, 5, 6, 7, 8, 9, 10, 11, 12, 13, 14] (by decide +kernel) rfl
    clear hPc hDc hFc
    refine lv_aload_n hx hb dX6_walked_25 rfl (lv_at hl 0 rfl) ?_
    refine lv_iconst (v := 0) hx hb dX6_walked_26 (by decide) ?_
    refine va_put (D := (dC, dI)) (ci := 6) (v := .int 0) (ty := .boolean) (C := RX6) (T := TX6) (N := 12) hx hb hts hi6 tyX6 tyX6_ok nmX6 hown hK hP hD hS 0 rfl rfl 10 (by decide) hq0 (fun _ h9 => h9) rfl (by decide +kernel) rfl rfl (Nat.le_of_ble_eq_true rfl) dX6_walked_27 (fun H locs hP hD hS => ?_)
    have hP : va_P (dC, dI) vwCl (W_X6_walked cyI cyJ cyO h_o h_told h_walk h_kept h_trial h_seas h_ends h_otherEnds h_tape a_sheets a_told_settings a_told_howFar a_told_tones a_told_currents a_told_warmths a_told_depths a_told_fars a_told_pieceCells a_told_pieceMonths a_told_pieceHighs a_told_pieceAges a_told_pieceNeeds a_told_dragCells a_told_dragEighths a_walk_howFar a_walk_tones a_walk_only a_walk_fars a_walk_cellAt a_walk_ends a_walk_seen a_walk_begun o_hasImage 0 o_endsAreOld told_pieceCount told_dragCount told_settings told_howFar told_tones told_fars w_2 w_3 w_4 w_5 w_6 w_12 w_13 w_14 w_15 w_16 w_17 w_18 w_7 w_8 w_9 w_10 w_19 w_20 w_21 w_22) H := hP
    have hD : va_D A (W_X6_walked cyI cyJ cyO h_o h_told h_walk h_kept h_trial h_seas h_ends h_otherEnds h_tape a_sheets a_told_settings a_told_howFar a_told_tones a_told_currents a_told_warmths a_told_depths a_told_fars a_told_pieceCells a_told_pieceMonths a_told_pieceHighs a_told_pieceAges a_told_pieceNeeds a_told_dragCells a_told_dragEighths a_walk_howFar a_walk_tones a_walk_only a_walk_fars a_walk_cellAt a_walk_ends a_walk_seen a_walk_begun o_hasImage 0 o_endsAreOld told_pieceCount told_dragCount told_settings told_howFar told_tones told_fars w_2 w_3 w_4 w_5 w_6 w_12 w_13 w_14 w_15 w_16 w_17 w_18 w_7 w_8 w_9 w_10 w_19 w_20 w_21 w_22) := hD
    refine lv_aload_n hx hb dX6_walked_30 rfl (lv_at hl 0 rfl) ?_
    refine va_get (D := (dC, dI)) (ci := 6) (v := .ref h_walk) (C := RX6) (T := TX6) (N := 12) hx hb hts hi6 hown hK hP 0 rfl rfl 2 (by decide) hq2 (fun _ h9 => h9) rfl dX6_walked_31 ?_
    rw [hQ]
    exact W.aret hx hb hr (Or.inl ⟨_, rfl⟩) (Or.inr ⟨_, rfl⟩) (fun t ht hW => ⟨⟨(0, w_2, w_3, w_4, w_5, w_6, w_12, w_13, w_14, w_15, w_16, w_17, w_18, w_7, w_8, w_9, w_10, w_19, w_20, w_21, w_22), h_walk, rfl, okS hw, rfl, by rw [ht]; exact hP, va_K.moved hW.alike hK, hD⟩, hS.F ht⟩) hS.2.2 dX6_walked_34
/-! ===== X6_weighed ===== -/
theorem dX6_weighed_0 : decode cX6_weighed 0 = .ok (.aload_n 0, 1) := by decide +kernel
theorem dX6_weighed_1 : decode cX6_weighed 1 = .ok (.invokevirtual 121, 3) := by decide +kernel
theorem dX6_weighed_4 : decode cX6_weighed 4 = .ok (.astore_n 1, 1) := by decide +kernel
theorem dX6_weighed_5 : decode cX6_weighed 5 = .ok (.aload_n 0, 1) := by decide +kernel
theorem dX6_weighed_6 : decode cX6_weighed 6 = .ok (.getfield 70, 3) := by decide +kernel
theorem dX6_weighed_9 : decode cX6_weighed 9 = .ok (.ifCond .eq 20, 3) := by decide +kernel
theorem dX6_weighed_12 : decode cX6_weighed 12 = .ok (.aload_n 0, 1) := by decide +kernel
theorem dX6_weighed_13 : decode cX6_weighed 13 = .ok (.getfield 43, 3) := by decide +kernel
theorem dX6_weighed_16 : decode cX6_weighed 16 = .ok (.aload_n 1, 1) := by decide +kernel
theorem dX6_weighed_17 : decode cX6_weighed 17 = .ok (.getfield 257, 3) := by decide +kernel
theorem dX6_weighed_20 : decode cX6_weighed 20 = .ok (.iconst (-1), 1) := by decide +kernel
theorem dX6_weighed_21 : decode cX6_weighed 21 = .ok (.invokevirtual 310, 3) := by decide +kernel
theorem dX6_weighed_24 : decode cX6_weighed 24 = .ok (.aload_n 0, 1) := by decide +kernel
theorem dX6_weighed_25 : decode cX6_weighed 25 = .ok (.iconst 0, 1) := by decide +kernel
theorem dX6_weighed_26 : decode cX6_weighed 26 = .ok (.putfield 70, 3) := by decide +kernel
theorem dX6_weighed_29 : decode cX6_weighed 29 = .ok (.aload_n 0, 1) := by decide +kernel
theorem dX6_weighed_30 : decode cX6_weighed 30 = .ok (.getfield 43, 3) := by decide +kernel
theorem dX6_weighed_33 : decode cX6_weighed 33 = .ok (.areturn, 1) := by decide +kernel
abbrev W_X6_weighed (cyI cyJ cyO : ClassId) (h_o h_told h_walk h_seas h_ends h_kept h_trial h_otherEnds h_tape a_sheets a_told_settings a_told_howFar a_told_tones a_told_currents a_told_warmths a_told_depths a_told_fars a_told_pieceCells a_told_pieceMonths a_told_pieceHighs a_told_pieceAges a_told_pieceNeeds a_told_dragCells a_told_dragEighths a_walk_howFar a_walk_tones a_walk_only a_walk_fars a_walk_cellAt a_walk_ends a_walk_seen a_walk_begun a_seas_known a_ends_sums : Nat) (o_hasImage : Int32) (o_walkIsOld : Int32) (o_endsAreOld : Int32) (told_pieceCount : Int32) (told_dragCount : Int32) (told_settings : Nat → Int32) (told_howFar : Nat → Int32) (told_tones : Nat → Int32) (told_currents : Nat → Int32) (told_warmths : Nat → Int32) (told_fars : Nat → Int32) (told_pieceCells : Nat → Int32) (told_pieceMonths : Nat → Int32) (told_pieceHighs : Nat → Int32) (told_pieceAges : Nat → Int32) (told_pieceNeeds : Nat → Int32) (told_dragCells : Nat → Int32) (told_dragEighths : Nat → Int32) (walk_last : Int32) (walk_turnsLet : Int32) (walk_slowsLet : Int32) (walk_fuel : Int32) (walk_glide : Int32) (walk_count : Int32) (walk_weightSum : Int64) (walk_toPass : Int32) (walk_foundNumber : Int32) (walk_foundWeight : Int32) (walk_foundTurns : Int32) (walk_foundSlowed : Int32) (walk_howFar : Nat → Int32) (walk_tones : Nat → Int32) (walk_only : Nat → Int32) (walk_fars : Nat → Int32) (walk_cellAt : Nat → Int32) (walk_ends : Nat → Int64) (walk_seen : Nat → Int32) (walk_begun : Nat → Int32) (seas_known : Nat → Int32) (ends_total : Int64) (ends_sums : Nat → Int64) : va_W := [(h_o, .inr (6, [.ref h_told, .ref h_kept, .ref h_walk, .ref h_trial, .ref h_seas, .ref h_ends, .ref h_otherEnds, .ref h_tape, .ref a_sheets, .int o_hasImage, .int o_walkIsOld, .int o_endsAreOld])), (h_told, .inr (4, [.ref a_told_settings, .ref a_told_howFar, .ref a_told_tones, .ref a_told_currents, .ref a_told_warmths, .ref a_told_depths, .ref a_told_fars, .ref a_told_pieceCells, .ref a_told_pieceMonths, .ref a_told_pieceHighs, .ref a_told_pieceAges, .ref a_told_pieceNeeds, .ref a_told_dragCells, .ref a_told_dragEighths, .int told_pieceCount, .int told_dragCount])), (a_told_settings, .inl (cyI, 8, .inl told_settings)), (a_told_howFar, .inl (cyI, 7, .inl told_howFar)), (a_told_tones, .inl (cyI, 7, .inl told_tones)), (a_told_currents, .inl (cyI, 200, .inl told_currents)), (a_told_warmths, .inl (cyI, 200, .inl told_warmths)), (a_told_fars, .inl (cyI, 100, .inl told_fars)), (a_told_pieceCells, .inl (cyI, 4, .inl told_pieceCells)), (a_told_pieceMonths, .inl (cyI, 4, .inl told_pieceMonths)), (a_told_pieceHighs, .inl (cyI, 4, .inl told_pieceHighs)), (a_told_pieceAges, .inl (cyI, 4, .inl told_pieceAges)), (a_told_pieceNeeds, .inl (cyI, 4, .inl told_pieceNeeds)), (a_told_dragCells, .inl (cyI, 4, .inl told_dragCells)), (a_told_dragEighths, .inl (cyI, 4, .inl told_dragEighths)), (h_walk, .inr (5, [.ref a_walk_howFar, .ref a_walk_tones, .ref a_walk_only, .ref a_walk_fars, .int walk_last, .int walk_turnsLet, .int walk_slowsLet, .int walk_fuel, .int walk_glide, .ref a_walk_cellAt, .ref a_walk_ends, .ref a_walk_seen, .ref a_walk_begun, .int walk_count, .long walk_weightSum, .int walk_toPass, .int walk_foundNumber, .int walk_foundWeight, .int walk_foundTurns, .int walk_foundSlowed])), (a_walk_howFar, .inl (cyI, 7, .inl walk_howFar)), (a_walk_tones, .inl (cyI, 7, .inl walk_tones)), (a_walk_only, .inl (cyI, 7, .inl walk_only)), (a_walk_fars, .inl (cyI, 100, .inl walk_fars)), (a_walk_cellAt, .inl (cyI, 7, .inl walk_cellAt)), (a_walk_ends, .inl (cyJ, 100, .inr (.inl walk_ends))), (a_walk_seen, .inl (cyI, 70, .inl walk_seen)), (a_walk_begun, .inl (cyI, 24, .inl walk_begun)), (h_seas, .inr (1, [.ref h_told, .ref a_seas_known])), (a_seas_known, .inl (cyI, 400, .inl seas_known)), (h_ends, .inr (0, [.ref h_told, .ref h_seas, .ref a_ends_sums, .long ends_total])), (a_ends_sums, .inl (cyJ, 100, .inr (.inl ends_sums)))]
def f_X6_weighed (o_walkIsOld : Int32) (o_endsAreOld : Int32) (told_pieceCount : Int32) (told_dragCount : Int32) (told_settings : Nat → Int32) (told_howFar : Nat → Int32) (told_tones : Nat → Int32) (told_currents : Nat → Int32) (told_warmths : Nat → Int32) (told_fars : Nat → Int32) (told_pieceCells : Nat → Int32) (told_pieceMonths : Nat → Int32) (told_pieceHighs : Nat → Int32) (told_pieceAges : Nat → Int32) (told_pieceNeeds : Nat → Int32) (told_dragCells : Nat → Int32) (told_dragEighths : Nat → Int32) (walk_last : Int32) (walk_turnsLet : Int32) (walk_slowsLet : Int32) (walk_fuel : Int32) (walk_glide : Int32) (walk_count : Int32) (walk_weightSum : Int64) (walk_toPass : Int32) (walk_foundNumber : Int32) (walk_foundWeight : Int32) (walk_foundTurns : Int32) (walk_foundSlowed : Int32) (walk_howFar : Nat → Int32) (walk_tones : Nat → Int32) (walk_only : Nat → Int32) (walk_fars : Nat → Int32) (walk_cellAt : Nat → Int32) (walk_ends : Nat → Int64) (walk_seen : Nat → Int32) (walk_begun : Nat → Int32) (seas_known : Nat → Int32) (ends_total : Int64) (ends_sums : Nat → Int64) : Option (Int32 × Int32 × Int32 × Int32 × Int32 × Int32 × Int32 × Int32 × Int64 × Int32 × Int32 × Int32 × Int32 × Int32 × (Nat → Int32) × (Nat → Int32) × (Nat → Int32) × (Nat → Int32) × (Nat → Int32) × (Nat → Int64) × (Nat → Int32) × (Nat → Int32) × (Nat → Int32) × Int64 × (Nat → Int64)) :=
  bd21 (f_X6_walked o_walkIsOld told_settings told_howFar told_tones told_fars walk_last walk_turnsLet walk_slowsLet walk_fuel walk_glide walk_count walk_weightSum walk_toPass walk_foundNumber walk_foundWeight walk_foundTurns walk_foundSlowed walk_howFar walk_tones walk_only walk_fars walk_cellAt walk_ends walk_seen walk_begun) fun w_1 w_2 w_3 w_4 w_5 w_6 w_7 w_8 w_9 w_10 w_11 w_12 w_13 w_14 w_15 w_16 w_17 w_18 w_19 w_20 w_21 =>
  if o_endsAreOld = 0 then
    some (w_1, o_endsAreOld, w_2, w_3, w_4, w_5, w_6, w_7, w_8, w_9, w_10, w_11, w_12, w_13, w_14, w_15, w_16, w_17, w_18, w_19, w_20, w_21, seas_known, ends_total, ends_sums)
  else
    bd3 (f_X0_weigh 100 (-1) ends_total ends_sums told_pieceCount told_dragCount told_settings told_currents told_warmths told_pieceCells told_pieceMonths told_pieceHighs told_pieceAges told_pieceNeeds told_dragCells told_dragEighths seas_known w_19) fun w_22 w_23 w_24 =>
    some (w_1, 0, w_2, w_3, w_4, w_5, w_6, w_7, w_8, w_9, w_10, w_11, w_12, w_13, w_14, w_15, w_16, w_17, w_18, w_19, w_20, w_21, w_24, w_22, w_23)
abbrev rm_X6_weighed : Room := { frames := 43, cells := 0, slots := 0, locals := 1074 }
set_option maxRecDepth 100000 in
set_option maxHeartbeats 4000000 in
theorem c_X6_weighed (l : Launch) (dC : Nat → ClassId) (dI : Nat → Nat → Nat) (cyI cyJ cyO : ClassId) (sz : Nat) (tD tR tL tM : Nat) (h_o h_told h_walk h_seas h_ends h_kept h_trial h_otherEnds h_tape a_sheets a_told_settings a_told_howFar a_told_tones a_told_currents a_told_warmths a_told_depths a_told_fars a_told_pieceCells a_told_pieceMonths a_told_pieceHighs a_told_pieceAges a_told_pieceNeeds a_told_dragCells a_told_dragEighths a_walk_howFar a_walk_tones a_walk_only a_walk_fars a_walk_cellAt a_walk_ends a_walk_seen a_walk_begun a_seas_known a_ends_sums : Nat) (o_hasImage : Int32) (o_walkIsOld : Int32) (o_endsAreOld : Int32) (told_pieceCount : Int32) (told_dragCount : Int32) (told_settings : Nat → Int32) (told_howFar : Nat → Int32) (told_tones : Nat → Int32) (told_currents : Nat → Int32) (told_warmths : Nat → Int32) (told_fars : Nat → Int32) (told_pieceCells : Nat → Int32) (told_pieceMonths : Nat → Int32) (told_pieceHighs : Nat → Int32) (told_pieceAges : Nat → Int32) (told_pieceNeeds : Nat → Int32) (told_dragCells : Nat → Int32) (told_dragEighths : Nat → Int32) (walk_last : Int32) (walk_turnsLet : Int32) (walk_slowsLet : Int32) (walk_fuel : Int32) (walk_glide : Int32) (walk_count : Int32) (walk_weightSum : Int64) (walk_toPass : Int32) (walk_foundNumber : Int32) (walk_foundWeight : Int32) (walk_foundTurns : Int32) (walk_foundSlowed : Int32) (walk_howFar : Nat → Int32) (walk_tones : Nat → Int32) (walk_only : Nat → Int32) (walk_fars : Nat → Int32) (walk_cellAt : Nat → Int32) (walk_ends : Nat → Int64) (walk_seen : Nat → Int32) (walk_begun : Nat → Int32) (seas_known : Nat → Int32) (ends_total : Int64) (ends_sums : Nat → Int64) (post : (Int32 × Int32 × Int32 × Int32 × Int32 × Int32 × Int32 × Int32 × Int64 × Int32 × Int32 × Int32 × Int32 × Int32 × (Nat → Int32) × (Nat → Int32) × (Nat → Int32) × (Nat → Int32) × (Nat → Int32) × (Nat → Int64) × (Nat → Int32) × (Nat → Int32) × (Nat → Int32) × Int64 × (Nat → Int64)) → Prop) (hf : okP (f_X6_weighed o_walkIsOld o_endsAreOld told_pieceCount told_dragCount told_settings told_howFar told_tones told_currents told_warmths told_fars told_pieceCells told_pieceMonths told_pieceHighs told_pieceAges told_pieceNeeds told_dragCells told_dragEighths walk_last walk_turnsLet walk_slowsLet walk_fuel walk_glide walk_count walk_weightSum walk_toPass walk_foundNumber walk_foundWeight walk_foundTurns walk_foundSlowed walk_howFar walk_tones walk_only walk_fars walk_cellAt walk_ends walk_seen walk_begun seas_known ends_total ends_sums) post) : Cr h_ends l (dC, dI) (tyL cyI cyJ cyO) yX6_weighed wsX6_weighed rm_X6_weighed [.ref h_o] sz (W_X6_weighed cyI cyJ cyO h_o h_told h_walk h_seas h_ends h_kept h_trial h_otherEnds h_tape a_sheets a_told_settings a_told_howFar a_told_tones a_told_currents a_told_warmths a_told_depths a_told_fars a_told_pieceCells a_told_pieceMonths a_told_pieceHighs a_told_pieceAges a_told_pieceNeeds a_told_dragCells a_told_dragEighths a_walk_howFar a_walk_tones a_walk_only a_walk_fars a_walk_cellAt a_walk_ends a_walk_seen a_walk_begun a_seas_known a_ends_sums o_hasImage o_walkIsOld o_endsAreOld told_pieceCount told_dragCount told_settings told_howFar told_tones told_currents told_warmths told_fars told_pieceCells told_pieceMonths told_pieceHighs told_pieceAges told_pieceNeeds told_dragCells told_dragEighths walk_last walk_turnsLet walk_slowsLet walk_fuel walk_glide walk_count walk_weightSum walk_toPass walk_foundNumber walk_foundWeight walk_foundTurns walk_foundSlowed walk_howFar walk_tones walk_only walk_fars walk_cellAt walk_ends walk_seen walk_begun seas_known ends_total ends_sums) (zX tD tR tL tM) (fun u => post u) (fun u => (W_X6_weighed cyI cyJ cyO h_o h_told h_walk h_seas h_ends h_kept h_trial h_otherEnds h_tape a_sheets a_told_settings a_told_howFar a_told_tones a_told_currents a_told_warmths a_told_depths a_told_fars a_told_pieceCells a_told_pieceMonths a_told_pieceHighs a_told_pieceAges a_told_pieceNeeds a_told_dragCells a_told_dragEighths a_walk_howFar a_walk_tones a_walk_only a_walk_fars a_walk_cellAt a_walk_ends a_walk_seen a_walk_begun a_seas_known a_ends_sums o_hasImage u.1 u.2.1 told_pieceCount told_dragCount told_settings told_howFar told_tones told_currents told_warmths told_fars told_pieceCells told_pieceMonths told_pieceHighs told_pieceAges told_pieceNeeds told_dragCells told_dragEighths u.2.2.1 u.2.2.2.1 u.2.2.2.2.1 u.2.2.2.2.2.1 u.2.2.2.2.2.2.1 u.2.2.2.2.2.2.2.1 u.2.2.2.2.2.2.2.2.1 u.2.2.2.2.2.2.2.2.2.1 u.2.2.2.2.2.2.2.2.2.2.1 u.2.2.2.2.2.2.2.2.2.2.2.1 u.2.2.2.2.2.2.2.2.2.2.2.2.1 u.2.2.2.2.2.2.2.2.2.2.2.2.2.1 u.2.2.2.2.2.2.2.2.2.2.2.2.2.2.1 u.2.2.2.2.2.2.2.2.2.2.2.2.2.2.2.1 u.2.2.2.2.2.2.2.2.2.2.2.2.2.2.2.2.1 u.2.2.2.2.2.2.2.2.2.2.2.2.2.2.2.2.2.1 u.2.2.2.2.2.2.2.2.2.2.2.2.2.2.2.2.2.2.1 u.2.2.2.2.2.2.2.2.2.2.2.2.2.2.2.2.2.2.2.1 u.2.2.2.2.2.2.2.2.2.2.2.2.2.2.2.2.2.2.2.2.1 u.2.2.2.2.2.2.2.2.2.2.2.2.2.2.2.2.2.2.2.2.2.1 u.2.2.2.2.2.2.2.2.2.2.2.2.2.2.2.2.2.2.2.2.2.2.1 u.2.2.2.2.2.2.2.2.2.2.2.2.2.2.2.2.2.2.2.2.2.2.2.1 u.2.2.2.2.2.2.2.2.2.2.2.2.2.2.2.2.2.2.2.2.2.2.2.2)) := by
  refine Met.ofW (cc := cX6_weighed) (maxL := 2) (ret := (some (.object "SevenRings$Ends"))) (by decide) rfl ?_
  intro p e s m args below meth c s₁ B hml hv
  obtain ⟨rfl, hsz, hP, hK, hD0, hZ⟩ := hv
  have hx := B.exec
  have hb := B.bytes
  have hr := B.returns
  have hts := atoms_spec (ws := wsX6_weighed) B.pre
  have hown : s.vm.findClass RX6 = some m.cls := findClass_of_methodNamed B.named
  have hlocks := B.notSynchronized
  subst hsz
  have hD := hD0.self (sz := s.heap.size)
  generalize hAe : va_A (W_X6_weighed cyI cyJ cyO h_o h_told h_walk h_seas h_ends h_kept h_trial h_otherEnds h_tape a_sheets a_told_settings a_told_howFar a_told_tones a_told_currents a_told_warmths a_told_depths a_told_fars a_told_pieceCells a_told_pieceMonths a_told_pieceHighs a_told_pieceAges a_told_pieceNeeds a_told_dragCells a_told_dragEighths a_walk_howFar a_walk_tones a_walk_only a_walk_fars a_walk_cellAt a_walk_ends a_walk_seen a_walk_begun a_seas_known a_ends_sums o_hasImage o_walkIsOld o_endsAreOld told_pieceCount told_dragCount told_settings told_howFar told_tones told_currents told_warmths told_fars told_pieceCells told_pieceMonths told_pieceHighs told_pieceAges told_pieceNeeds told_dragCells told_dragEighths walk_last walk_turnsLet walk_slowsLet walk_fuel walk_glide walk_count walk_weightSum walk_toPass walk_foundNumber walk_foundWeight walk_foundTurns walk_foundSlowed walk_howFar walk_tones walk_only walk_fars walk_cellAt walk_ends walk_seen walk_begun seas_known ends_total ends_sums) s.heap.size = A at hD hZ ⊢
  have hA : ∀ q : Nat, s.heap.size ≤ q → A q := fun q h => by rw [← hAe]; exact Or.inr h
  clear hAe hD0
  have hS : va_S A s.heap s.heap [] := va_S.rf
  have hl := lv_entry ([.ref h_o]) (n := 2) (Nat.le_of_ble_eq_true rfl)
  rw [lg_entry_eq]
  generalize (lg_sl ([.ref h_o]) ++ List.replicate (2 - (lg_sl ([.ref h_o])).length) Slot.unset).toArray = ls at hl ⊢
  have hl : lv_has ls 2 [(0, .ref h_o)] := hl
  refine kW (fun Q hQ => ?_)
  have hq0 := hts _ (List.mem_cons_of_mem _ q_281)
  have hi6 : ∀ w ∈ u_ws RX6 TX6 12, w ∈ wsX6_weighed := fun w h => List.mem_cons_of_mem _ (inX6 w h)
  have hq2 := hts _ (List.mem_cons_of_mem _ q_275)
  have hq3 := hts _ (List.mem_cons_of_mem _ q_129)
  have hi5 : ∀ w ∈ u_ws RX5 TX5 20, w ∈ wsX6_weighed := fun w h => List.mem_cons_of_mem _ (inX5 w h)
  have hw := hf
  unfold f_X6_weighed at hw
  have hP : va_P (dC, dI) vwCl (W_X6_weighed cyI cyJ cyO h_o h_told h_walk h_seas h_ends h_kept h_trial h_otherEnds h_tape a_sheets a_told_settings a_told_howFar a_told_tones a_told_currents a_told_warmths a_told_depths a_told_fars a_told_pieceCells a_told_pieceMonths a_told_pieceHighs a_told_pieceAges a_told_pieceNeeds a_told_dragCells a_told_dragEighths a_walk_howFar a_walk_tones a_walk_only a_walk_fars a_walk_cellAt a_walk_ends a_walk_seen a_walk_begun a_seas_known a_ends_sums o_hasImage o_walkIsOld o_endsAreOld told_pieceCount told_dragCount told_settings told_howFar told_tones told_currents told_warmths told_fars told_pieceCells told_pieceMonths told_pieceHighs told_pieceAges told_pieceNeeds told_dragCells told_dragEighths walk_last walk_turnsLet walk_slowsLet walk_fuel walk_glide walk_count walk_weightSum walk_toPass walk_foundNumber walk_foundWeight walk_foundTurns walk_foundSlowed walk_howFar walk_tones walk_only walk_fars walk_cellAt walk_ends walk_seen walk_begun seas_known ends_total ends_sums) s.heap := hP
  obtain ⟨H, hH⟩ : ∃ H, H = s.heap := ⟨_, rfl⟩
  obtain ⟨locs, hlo⟩ : ∃ x : List Loc, x = [] := ⟨_, rfl⟩
  have hP : va_P (dC, dI) vwCl (W_X6_weighed cyI cyJ cyO h_o h_told h_walk h_seas h_ends h_kept h_trial h_otherEnds h_tape a_sheets a_told_settings a_told_howFar a_told_tones a_told_currents a_told_warmths a_told_depths a_told_fars a_told_pieceCells a_told_pieceMonths a_told_pieceHighs a_told_pieceAges a_told_pieceNeeds a_told_dragCells a_told_dragEighths a_walk_howFar a_walk_tones a_walk_only a_walk_fars a_walk_cellAt a_walk_ends a_walk_seen a_walk_begun a_seas_known a_ends_sums o_hasImage o_walkIsOld o_endsAreOld told_pieceCount told_dragCount told_settings told_howFar told_tones told_currents told_warmths told_fars told_pieceCells told_pieceMonths told_pieceHighs told_pieceAges told_pieceNeeds told_dragCells told_dragEighths walk_last walk_turnsLet walk_slowsLet walk_fuel walk_glide walk_count walk_weightSum walk_toPass walk_foundNumber walk_foundWeight walk_foundTurns walk_foundSlowed walk_howFar walk_tones walk_only walk_fars walk_cellAt walk_ends walk_seen walk_begun seas_known ends_total ends_sums) H := by rw [hH]; exact hP
  have hS : va_S A s.heap H locs := by rw [hH, hlo]; exact hS
  refine kH hH hlo ?_
  clear hH hlo
  refine lv_aload_n hx hb dX6_weighed_0 rfl (lv_at hl 0 rfl) ?_
  have hPc := hP.sub (ws' := (W_X6_walked cyI cyJ cyO h_o h_told h_walk h_kept h_trial h_seas h_ends h_otherEnds h_tape a_sheets a_told_settings a_told_howFar a_told_tones a_told_currents a_told_warmths a_told_depths a_told_fars a_told_pieceCells a_told_pieceMonths a_told_pieceHighs a_told_pieceAges a_told_pieceNeeds a_told_dragCells a_told_dragEighths a_walk_howFar a_walk_tones a_walk_only a_walk_fars a_walk_cellAt a_walk_ends a_walk_seen a_walk_begun o_hasImage o_walkIsOld o_endsAreOld told_pieceCount told_dragCount told_settings told_howFar told_tones told_fars walk_last walk_turnsLet walk_slowsLet walk_fuel walk_glide walk_count walk_weightSum walk_toPass walk_foundNumber walk_foundWeight walk_foundTurns walk_foundSlowed walk_howFar walk_tones walk_only walk_fars walk_cellAt walk_ends walk_seen walk_begun)) [0, 1, 2, 3, 4, 7, 15, 16, 17, 18, 19, 20, 21, 22, 23] rfl
  have hDc := hD.sub (ws' := (W_X6_walked cyI cyJ cyO h_o h_told h_walk h_kept h_trial h_seas h_ends h_otherEnds h_tape a_sheets a_told_settings a_told_howFar a_told_tones a_told_currents a_told_warmths a_told_depths a_told_fars a_told_pieceCells a_told_pieceMonths a_told_pieceHighs a_told_pieceAges a_told_pieceNeeds a_told_dragCells a_told_dragEighths a_walk_howFar a_walk_tones a_walk_only a_walk_fars a_walk_cellAt a_walk_ends a_walk_seen a_walk_begun o_hasImage o_walkIsOld o_endsAreOld told_pieceCount told_dragCount told_settings told_howFar told_tones told_fars walk_last walk_turnsLet walk_slowsLet walk_fuel walk_glide walk_count walk_weightSum walk_toPass walk_foundNumber walk_foundWeight walk_foundTurns walk_foundSlowed walk_howFar walk_tones walk_only walk_fars walk_cellAt walk_ends walk_seen walk_begun)) [0, 1, 2, 3, 4, 7, 15, 16, 17, 18, 19, 20, 21, 22, 23] (by decide +kernel) rfl
  have hFc := va_free (wc := (W_X6_walked cyI cyJ cyO h_o h_told h_walk h_kept h_trial h_seas h_ends h_otherEnds h_tape a_sheets a_told_settings a_told_howFar a_told_tones a_told_currents a_told_warmths a_told_depths a_told_fars a_told_pieceCells a_told_pieceMonths a_told_pieceHighs a_told_pieceAges a_told_pieceNeeds a_told_dragCells a_told_dragEighths a_walk_howFar a_walk_tones a_walk_only a_walk_fars a_walk_cellAt a_walk_ends a_walk_seen a_walk_begun o_hasImage o_walkIsOld o_endsAreOld told_pieceCount told_dragCount told_settings told_howFar told_tones told_fars walk_last walk_turnsLet walk_slowsLet walk_fuel walk_glide walk_count walk_weightSum walk_toPass walk_foundNumber walk_foundWeight walk_foundTurns walk_foundSlowed walk_howFar walk_tones walk_only walk_fars walk_cellAt walk_ends walk_seen walk_begun)) hD hS hA [0, 1, 2, 3, 4, 7, 15, 16, 17, 18, 19, 20, 21, 22, 23] rfl
  refine kc_r (wr := [(a_told_currents, .inl (cyI, 200, .inl told_currents)), (a_told_warmths, .inl (cyI, 200, .inl told_warmths)), (a_told_pieceCells, .inl (cyI, 4, .inl told_pieceCells)), (a_told_pieceMonths, .inl (cyI, 4, .inl told_pieceMonths)), (a_told_pieceHighs, .inl (cyI, 4, .inl told_pieceHighs)), (a_told_pieceAges, .inl (cyI, 4, .inl told_pieceAges)), (a_told_pieceNeeds, .inl (cyI, 4, .inl told_pieceNeeds)), (a_told_dragCells, .inl (cyI, 4, .inl told_dragCells)), (a_told_dragEighths, .inl (cyI, 4, .inl told_dragEighths)), (h_seas, .inr (1, [.ref h_told, .ref a_seas_known])), (a_seas_known, .inl (cyI, 400, .inl seas_known)), (h_ends, .inr (0, [.ref h_told, .ref h_seas, .ref a_ends_sums, .long ends_total])), (a_ends_sums, .inl (cyJ, 100, .inr (.inl ends_sums)))]) (va_runV (As := []) (rest := []) ⟨hx, hb, hml, hown, hts⟩ (c_X6_walked l dC dI cyI cyJ cyO H.size tD tR tL tM h_o h_told h_walk h_kept h_trial h_seas h_ends h_otherEnds h_tape a_sheets a_told_settings a_told_howFar a_told_tones a_told_currents a_told_warmths a_told_depths a_told_fars a_told_pieceCells a_told_pieceMonths a_told_pieceHighs a_told_pieceAges a_told_pieceNeeds a_told_dragCells a_told_dragEighths a_walk_howFar a_walk_tones a_walk_only a_walk_fars a_walk_cellAt a_walk_ends a_walk_seen a_walk_begun o_hasImage o_walkIsOld o_endsAreOld told_pieceCount told_dragCount told_settings told_howFar told_tones told_fars walk_last walk_turnsLet walk_slowsLet walk_fuel walk_glide walk_count walk_weightSum walk_toPass walk_foundNumber walk_foundWeight walk_foundTurns walk_foundSlowed walk_howFar walk_tones walk_only walk_fars walk_cellAt walk_ends walk_seen walk_begun _ (okb21 hw)) (cwV 0 hts (gdV (fun w h => List.mem_cons_of_mem _ h) q_397 q_399 qs_9 q_1 q_400) rfl rfl rfl (by decide +kernel) ⟨Nat.le_of_ble_eq_true rfl, Nat.le_of_ble_eq_true rfl⟩) ⟨(kpre zX_ok hK hPc hDc hZ hS hFc).1, va_recv hK hP (ci := 6) (q0 := 0) rfl rfl, (kpre zX_ok hK hPc hDc hZ hS hFc).2⟩ rfl rfl hl.1 rfl (lv_room (Nat.le_of_ble_eq_true rfl)) dX6_weighed_1 ⟨Nat.le_of_ble_eq_true rfl, Nat.le_of_ble_eq_true rfl⟩) hP hD hS hFc [0, 1, 2, 3, 4, 7, 15, 16, 17, 18, 19, 20, 21, 22, 23] [5, 6, 8, 9, 10, 11, 12, 13, 14, 24, 25, 26, 27] rfl rfl (by decide +kernel) (by decide +kernel) (fun u H locs hw hP hD hS => ?_)
  obtain ⟨w_1, w_2, w_3, w_4, w_5, w_6, w_7, w_8, w_9, w_10, w_11, w_12, w_13, w_14, w_15, w_16, w_17, w_18, w_19, w_20, w_21⟩ := u
  try dsimp only at hw
  have hP : va_P (dC, dI) vwCl (W_X6_weighed cyI cyJ cyO h_o h_told h_walk h_seas h_ends h_kept h_trial h_otherEnds h_tape a_sheets a_told_settings a_told_howFar a_told_tones a_told_currents a_told_warmths a_told_depths a_told_fars a_told_pieceCells a_told_pieceMonths a_told_pieceHighs a_told_pieceAges a_told_pieceNeeds a_told_dragCells a_told_dragEighths a_walk_howFar a_walk_tones a_walk_only a_walk_fars a_walk_cellAt a_walk_ends a_walk_seen a_walk_begun a_seas_known a_ends_sums o_hasImage w_1 o_endsAreOld told_pieceCount told_dragCount told_settings told_howFar told_tones told_currents told_warmths told_fars told_pieceCells told_pieceMonths told_pieceHighs told_pieceAges told_pieceNeeds told_dragCells told_dragEighths w_2 w_3 w_4 w_5 w_6 w_7 w_8 w_9 w_10 w_11 w_12 w_13 w_14 w_15 w_16 w_17 w_18 w_19 w_20 w_21 seas_known ends_total ends_sums) H := hP.sub [13, 14, 15, 16, 17, 0, 1, 18, 2, 3, 4, 5, 6, 7, 8, 19, 20, 21, 22, 23, 24, 25, 26, 27, 9, 10, 11, 12] rfl
  have hD : va_D A (W_X6_weighed cyI cyJ cyO h_o h_told h_walk h_seas h_ends h_kept h_trial h_otherEnds h_tape a_sheets a_told_settings a_told_howFar a_told_tones a_told_currents a_told_warmths a_told_depths a_told_fars a_told_pieceCells a_told_pieceMonths a_told_pieceHighs a_told_pieceAges a_told_pieceNeeds a_told_dragCells a_told_dragEighths a_walk_howFar a_walk_tones a_walk_only a_walk_fars a_walk_cellAt a_walk_ends a_walk_seen a_walk_begun a_seas_known a_ends_sums o_hasImage w_1 o_endsAreOld told_pieceCount told_dragCount told_settings told_howFar told_tones told_currents told_warmths told_fars told_pieceCells told_pieceMonths told_pieceHighs told_pieceAges told_pieceNeeds told_dragCells told_dragEighths w_2 w_3 w_4 w_5 w_6 w_7 w_8 w_9 w_10 w_11 w_12 w_13 w_14 w_15 w_16 w_17 w_18 w_19 w_20 w_21 seas_known ends_total ends_sums) := hD.sub [13, 14, 15, 16, 17, 0, 1, 18, 2, 3, 4, 5, 6, 7, 8, 19, 20, 21, 22, 23, 24, 25, 26, 27, 9, 10, 11, 12] (by decide +kernel) rfl
  clear hPc hDc hFc
  refine lv_astore_n (lv' := [(1, .ref h_walk), (0, .ref h_o)]) hx hb dX6_weighed_4 rfl hl (by decide) rfl (fun ls hl => ?_)
  refine lv_aload_n hx hb dX6_weighed_5 rfl (lv_at hl 1 rfl) ?_
  refine va_get (D := (dC, dI)) (ci := 6) (v := .int o_endsAreOld) (C := RX6) (T := TX6) (N := 12) hx hb hts hi6 hown hK hP 0 rfl rfl 11 (by decide) hq0 (fun _ h9 => h9) rfl dX6_weighed_6 ?_
  refine lv_if_eq (tgt := 29) hx hb dX6_weighed_9 (by decide) (fun c_22 => ?_) (fun c_22 => ?_)
  · replace hw := okT hw c_22
    clear c_22
    refine lv_aload_n hx hb dX6_weighed_29 rfl (lv_at hl 1 rfl) ?_
    refine va_get (D := (dC, dI)) (ci := 6) (v := .ref h_ends) (C := RX6) (T := TX6) (N := 12) hx hb hts hi6 hown hK hP 0 rfl rfl 5 (by decide) hq2 (fun _ h9 => h9) rfl dX6_weighed_30 ?_
    rw [hQ]
    exact W.aret hx hb hr (Or.inl ⟨_, rfl⟩) (Or.inr ⟨_, rfl⟩) (fun t ht hW => ⟨⟨(w_1, o_endsAreOld, w_2, w_3, w_4, w_5, w_6, w_7, w_8, w_9, w_10, w_11, w_12, w_13, w_14, w_15, w_16, w_17, w_18, w_19, w_20, w_21, seas_known, ends_total, ends_sums), h_ends, rfl, okS hw, rfl, by rw [ht]; exact hP, va_K.moved hW.alike hK, hD⟩, hS.F ht⟩) hS.2.2 dX6_weighed_33
  · replace hw := okF hw c_22
    clear c_22
    refine lv_aload_n hx hb dX6_weighed_12 rfl (lv_at hl 1 rfl) ?_
    refine va_get (D := (dC, dI)) (ci := 6) (v := .ref h_ends) (C := RX6) (T := TX6) (N := 12) hx hb hts hi6 hown hK hP 0 rfl rfl 5 (by decide) hq2 (fun _ h9 => h9) rfl dX6_weighed_13 ?_
    refine lv_aload_n hx hb dX6_weighed_16 rfl (lv_at hl 0 rfl) ?_
    refine va_get (D := (dC, dI)) (ci := 5) (v := .ref a_walk_ends) (C := RX5) (T := TX5) (N := 20) hx hb hts hi5 hown hK hP 15 rfl rfl 10 (by decide) hq3 (fun _ h9 => h9) rfl dX6_weighed_17 ?_
    refine lv_iconst (v := (-1)) hx hb dX6_weighed_20 (by decide) ?_
    have hPc := hP.sub (ws' := (W_X0_weigh cyI cyJ cyO 100 h_ends h_told h_seas a_ends_sums a_told_settings a_told_howFar a_told_tones a_told_currents a_told_warmths a_told_depths a_told_fars a_told_pieceCells a_told_pieceMonths a_told_pieceHighs a_told_pieceAges a_told_pieceNeeds a_told_dragCells a_told_dragEighths a_seas_known a_walk_ends ends_total ends_sums told_pieceCount told_dragCount told_settings told_currents told_warmths told_pieceCells told_pieceMonths told_pieceHighs told_pieceAges told_pieceNeeds told_dragCells told_dragEighths seas_known w_19)) [26, 27, 1, 2, 5, 6, 8, 9, 10, 11, 12, 13, 14, 24, 25, 21] rfl
    have hDc := hD.sub (ws' := (W_X0_weigh cyI cyJ cyO 100 h_ends h_told h_seas a_ends_sums a_told_settings a_told_howFar a_told_tones a_told_currents a_told_warmths a_told_depths a_told_fars a_told_pieceCells a_told_pieceMonths a_told_pieceHighs a_told_pieceAges a_told_pieceNeeds a_told_dragCells a_told_dragEighths a_seas_known a_walk_ends ends_total ends_sums told_pieceCount told_dragCount told_settings told_currents told_warmths told_pieceCells told_pieceMonths told_pieceHighs told_pieceAges told_pieceNeeds told_dragCells told_dragEighths seas_known w_19)) [26, 27, 1, 2, 5, 6, 8, 9, 10, 11, 12, 13, 14, 24, 25, 21] (by decide +kernel) rfl
    have hFc := va_free (wc := (W_X0_weigh cyI cyJ cyO 100 h_ends h_told h_seas a_ends_sums a_told_settings a_told_howFar a_told_tones a_told_currents a_told_warmths a_told_depths a_told_fars a_told_pieceCells a_told_pieceMonths a_told_pieceHighs a_told_pieceAges a_told_pieceNeeds a_told_dragCells a_told_dragEighths a_seas_known a_walk_ends ends_total ends_sums told_pieceCount told_dragCount told_settings told_currents told_warmths told_pieceCells told_pieceMonths told_pieceHighs told_pieceAges told_pieceNeeds told_dragCells told_dragEighths seas_known w_19)) hD hS hA [26, 27, 1, 2, 5, 6, 8, 9, 10, 11, 12, 13, 14, 24, 25, 21] rfl
    refine kc_v (wr := [(h_o, .inr (6, [.ref h_told, .ref h_kept, .ref h_walk, .ref h_trial, .ref h_seas, .ref h_ends, .ref h_otherEnds, .ref h_tape, .ref a_sheets, .int o_hasImage, .int w_1, .int o_endsAreOld])), (a_told_howFar, .inl (cyI, 7, .inl told_howFar)), (a_told_tones, .inl (cyI, 7, .inl told_tones)), (a_told_fars, .inl (cyI, 100, .inl told_fars)), (h_walk, .inr (5, [.ref a_walk_howFar, .ref a_walk_tones, .ref a_walk_only, .ref a_walk_fars, .int w_2, .int w_3, .int w_4, .int w_5, .int w_6, .ref a_walk_cellAt, .ref a_walk_ends, .ref a_walk_seen, .ref a_walk_begun, .int w_7, .long w_8, .int w_9, .int w_10, .int w_11, .int w_12, .int w_13])), (a_walk_howFar, .inl (cyI, 7, .inl w_14)), (a_walk_tones, .inl (cyI, 7, .inl w_15)), (a_walk_only, .inl (cyI, 7, .inl w_16)), (a_walk_fars, .inl (cyI, 100, .inl w_17)), (a_walk_cellAt, .inl (cyI, 7, .inl w_18)), (a_walk_seen, .inl (cyI, 70, .inl w_20)), (a_walk_begun, .inl (cyI, 24, .inl w_21))]) (va_runV (As := [.ref a_walk_ends, .int (-1)]) (rest := []) ⟨hx, hb, hml, hown, hts⟩ (c_X0_weigh l dC dI cyI cyJ cyO H.size tD tR tL tM 100 h_ends h_told h_seas a_ends_sums a_told_settings a_told_howFar a_told_tones a_told_currents a_told_warmths a_told_depths a_told_fars a_told_pieceCells a_told_pieceMonths a_told_pieceHighs a_told_pieceAges a_told_pieceNeeds a_told_dragCells a_told_dragEighths a_seas_known a_walk_ends ends_total ends_sums told_pieceCount told_dragCount told_settings told_currents told_warmths told_pieceCells told_pieceMonths told_pieceHighs told_pieceAges told_pieceNeeds told_dragCells told_dragEighths seas_known w_19 (-1) _ (okb3 hw)) (cwV 2 hts (gdV (fun w h => List.mem_cons_of_mem _ h) q_540 q_541 q_542 q_5 q_543) rfl rfl rfl (by decide +kernel) ⟨Nat.le_of_ble_eq_true rfl, Nat.le_of_ble_eq_true rfl⟩) ⟨(kpre zX_ok hK hPc hDc hZ hS hFc).1, va_recv hK hP (ci := 0) (q0 := 26) rfl rfl, (kpre zX_ok hK hPc hDc hZ hS hFc).2⟩ rfl rfl hl.1 rfl (lv_room (Nat.le_of_ble_eq_true rfl)) dX6_weighed_21 ⟨Nat.le_of_ble_eq_true rfl, Nat.le_of_ble_eq_true rfl⟩) hP hD hS hFc [26, 27, 1, 2, 5, 6, 8, 9, 10, 11, 12, 13, 14, 24, 25, 21] [0, 3, 4, 7, 15, 16, 17, 18, 19, 20, 22, 23] rfl rfl (by decide +kernel) (by decide +kernel) (fun u H locs hw hP hD hS => ?_)
    obtain ⟨w_23, w_24, w_25⟩ := u
    try dsimp only at hw
    have hP : va_P (dC, dI) vwCl (W_X6_weighed cyI cyJ cyO h_o h_told h_walk h_seas h_ends h_kept h_trial h_otherEnds h_tape a_sheets a_told_settings a_told_howFar a_told_tones a_told_currents a_told_warmths a_told_depths a_told_fars a_told_pieceCells a_told_pieceMonths a_told_pieceHighs a_told_pieceAges a_told_pieceNeeds a_told_dragCells a_told_dragEighths a_walk_howFar a_walk_tones a_walk_only a_walk_fars a_walk_cellAt a_walk_ends a_walk_seen a_walk_begun a_seas_known a_ends_sums o_hasImage w_1 o_endsAreOld told_pieceCount told_dragCount told_settings told_howFar told_tones told_currents told_warmths told_fars told_pieceCells told_pieceMonths told_pieceHighs told_pieceAges told_pieceNeeds told_dragCells told_dragEighths w_2 w_3 w_4 w_5 w_6 w_7 w_8 w_9 w_10 w_11 w_12 w_13 w_14 w_15 w_16 w_17 w_18 w_19 w_20 w_21 w_25 w_23 w_24) H := hP.sub [0, 14, 15, 1, 2, 16, 17, 3, 18, 19, 20, 21, 22, 23, 24, 4, 5, 6, 7, 8, 9, 27, 10, 11, 25, 26, 12, 13] rfl
    have hD : va_D A (W_X6_weighed cyI cyJ cyO h_o h_told h_walk h_seas h_ends h_kept h_trial h_otherEnds h_tape a_sheets a_told_settings a_told_howFar a_told_tones a_told_currents a_told_warmths a_told_depths a_told_fars a_told_pieceCells a_told_pieceMonths a_told_pieceHighs a_told_pieceAges a_told_pieceNeeds a_told_dragCells a_told_dragEighths a_walk_howFar a_walk_tones a_walk_only a_walk_fars a_walk_cellAt a_walk_ends a_walk_seen a_walk_begun a_seas_known a_ends_sums o_hasImage w_1 o_endsAreOld told_pieceCount told_dragCount told_settings told_howFar told_tones told_currents told_warmths told_fars told_pieceCells told_pieceMonths told_pieceHighs told_pieceAges told_pieceNeeds told_dragCells told_dragEighths w_2 w_3 w_4 w_5 w_6 w_7 w_8 w_9 w_10 w_11 w_12 w_13 w_14 w_15 w_16 w_17 w_18 w_19 w_20 w_21 w_25 w_23 w_24) := hD.sub [0, 14, 15, 1, 2, 16, 17, 3, 18, 19, 20, 21, 22, 23, 24, 4, 5, 6, 7, 8, 9, 27, 10, 11, 25, 26, 12, 13] (by decide +kernel) rfl
    clear hPc hDc hFc
    refine lv_aload_n hx hb dX6_weighed_24 rfl (lv_at hl 1 rfl) ?_
    refine lv_iconst (v := 0) hx hb dX6_weighed_25 (by decide) ?_
    refine va_put (D := (dC, dI)) (ci := 6) (v := .int 0) (ty := .boolean) (C := RX6) (T := TX6) (N := 12) hx hb hts hi6 tyX6 tyX6_ok nmX6 hown hK hP hD hS 0 rfl rfl 11 (by decide) hq0 (fun _ h9 => h9) rfl (by decide +kernel) rfl rfl (Nat.le_of_ble_eq_true rfl) dX6_weighed_26 (fun H locs hP hD hS => ?_)
    have hP : va_P (dC, dI) vwCl (W_X6_weighed cyI cyJ cyO h_o h_told h_walk h_seas h_ends h_kept h_trial h_otherEnds h_tape a_sheets a_told_settings a_told_howFar a_told_tones a_told_currents a_told_warmths a_told_depths a_told_fars a_told_pieceCells a_told_pieceMonths a_told_pieceHighs a_told_pieceAges a_told_pieceNeeds a_told_dragCells a_told_dragEighths a_walk_howFar a_walk_tones a_walk_only a_walk_fars a_walk_cellAt a_walk_ends a_walk_seen a_walk_begun a_seas_known a_ends_sums o_hasImage w_1 0 told_pieceCount told_dragCount told_settings told_howFar told_tones told_currents told_warmths told_fars told_pieceCells told_pieceMonths told_pieceHighs told_pieceAges told_pieceNeeds told_dragCells told_dragEighths w_2 w_3 w_4 w_5 w_6 w_7 w_8 w_9 w_10 w_11 w_12 w_13 w_14 w_15 w_16 w_17 w_18 w_19 w_20 w_21 w_25 w_23 w_24) H := hP
    have hD : va_D A (W_X6_weighed cyI cyJ cyO h_o h_told h_walk h_seas h_ends h_kept h_trial h_otherEnds h_tape a_sheets a_told_settings a_told_howFar a_told_tones a_told_currents a_told_warmths a_told_depths a_told_fars a_told_pieceCells a_told_pieceMonths a_told_pieceHighs a_told_pieceAges a_told_pieceNeeds a_told_dragCells a_told_dragEighths a_walk_howFar a_walk_tones a_walk_only a_walk_fars a_walk_cellAt a_walk_ends a_walk_seen a_walk_begun a_seas_known a_ends_sums o_hasImage w_1 0 told_pieceCount told_dragCount told_settings told_howFar told_tones told_currents told_warmths told_fars told_pieceCells told_pieceMonths told_pieceHighs told_pieceAges told_pieceNeeds told_dragCells told_dragEighths w_2 w_3 w_4 w_5 w_6 w_7 w_8 w_9 w_10 w_11 w_12 w_13 w_14 w_15 w_16 w_17 w_18 w_19 w_20 w_21 w_25 w_23 w_24) := hD
    refine lv_aload_n hx hb dX6_weighed_29 rfl (lv_at hl 1 rfl) ?_
    refine va_get (D := (dC, dI)) (ci := 6) (v := .ref h_ends) (C := RX6) (T := TX6) (N := 12) hx hb hts hi6 hown hK hP 0 rfl rfl 5 (by decide) hq2 (fun _ h9 => h9) rfl dX6_weighed_30 ?_
    rw [hQ]
    exact W.aret hx hb hr (Or.inl ⟨_, rfl⟩) (Or.inr ⟨_, rfl⟩) (fun t ht hW => ⟨⟨(w_1, 0, w_2, w_3, w_4, w_5, w_6, w_7, w_8, w_9, w_10, w_11, w_12, w_13, w_14, w_15, w_16, w_17, w_18, w_19, w_20, w_21, w_25, w_23, w_24), h_ends, rfl, okS hw, rfl, by rw [ht]; exact hP, va_K.moved hW.alike hK, hD⟩, hS.F ht⟩) hS.2.2 dX6_weighed_33
/-! ===== X6_movedBy ===== -/
theorem dX6_movedBy_0 : decode cX6_movedBy 0 = .ok (.iload_n 1, 1) := by decide +kernel
theorem dX6_movedBy_1 : decode cX6_movedBy 1 = .ok (.bipush 12, 2) := by decide +kernel
theorem dX6_movedBy_3 : decode cX6_movedBy 3 = .ok (.if_icmp .ge 14, 3) := by decide +kernel
theorem dX6_movedBy_6 : decode cX6_movedBy 6 = .ok (.aload_n 0, 1) := by decide +kernel
theorem dX6_movedBy_7 : decode cX6_movedBy 7 = .ok (.iload_n 1, 1) := by decide +kernel
theorem dX6_movedBy_8 : decode cX6_movedBy 8 = .ok (.bipush 8, 2) := by decide +kernel
theorem dX6_movedBy_10 : decode cX6_movedBy 10 = .ok (.isub, 1) := by decide +kernel
theorem dX6_movedBy_11 : decode cX6_movedBy 11 = .ok (.invokevirtual 186, 3) := by decide +kernel
theorem dX6_movedBy_14 : decode cX6_movedBy 14 = .ok (.ifCond .eq 27, 3) := by decide +kernel
theorem dX6_movedBy_17 : decode cX6_movedBy 17 = .ok (.aload_n 0, 1) := by decide +kernel
theorem dX6_movedBy_18 : decode cX6_movedBy 18 = .ok (.getfield 47, 3) := by decide +kernel
theorem dX6_movedBy_21 : decode cX6_movedBy 21 = .ok (.aload_n 0, 1) := by decide +kernel
theorem dX6_movedBy_22 : decode cX6_movedBy 22 = .ok (.getfield 22, 3) := by decide +kernel
theorem dX6_movedBy_25 : decode cX6_movedBy 25 = .ok (.getfield 257, 3) := by decide +kernel
theorem dX6_movedBy_28 : decode cX6_movedBy 28 = .ok (.iload_n 1, 1) := by decide +kernel
theorem dX6_movedBy_29 : decode cX6_movedBy 29 = .ok (.invokevirtual 310, 3) := by decide +kernel
theorem dX6_movedBy_32 : decode cX6_movedBy 32 = .ok (.aload_n 2, 1) := by decide +kernel
theorem dX6_movedBy_33 : decode cX6_movedBy 33 = .ok (.aload_n 0, 1) := by decide +kernel
theorem dX6_movedBy_34 : decode cX6_movedBy 34 = .ok (.getfield 47, 3) := by decide +kernel
theorem dX6_movedBy_37 : decode cX6_movedBy 37 = .ok (.invokevirtual 314, 3) := by decide +kernel
theorem dX6_movedBy_40 : decode cX6_movedBy 40 = .ok (.ireturn, 1) := by decide +kernel
theorem dX6_movedBy_41 : decode cX6_movedBy 41 = .ok (.iload_n 1, 1) := by decide +kernel
theorem dX6_movedBy_42 : decode cX6_movedBy 42 = .ok (.bipush 8, 2) := by decide +kernel
theorem dX6_movedBy_44 : decode cX6_movedBy 44 = .ok (.if_icmp .lt 5, 3) := by decide +kernel
theorem dX6_movedBy_47 : decode cX6_movedBy 47 = .ok (.iconst (-1), 1) := by decide +kernel
theorem dX6_movedBy_48 : decode cX6_movedBy 48 = .ok (.ireturn, 1) := by decide +kernel
theorem dX6_movedBy_49 : decode cX6_movedBy 49 = .ok (.aload_n 0, 1) := by decide +kernel
theorem dX6_movedBy_50 : decode cX6_movedBy 50 = .ok (.getfield 26, 3) := by decide +kernel
theorem dX6_movedBy_53 : decode cX6_movedBy 53 = .ok (.aload_n 0, 1) := by decide +kernel
theorem dX6_movedBy_54 : decode cX6_movedBy 54 = .ok (.getfield 10, 3) := by decide +kernel
theorem dX6_movedBy_57 : decode cX6_movedBy 57 = .ok (.invokevirtual 241, 3) := by decide +kernel
theorem dX6_movedBy_60 : decode cX6_movedBy 60 = .ok (.aload_n 0, 1) := by decide +kernel
theorem dX6_movedBy_61 : decode cX6_movedBy 61 = .ok (.getfield 26, 3) := by decide +kernel
theorem dX6_movedBy_64 : decode cX6_movedBy 64 = .ok (.iload_n 1, 1) := by decide +kernel
theorem dX6_movedBy_65 : decode cX6_movedBy 65 = .ok (.invokevirtual 318, 3) := by decide +kernel
theorem dX6_movedBy_68 : decode cX6_movedBy 68 = .ok (.ifCond .ne 5, 3) := by decide +kernel
theorem dX6_movedBy_71 : decode cX6_movedBy 71 = .ok (.iconst 0, 1) := by decide +kernel
theorem dX6_movedBy_72 : decode cX6_movedBy 72 = .ok (.ireturn, 1) := by decide +kernel
theorem dX6_movedBy_73 : decode cX6_movedBy 73 = .ok (.aload_n 0, 1) := by decide +kernel
theorem dX6_movedBy_74 : decode cX6_movedBy 74 = .ok (.getfield 26, 3) := by decide +kernel
theorem dX6_movedBy_77 : decode cX6_movedBy 77 = .ok (.invokevirtual 251, 3) := by decide +kernel
theorem dX6_movedBy_80 : decode cX6_movedBy 80 = .ok (.aload_n 0, 1) := by decide +kernel
theorem dX6_movedBy_81 : decode cX6_movedBy 81 = .ok (.getfield 47, 3) := by decide +kernel
theorem dX6_movedBy_84 : decode cX6_movedBy 84 = .ok (.aload_n 0, 1) := by decide +kernel
theorem dX6_movedBy_85 : decode cX6_movedBy 85 = .ok (.getfield 26, 3) := by decide +kernel
theorem dX6_movedBy_88 : decode cX6_movedBy 88 = .ok (.getfield 257, 3) := by decide +kernel
theorem dX6_movedBy_91 : decode cX6_movedBy 91 = .ok (.iconst (-1), 1) := by decide +kernel
theorem dX6_movedBy_92 : decode cX6_movedBy 92 = .ok (.invokevirtual 310, 3) := by decide +kernel
theorem dX6_movedBy_95 : decode cX6_movedBy 95 = .ok (.aload_n 2, 1) := by decide +kernel
theorem dX6_movedBy_96 : decode cX6_movedBy 96 = .ok (.aload_n 0, 1) := by decide +kernel
theorem dX6_movedBy_97 : decode cX6_movedBy 97 = .ok (.getfield 47, 3) := by decide +kernel
theorem dX6_movedBy_100 : decode cX6_movedBy 100 = .ok (.invokevirtual 314, 3) := by decide +kernel
theorem dX6_movedBy_103 : decode cX6_movedBy 103 = .ok (.ireturn, 1) := by decide +kernel
abbrev W_X6_movedBy (cyI cyJ cyO : ClassId) (h_o h_told h_walk h_trial h_seas h_otherEnds h_p2 h_kept h_ends h_tape a_sheets a_told_settings a_told_howFar a_told_tones a_told_currents a_told_warmths a_told_depths a_told_fars a_told_pieceCells a_told_pieceMonths a_told_pieceHighs a_told_pieceAges a_told_pieceNeeds a_told_dragCells a_told_dragEighths a_walk_howFar a_walk_tones a_walk_only a_walk_fars a_walk_cellAt a_walk_ends a_walk_seen a_walk_begun a_trial_howFar a_trial_tones a_trial_only a_trial_fars a_trial_cellAt a_trial_ends a_trial_seen a_trial_begun a_seas_known a_otherEnds_sums h_p2_told h_p2_seas a_p2_sums : Nat) (o_hasImage : Int32) (o_walkIsOld : Int32) (o_endsAreOld : Int32) (told_pieceCount : Int32) (told_dragCount : Int32) (told_settings : Nat → Int32) (told_howFar : Nat → Int32) (told_tones : Nat → Int32) (told_currents : Nat → Int32) (told_warmths : Nat → Int32) (told_fars : Nat → Int32) (told_pieceCells : Nat → Int32) (told_pieceMonths : Nat → Int32) (told_pieceHighs : Nat → Int32) (told_pieceAges : Nat → Int32) (told_pieceNeeds : Nat → Int32) (told_dragCells : Nat → Int32) (told_dragEighths : Nat → Int32) (walk_last : Int32) (walk_turnsLet : Int32) (walk_slowsLet : Int32) (walk_fuel : Int32) (walk_glide : Int32) (walk_count : Int32) (walk_weightSum : Int64) (walk_toPass : Int32) (walk_foundNumber : Int32) (walk_foundWeight : Int32) (walk_foundTurns : Int32) (walk_foundSlowed : Int32) (walk_ends : Nat → Int64) (trial_last : Int32) (trial_turnsLet : Int32) (trial_slowsLet : Int32) (trial_fuel : Int32) (trial_glide : Int32) (trial_count : Int32) (trial_weightSum : Int64) (trial_toPass : Int32) (trial_foundNumber : Int32) (trial_foundWeight : Int32) (trial_foundTurns : Int32) (trial_foundSlowed : Int32) (trial_howFar : Nat → Int32) (trial_tones : Nat → Int32) (trial_only : Nat → Int32) (trial_fars : Nat → Int32) (trial_cellAt : Nat → Int32) (trial_ends : Nat → Int64) (trial_seen : Nat → Int32) (trial_begun : Nat → Int32) (seas_known : Nat → Int32) (otherEnds_total : Int64) (otherEnds_sums : Nat → Int64) (p2_total : Int64) (p2_sums : Nat → Int64) : va_W := [(h_o, .inr (6, [.ref h_told, .ref h_kept, .ref h_walk, .ref h_trial, .ref h_seas, .ref h_ends, .ref h_otherEnds, .ref h_tape, .ref a_sheets, .int o_hasImage, .int o_walkIsOld, .int o_endsAreOld])), (h_told, .inr (4, [.ref a_told_settings, .ref a_told_howFar, .ref a_told_tones, .ref a_told_currents, .ref a_told_warmths, .ref a_told_depths, .ref a_told_fars, .ref a_told_pieceCells, .ref a_told_pieceMonths, .ref a_told_pieceHighs, .ref a_told_pieceAges, .ref a_told_pieceNeeds, .ref a_told_dragCells, .ref a_told_dragEighths, .int told_pieceCount, .int told_dragCount])), (a_told_settings, .inl (cyI, 8, .inl told_settings)), (a_told_howFar, .inl (cyI, 7, .inl told_howFar)), (a_told_tones, .inl (cyI, 7, .inl told_tones)), (a_told_currents, .inl (cyI, 200, .inl told_currents)), (a_told_warmths, .inl (cyI, 200, .inl told_warmths)), (a_told_fars, .inl (cyI, 100, .inl told_fars)), (a_told_pieceCells, .inl (cyI, 4, .inl told_pieceCells)), (a_told_pieceMonths, .inl (cyI, 4, .inl told_pieceMonths)), (a_told_pieceHighs, .inl (cyI, 4, .inl told_pieceHighs)), (a_told_pieceAges, .inl (cyI, 4, .inl told_pieceAges)), (a_told_pieceNeeds, .inl (cyI, 4, .inl told_pieceNeeds)), (a_told_dragCells, .inl (cyI, 4, .inl told_dragCells)), (a_told_dragEighths, .inl (cyI, 4, .inl told_dragEighths)), (h_walk, .inr (5, [.ref a_walk_howFar, .ref a_walk_tones, .ref a_walk_only, .ref a_walk_fars, .int walk_last, .int walk_turnsLet, .int walk_slowsLet, .int walk_fuel, .int walk_glide, .ref a_walk_cellAt, .ref a_walk_ends, .ref a_walk_seen, .ref a_walk_begun, .int walk_count, .long walk_weightSum, .int walk_toPass, .int walk_foundNumber, .int walk_foundWeight, .int walk_foundTurns, .int walk_foundSlowed])), (a_walk_ends, .inl (cyJ, 100, .inr (.inl walk_ends))), (h_trial, .inr (5, [.ref a_trial_howFar, .ref a_trial_tones, .ref a_trial_only, .ref a_trial_fars, .int trial_last, .int trial_turnsLet, .int trial_slowsLet, .int trial_fuel, .int trial_glide, .ref a_trial_cellAt, .ref a_trial_ends, .ref a_trial_seen, .ref a_trial_begun, .int trial_count, .long trial_weightSum, .int trial_toPass, .int trial_foundNumber, .int trial_foundWeight, .int trial_foundTurns, .int trial_foundSlowed])), (a_trial_howFar, .inl (cyI, 7, .inl trial_howFar)), (a_trial_tones, .inl (cyI, 7, .inl trial_tones)), (a_trial_only, .inl (cyI, 7, .inl trial_only)), (a_trial_fars, .inl (cyI, 100, .inl trial_fars)), (a_trial_cellAt, .inl (cyI, 7, .inl trial_cellAt)), (a_trial_ends, .inl (cyJ, 100, .inr (.inl trial_ends))), (a_trial_seen, .inl (cyI, 70, .inl trial_seen)), (a_trial_begun, .inl (cyI, 24, .inl trial_begun)), (h_seas, .inr (1, [.ref h_told, .ref a_seas_known])), (a_seas_known, .inl (cyI, 400, .inl seas_known)), (h_otherEnds, .inr (0, [.ref h_told, .ref h_seas, .ref a_otherEnds_sums, .long otherEnds_total])), (a_otherEnds_sums, .inl (cyJ, 100, .inr (.inl otherEnds_sums))), (h_p2, .inr (0, [.ref h_p2_told, .ref h_p2_seas, .ref a_p2_sums, .long p2_total])), (a_p2_sums, .inl (cyJ, 100, .inr (.inl p2_sums)))]
def f_X6_movedBy_B17 (v1 : Int32) (told_pieceCount : Int32) (told_dragCount : Int32) (told_settings : Nat → Int32) (told_howFar : Nat → Int32) (told_tones : Nat → Int32) (told_currents : Nat → Int32) (told_warmths : Nat → Int32) (told_fars : Nat → Int32) (told_pieceCells : Nat → Int32) (told_pieceMonths : Nat → Int32) (told_pieceHighs : Nat → Int32) (told_pieceAges : Nat → Int32) (told_pieceNeeds : Nat → Int32) (told_dragCells : Nat → Int32) (told_dragEighths : Nat → Int32) (walk_ends : Nat → Int64) (trial_last : Int32) (trial_turnsLet : Int32) (trial_slowsLet : Int32) (trial_fuel : Int32) (trial_glide : Int32) (trial_count : Int32) (trial_weightSum : Int64) (trial_toPass : Int32) (trial_foundNumber : Int32) (trial_foundWeight : Int32) (trial_foundTurns : Int32) (trial_foundSlowed : Int32) (trial_howFar : Nat → Int32) (trial_tones : Nat → Int32) (trial_only : Nat → Int32) (trial_fars : Nat → Int32) (trial_cellAt : Nat → Int32) (trial_ends : Nat → Int64) (trial_seen : Nat → Int32) (trial_begun : Nat → Int32) (seas_known : Nat → Int32) (otherEnds_total : Int64) (otherEnds_sums : Nat → Int64) (p2_total : Int64) (p2_sums : Nat → Int64) : Option (Int32 × Int32 × Int32 × Int32 × Int32 × Int32 × Int32 × Int64 × Int32 × Int32 × Int32 × Int32 × Int32 × (Nat → Int32) × (Nat → Int32) × (Nat → Int32) × (Nat → Int32) × (Nat → Int32) × (Nat → Int64) × (Nat → Int32) × (Nat → Int32) × (Nat → Int32) × Int64 × (Nat → Int64)) :=
  bd3 (f_X0_weigh 100 v1 otherEnds_total otherEnds_sums told_pieceCount told_dragCount told_settings told_currents told_warmths told_pieceCells told_pieceMonths told_pieceHighs told_pieceAges told_pieceNeeds told_dragCells told_dragEighths seas_known walk_ends) fun w_1 w_2 w_3 =>
  bd1 (f_X0_apart p2_total p2_sums w_1 w_2) fun r_4 =>
  some (r_4, trial_last, trial_turnsLet, trial_slowsLet, trial_fuel, trial_glide, trial_count, trial_weightSum, trial_toPass, trial_foundNumber, trial_foundWeight, trial_foundTurns, trial_foundSlowed, trial_howFar, trial_tones, trial_only, trial_fars, trial_cellAt, trial_ends, trial_seen, trial_begun, w_3, w_1, w_2)
def f_X6_movedBy (x1 : Int32) (told_pieceCount : Int32) (told_dragCount : Int32) (told_settings : Nat → Int32) (told_howFar : Nat → Int32) (told_tones : Nat → Int32) (told_currents : Nat → Int32) (told_warmths : Nat → Int32) (told_fars : Nat → Int32) (told_pieceCells : Nat → Int32) (told_pieceMonths : Nat → Int32) (told_pieceHighs : Nat → Int32) (told_pieceAges : Nat → Int32) (told_pieceNeeds : Nat → Int32) (told_dragCells : Nat → Int32) (told_dragEighths : Nat → Int32) (walk_ends : Nat → Int64) (trial_last : Int32) (trial_turnsLet : Int32) (trial_slowsLet : Int32) (trial_fuel : Int32) (trial_glide : Int32) (trial_count : Int32) (trial_weightSum : Int64) (trial_toPass : Int32) (trial_foundNumber : Int32) (trial_foundWeight : Int32) (trial_foundTurns : Int32) (trial_foundSlowed : Int32) (trial_howFar : Nat → Int32) (trial_tones : Nat → Int32) (trial_only : Nat → Int32) (trial_fars : Nat → Int32) (trial_cellAt : Nat → Int32) (trial_ends : Nat → Int64) (trial_seen : Nat → Int32) (trial_begun : Nat → Int32) (seas_known : Nat → Int32) (otherEnds_total : Int64) (otherEnds_sums : Nat → Int64) (p2_total : Int64) (p2_sums : Nat → Int64) : Option (Int32 × Int32 × Int32 × Int32 × Int32 × Int32 × Int32 × Int64 × Int32 × Int32 × Int32 × Int32 × Int32 × (Nat → Int32) × (Nat → Int32) × (Nat → Int32) × (Nat → Int32) × (Nat → Int32) × (Nat → Int64) × (Nat → Int32) × (Nat → Int32) × (Nat → Int32) × Int64 × (Nat → Int64)) :=
  if 12 ≤ x1 then
    f_X6_movedBy_B17 x1 told_pieceCount told_dragCount told_settings told_howFar told_tones told_currents told_warmths told_fars told_pieceCells told_pieceMonths told_pieceHighs told_pieceAges told_pieceNeeds told_dragCells told_dragEighths walk_ends trial_last trial_turnsLet trial_slowsLet trial_fuel trial_glide trial_count trial_weightSum trial_toPass trial_foundNumber trial_foundWeight trial_foundTurns trial_foundSlowed trial_howFar trial_tones trial_only trial_fars trial_cellAt trial_ends trial_seen trial_begun seas_known otherEnds_total otherEnds_sums p2_total p2_sums
  else
    bd1 (f_X6_isPiece (x1 - 8) told_pieceCount) fun r_5 =>
    if r_5 = 0 then
      if x1 < 8 then
        bd10 (f_X5_begin trial_last trial_turnsLet trial_slowsLet trial_fuel trial_glide trial_howFar trial_tones trial_only trial_fars trial_cellAt told_settings told_howFar told_tones told_fars) fun w_6 w_7 w_8 w_9 w_10 w_11 w_12 w_13 w_14 w_15 =>
        bd4 (f_X5_leaveOut x1 w_6 w_9 w_11 w_12) fun r_16 w_17 w_18 w_19 =>
        if r_16 = 0 then
          some (0, w_6, w_7, w_8, w_17, w_10, trial_count, trial_weightSum, trial_toPass, trial_foundNumber, trial_foundWeight, trial_foundTurns, trial_foundSlowed, w_18, w_19, w_13, w_14, w_15, trial_ends, trial_seen, trial_begun, seas_known, otherEnds_total, otherEnds_sums)
        else
          bd11 (f_X5_goAll w_6 w_7 w_8 w_17 w_10 trial_count trial_weightSum trial_toPass trial_foundNumber trial_foundWeight trial_foundTurns trial_foundSlowed w_18 w_19 w_13 w_14 w_15 trial_ends trial_seen trial_begun) fun w_20 w_21 w_22 w_23 w_24 w_25 w_26 w_27 w_28 w_29 w_30 =>
          bd3 (f_X0_weigh 100 (-1) otherEnds_total otherEnds_sums told_pieceCount told_dragCount told_settings told_currents told_warmths told_pieceCells told_pieceMonths told_pieceHighs told_pieceAges told_pieceNeeds told_dragCells told_dragEighths seas_known w_28) fun w_31 w_32 w_33 =>
          bd1 (f_X0_apart p2_total p2_sums w_31 w_32) fun r_34 =>
          some (r_34, w_6, w_7, w_8, w_17, w_10, w_20, w_21, w_22, w_23, w_24, w_25, w_26, w_18, w_19, w_13, w_14, w_27, w_28, w_29, w_30, w_33, w_31, w_32)
      else
        some ((-1), trial_last, trial_turnsLet, trial_slowsLet, trial_fuel, trial_glide, trial_count, trial_weightSum, trial_toPass, trial_foundNumber, trial_foundWeight, trial_foundTurns, trial_foundSlowed, trial_howFar, trial_tones, trial_only, trial_fars, trial_cellAt, trial_ends, trial_seen, trial_begun, seas_known, otherEnds_total, otherEnds_sums)
    else
      f_X6_movedBy_B17 x1 told_pieceCount told_dragCount told_settings told_howFar told_tones told_currents told_warmths told_fars told_pieceCells told_pieceMonths told_pieceHighs told_pieceAges told_pieceNeeds told_dragCells told_dragEighths walk_ends trial_last trial_turnsLet trial_slowsLet trial_fuel trial_glide trial_count trial_weightSum trial_toPass trial_foundNumber trial_foundWeight trial_foundTurns trial_foundSlowed trial_howFar trial_tones trial_only trial_fars trial_cellAt trial_ends trial_seen trial_begun seas_known otherEnds_total otherEnds_sums p2_total p2_sums
abbrev rm_X6_movedBy : Room := { frames := 42, cells := 0, slots := 0, locals := 1054 }
set_option maxRecDepth 100000 in
set_option maxHeartbeats 4000000 in
theorem c_X6_movedBy (l : Launch) (dC : Nat → ClassId) (dI : Nat → Nat → Nat) (cyI cyJ cyO : ClassId) (sz : Nat) (tD tR tL tM : Nat) (h_o h_told h_walk h_trial h_seas h_otherEnds h_p2 h_kept h_ends h_tape a_sheets a_told_settings a_told_howFar a_told_tones a_told_currents a_told_warmths a_told_depths a_told_fars a_told_pieceCells a_told_pieceMonths a_told_pieceHighs a_told_pieceAges a_told_pieceNeeds a_told_dragCells a_told_dragEighths a_walk_howFar a_walk_tones a_walk_only a_walk_fars a_walk_cellAt a_walk_ends a_walk_seen a_walk_begun a_trial_howFar a_trial_tones a_trial_only a_trial_fars a_trial_cellAt a_trial_ends a_trial_seen a_trial_begun a_seas_known a_otherEnds_sums h_p2_told h_p2_seas a_p2_sums : Nat) (o_hasImage : Int32) (o_walkIsOld : Int32) (o_endsAreOld : Int32) (told_pieceCount : Int32) (told_dragCount : Int32) (told_settings : Nat → Int32) (told_howFar : Nat → Int32) (told_tones : Nat → Int32) (told_currents : Nat → Int32) (told_warmths : Nat → Int32) (told_fars : Nat → Int32) (told_pieceCells : Nat → Int32) (told_pieceMonths : Nat → Int32) (told_pieceHighs : Nat → Int32) (told_pieceAges : Nat → Int32) (told_pieceNeeds : Nat → Int32) (told_dragCells : Nat → Int32) (told_dragEighths : Nat → Int32) (walk_last : Int32) (walk_turnsLet : Int32) (walk_slowsLet : Int32) (walk_fuel : Int32) (walk_glide : Int32) (walk_count : Int32) (walk_weightSum : Int64) (walk_toPass : Int32) (walk_foundNumber : Int32) (walk_foundWeight : Int32) (walk_foundTurns : Int32) (walk_foundSlowed : Int32) (walk_ends : Nat → Int64) (trial_last : Int32) (trial_turnsLet : Int32) (trial_slowsLet : Int32) (trial_fuel : Int32) (trial_glide : Int32) (trial_count : Int32) (trial_weightSum : Int64) (trial_toPass : Int32) (trial_foundNumber : Int32) (trial_foundWeight : Int32) (trial_foundTurns : Int32) (trial_foundSlowed : Int32) (trial_howFar : Nat → Int32) (trial_tones : Nat → Int32) (trial_only : Nat → Int32) (trial_fars : Nat → Int32) (trial_cellAt : Nat → Int32) (trial_ends : Nat → Int64) (trial_seen : Nat → Int32) (trial_begun : Nat → Int32) (seas_known : Nat → Int32) (otherEnds_total : Int64) (otherEnds_sums : Nat → Int64) (p2_total : Int64) (p2_sums : Nat → Int64) (x1 : Int32) (post : (Int32 × Int32 × Int32 × Int32 × Int32 × Int32 × Int32 × Int64 × Int32 × Int32 × Int32 × Int32 × Int32 × (Nat → Int32) × (Nat → Int32) × (Nat → Int32) × (Nat → Int32) × (Nat → Int32) × (Nat → Int64) × (Nat → Int32) × (Nat → Int32) × (Nat → Int32) × Int64 × (Nat → Int64)) → Prop) (hf : okP (f_X6_movedBy x1 told_pieceCount told_dragCount told_settings told_howFar told_tones told_currents told_warmths told_fars told_pieceCells told_pieceMonths told_pieceHighs told_pieceAges told_pieceNeeds told_dragCells told_dragEighths walk_ends trial_last trial_turnsLet trial_slowsLet trial_fuel trial_glide trial_count trial_weightSum trial_toPass trial_foundNumber trial_foundWeight trial_foundTurns trial_foundSlowed trial_howFar trial_tones trial_only trial_fars trial_cellAt trial_ends trial_seen trial_begun seas_known otherEnds_total otherEnds_sums p2_total p2_sums) post) : Ci l (dC, dI) (tyL cyI cyJ cyO) yX6_movedBy wsX6_movedBy rm_X6_movedBy [.ref h_o, .int x1, .ref h_p2] sz (W_X6_movedBy cyI cyJ cyO h_o h_told h_walk h_trial h_seas h_otherEnds h_p2 h_kept h_ends h_tape a_sheets a_told_settings a_told_howFar a_told_tones a_told_currents a_told_warmths a_told_depths a_told_fars a_told_pieceCells a_told_pieceMonths a_told_pieceHighs a_told_pieceAges a_told_pieceNeeds a_told_dragCells a_told_dragEighths a_walk_howFar a_walk_tones a_walk_only a_walk_fars a_walk_cellAt a_walk_ends a_walk_seen a_walk_begun a_trial_howFar a_trial_tones a_trial_only a_trial_fars a_trial_cellAt a_trial_ends a_trial_seen a_trial_begun a_seas_known a_otherEnds_sums h_p2_told h_p2_seas a_p2_sums o_hasImage o_walkIsOld o_endsAreOld told_pieceCount told_dragCount told_settings told_howFar told_tones told_currents told_warmths told_fars told_pieceCells told_pieceMonths told_pieceHighs told_pieceAges told_pieceNeeds told_dragCells told_dragEighths walk_last walk_turnsLet walk_slowsLet walk_fuel walk_glide walk_count walk_weightSum walk_toPass walk_foundNumber walk_foundWeight walk_foundTurns walk_foundSlowed walk_ends trial_last trial_turnsLet trial_slowsLet trial_fuel trial_glide trial_count trial_weightSum trial_toPass trial_foundNumber trial_foundWeight trial_foundTurns trial_foundSlowed trial_howFar trial_tones trial_only trial_fars trial_cellAt trial_ends trial_seen trial_begun seas_known otherEnds_total otherEnds_sums p2_total p2_sums) (zX tD tR tL tM) (fun r u => post (r, u)) (fun u => (W_X6_movedBy cyI cyJ cyO h_o h_told h_walk h_trial h_seas h_otherEnds h_p2 h_kept h_ends h_tape a_sheets a_told_settings a_told_howFar a_told_tones a_told_currents a_told_warmths a_told_depths a_told_fars a_told_pieceCells a_told_pieceMonths a_told_pieceHighs a_told_pieceAges a_told_pieceNeeds a_told_dragCells a_told_dragEighths a_walk_howFar a_walk_tones a_walk_only a_walk_fars a_walk_cellAt a_walk_ends a_walk_seen a_walk_begun a_trial_howFar a_trial_tones a_trial_only a_trial_fars a_trial_cellAt a_trial_ends a_trial_seen a_trial_begun a_seas_known a_otherEnds_sums h_p2_told h_p2_seas a_p2_sums o_hasImage o_walkIsOld o_endsAreOld told_pieceCount told_dragCount told_settings told_howFar told_tones told_currents told_warmths told_fars told_pieceCells told_pieceMonths told_pieceHighs told_pieceAges told_pieceNeeds told_dragCells told_dragEighths walk_last walk_turnsLet walk_slowsLet walk_fuel walk_glide walk_count walk_weightSum walk_toPass walk_foundNumber walk_foundWeight walk_foundTurns walk_foundSlowed walk_ends u.1 u.2.1 u.2.2.1 u.2.2.2.1 u.2.2.2.2.1 u.2.2.2.2.2.1 u.2.2.2.2.2.2.1 u.2.2.2.2.2.2.2.1 u.2.2.2.2.2.2.2.2.1 u.2.2.2.2.2.2.2.2.2.1 u.2.2.2.2.2.2.2.2.2.2.1 u.2.2.2.2.2.2.2.2.2.2.2.1 u.2.2.2.2.2.2.2.2.2.2.2.2.1 u.2.2.2.2.2.2.2.2.2.2.2.2.2.1 u.2.2.2.2.2.2.2.2.2.2.2.2.2.2.1 u.2.2.2.2.2.2.2.2.2.2.2.2.2.2.2.1 u.2.2.2.2.2.2.2.2.2.2.2.2.2.2.2.2.1 u.2.2.2.2.2.2.2.2.2.2.2.2.2.2.2.2.2.1 u.2.2.2.2.2.2.2.2.2.2.2.2.2.2.2.2.2.2.1 u.2.2.2.2.2.2.2.2.2.2.2.2.2.2.2.2.2.2.2.1 u.2.2.2.2.2.2.2.2.2.2.2.2.2.2.2.2.2.2.2.2.1 u.2.2.2.2.2.2.2.2.2.2.2.2.2.2.2.2.2.2.2.2.2.1 u.2.2.2.2.2.2.2.2.2.2.2.2.2.2.2.2.2.2.2.2.2.2 p2_total p2_sums)) := by
  refine Met.ofW (cc := cX6_movedBy) (maxL := 3) (ret := (some .int)) (by decide) rfl ?_
  intro p e s m args below meth c s₁ B hml hv
  obtain ⟨rfl, hsz, hP, hK, hD0, hZ⟩ := hv
  have hx := B.exec
  have hb := B.bytes
  have hr := B.returns
  have hts := atoms_spec (ws := wsX6_movedBy) B.pre
  have hown : s.vm.findClass RX6 = some m.cls := findClass_of_methodNamed B.named
  have hlocks := B.notSynchronized
  subst hsz
  have hD := hD0.self (sz := s.heap.size)
  generalize hAe : va_A (W_X6_movedBy cyI cyJ cyO h_o h_told h_walk h_trial h_seas h_otherEnds h_p2 h_kept h_ends h_tape a_sheets a_told_settings a_told_howFar a_told_tones a_told_currents a_told_warmths a_told_depths a_told_fars a_told_pieceCells a_told_pieceMonths a_told_pieceHighs a_told_pieceAges a_told_pieceNeeds a_told_dragCells a_told_dragEighths a_walk_howFar a_walk_tones a_walk_only a_walk_fars a_walk_cellAt a_walk_ends a_walk_seen a_walk_begun a_trial_howFar a_trial_tones a_trial_only a_trial_fars a_trial_cellAt a_trial_ends a_trial_seen a_trial_begun a_seas_known a_otherEnds_sums h_p2_told h_p2_seas a_p2_sums o_hasImage o_walkIsOld o_endsAreOld told_pieceCount told_dragCount told_settings told_howFar told_tones told_currents told_warmths told_fars told_pieceCells told_pieceMonths told_pieceHighs told_pieceAges told_pieceNeeds told_dragCells told_dragEighths walk_last walk_turnsLet walk_slowsLet walk_fuel walk_glide walk_count walk_weightSum walk_toPass walk_foundNumber walk_foundWeight walk_foundTurns walk_foundSlowed walk_ends trial_last trial_turnsLet trial_slowsLet trial_fuel trial_glide trial_count trial_weightSum trial_toPass trial_foundNumber trial_foundWeight trial_foundTurns trial_foundSlowed trial_howFar trial_tones trial_only trial_fars trial_cellAt trial_ends trial_seen trial_begun seas_known otherEnds_total otherEnds_sums p2_total p2_sums) s.heap.size = A at hD hZ ⊢
  have hA : ∀ q : Nat, s.heap.size ≤ q → A q := fun q h => by rw [← hAe]; exact Or.inr h
  clear hAe hD0
  have hS : va_S A s.heap s.heap [] := va_S.rf
  have hl := lv_entry ([.ref h_o, .int x1, .ref h_p2]) (n := 3) (Nat.le_of_ble_eq_true rfl)
  rw [lg_entry_eq]
  generalize (lg_sl ([.ref h_o, .int x1, .ref h_p2]) ++ List.replicate (3 - (lg_sl ([.ref h_o, .int x1, .ref h_p2])).length) Slot.unset).toArray = ls at hl ⊢
  have hl : lv_has ls 3 [(0, .ref h_o), (1, .int x1), (2, .ref h_p2)] := hl
  refine kW (fun Q hQ => ?_)
  have hq0 := hts _ (List.mem_cons_of_mem _ q_276)
  have hi6 : ∀ w ∈ u_ws RX6 TX6 12, w ∈ wsX6_movedBy := fun w h => List.mem_cons_of_mem _ (inX6 w h)
  have hq2 := hts _ (List.mem_cons_of_mem _ q_272)
  have hq3 := hts _ (List.mem_cons_of_mem _ q_129)
  have hi5 : ∀ w ∈ u_ws RX5 TX5 20, w ∈ wsX6_movedBy := fun w h => List.mem_cons_of_mem _ (inX5 w h)
  have hq5 := hts _ (List.mem_cons_of_mem _ q_273)
  have hq6 := hts _ (List.mem_cons_of_mem _ q_270)
  have hw := hf
  have w17 : ∀ (v1 : Int32) (trial_last : Int32) (trial_turnsLet : Int32) (trial_slowsLet : Int32) (trial_fuel : Int32) (trial_glide : Int32) (trial_count : Int32) (trial_weightSum : Int64) (trial_toPass : Int32) (trial_foundNumber : Int32) (trial_foundWeight : Int32) (trial_foundTurns : Int32) (trial_foundSlowed : Int32) (trial_howFar : Nat → Int32) (trial_tones : Nat → Int32) (trial_only : Nat → Int32) (trial_fars : Nat → Int32) (trial_cellAt : Nat → Int32) (trial_ends : Nat → Int64) (trial_seen : Nat → Int32) (trial_begun : Nat → Int32) (seas_known : Nat → Int32) (otherEnds_total : Int64) (otherEnds_sums : Nat → Int64) (H : Heap) (locs : List Loc), va_P (dC, dI) vwCl (W_X6_movedBy cyI cyJ cyO h_o h_told h_walk h_trial h_seas h_otherEnds h_p2 h_kept h_ends h_tape a_sheets a_told_settings a_told_howFar a_told_tones a_told_currents a_told_warmths a_told_depths a_told_fars a_told_pieceCells a_told_pieceMonths a_told_pieceHighs a_told_pieceAges a_told_pieceNeeds a_told_dragCells a_told_dragEighths a_walk_howFar a_walk_tones a_walk_only a_walk_fars a_walk_cellAt a_walk_ends a_walk_seen a_walk_begun a_trial_howFar a_trial_tones a_trial_only a_trial_fars a_trial_cellAt a_trial_ends a_trial_seen a_trial_begun a_seas_known a_otherEnds_sums h_p2_told h_p2_seas a_p2_sums o_hasImage o_walkIsOld o_endsAreOld told_pieceCount told_dragCount told_settings told_howFar told_tones told_currents told_warmths told_fars told_pieceCells told_pieceMonths told_pieceHighs told_pieceAges told_pieceNeeds told_dragCells told_dragEighths walk_last walk_turnsLet walk_slowsLet walk_fuel walk_glide walk_count walk_weightSum walk_toPass walk_foundNumber walk_foundWeight walk_foundTurns walk_foundSlowed walk_ends trial_last trial_turnsLet trial_slowsLet trial_fuel trial_glide trial_count trial_weightSum trial_toPass trial_foundNumber trial_foundWeight trial_foundTurns trial_foundSlowed trial_howFar trial_tones trial_only trial_fars trial_cellAt trial_ends trial_seen trial_begun seas_known otherEnds_total otherEnds_sums p2_total p2_sums) H → va_D A (W_X6_movedBy cyI cyJ cyO h_o h_told h_walk h_trial h_seas h_otherEnds h_p2 h_kept h_ends h_tape a_sheets a_told_settings a_told_howFar a_told_tones a_told_currents a_told_warmths a_told_depths a_told_fars a_told_pieceCells a_told_pieceMonths a_told_pieceHighs a_told_pieceAges a_told_pieceNeeds a_told_dragCells a_told_dragEighths a_walk_howFar a_walk_tones a_walk_only a_walk_fars a_walk_cellAt a_walk_ends a_walk_seen a_walk_begun a_trial_howFar a_trial_tones a_trial_only a_trial_fars a_trial_cellAt a_trial_ends a_trial_seen a_trial_begun a_seas_known a_otherEnds_sums h_p2_told h_p2_seas a_p2_sums o_hasImage o_walkIsOld o_endsAreOld told_pieceCount told_dragCount told_settings told_howFar told_tones told_currents told_warmths told_fars told_pieceCells told_pieceMonths told_pieceHighs told_pieceAges told_pieceNeeds told_dragCells told_dragEighths walk_last walk_turnsLet walk_slowsLet walk_fuel walk_glide walk_count walk_weightSum walk_toPass walk_foundNumber walk_foundWeight walk_foundTurns walk_foundSlowed walk_ends trial_last trial_turnsLet trial_slowsLet trial_fuel trial_glide trial_count trial_weightSum trial_toPass trial_foundNumber trial_foundWeight trial_foundTurns trial_foundSlowed trial_howFar trial_tones trial_only trial_fars trial_cellAt trial_ends trial_seen trial_begun seas_known otherEnds_total otherEnds_sums p2_total p2_sums) → va_S A s.heap H locs → ∀ (ls : Array Slot), lv_has ls 3 [(0, .ref h_o), (1, .int v1), (2, .ref h_p2)] → okP (f_X6_movedBy_B17 v1 told_pieceCount told_dragCount told_settings told_howFar told_tones told_currents told_warmths told_fars told_pieceCells told_pieceMonths told_pieceHighs told_pieceAges told_pieceNeeds told_dragCells told_dragEighths walk_ends trial_last trial_turnsLet trial_slowsLet trial_fuel trial_glide trial_count trial_weightSum trial_toPass trial_foundNumber trial_foundWeight trial_foundTurns trial_foundSlowed trial_howFar trial_tones trial_only trial_fars trial_cellAt trial_ends trial_seen trial_begun seas_known otherEnds_total otherEnds_sums p2_total p2_sums) post → W p l e (headSpec wsX6_movedBy rm_X6_movedBy).room s m ([.ref h_o, .int x1, .ref h_p2] : List Value).toArray below meth c H locs 0 0 Q (F0 m 17 ls []) := by
    intro v1 trial_last trial_turnsLet trial_slowsLet trial_fuel trial_glide trial_count trial_weightSum trial_toPass trial_foundNumber trial_foundWeight trial_foundTurns trial_foundSlowed trial_howFar trial_tones trial_only trial_fars trial_cellAt trial_ends trial_seen trial_begun seas_known otherEnds_total otherEnds_sums H locs hP hD hS ls hl hw
    unfold f_X6_movedBy_B17 at hw
    refine lv_aload_n hx hb dX6_movedBy_17 rfl (lv_at hl 0 rfl) ?_
    refine va_get (D := (dC, dI)) (ci := 6) (v := .ref h_otherEnds) (C := RX6) (T := TX6) (N := 12) hx hb hts hi6 hown hK hP 0 rfl rfl 6 (by decide) hq0 (fun _ h9 => h9) rfl dX6_movedBy_18 ?_
    refine lv_aload_n hx hb dX6_movedBy_21 rfl (lv_at hl 0 rfl) ?_
    refine va_get (D := (dC, dI)) (ci := 6) (v := .ref h_walk) (C := RX6) (T := TX6) (N := 12) hx hb hts hi6 hown hK hP 0 rfl rfl 2 (by decide) hq2 (fun _ h9 => h9) rfl dX6_movedBy_22 ?_
    refine va_get (D := (dC, dI)) (ci := 5) (v := .ref a_walk_ends) (C := RX5) (T := TX5) (N := 20) hx hb hts hi5 hown hK hP 15 rfl rfl 10 (by decide) hq3 (fun _ h9 => h9) rfl dX6_movedBy_25 ?_
    refine lv_iload_n hx hb dX6_movedBy_28 rfl (lv_at hl 1 rfl) ?_
    have hPc := hP.sub (ws' := (W_X0_weigh cyI cyJ cyO 100 h_otherEnds h_told h_seas a_otherEnds_sums a_told_settings a_told_howFar a_told_tones a_told_currents a_told_warmths a_told_depths a_told_fars a_told_pieceCells a_told_pieceMonths a_told_pieceHighs a_told_pieceAges a_told_pieceNeeds a_told_dragCells a_told_dragEighths a_seas_known a_walk_ends otherEnds_total otherEnds_sums told_pieceCount told_dragCount told_settings told_currents told_warmths told_pieceCells told_pieceMonths told_pieceHighs told_pieceAges told_pieceNeeds told_dragCells told_dragEighths seas_known walk_ends)) [28, 29, 1, 2, 5, 6, 8, 9, 10, 11, 12, 13, 14, 26, 27, 16] rfl
    have hDc := hD.sub (ws' := (W_X0_weigh cyI cyJ cyO 100 h_otherEnds h_told h_seas a_otherEnds_sums a_told_settings a_told_howFar a_told_tones a_told_currents a_told_warmths a_told_depths a_told_fars a_told_pieceCells a_told_pieceMonths a_told_pieceHighs a_told_pieceAges a_told_pieceNeeds a_told_dragCells a_told_dragEighths a_seas_known a_walk_ends otherEnds_total otherEnds_sums told_pieceCount told_dragCount told_settings told_currents told_warmths told_pieceCells told_pieceMonths told_pieceHighs told_pieceAges told_pieceNeeds told_dragCells told_dragEighths seas_known walk_ends)) [28, 29, 1, 2, 5, 6, 8, 9, 10, 11, 12, 13, 14, 26, 27, 16] (by decide +kernel) rfl
    have hFc := va_free (wc := (W_X0_weigh cyI cyJ cyO 100 h_otherEnds h_told h_seas a_otherEnds_sums a_told_settings a_told_howFar a_told_tones a_told_currents a_told_warmths a_told_depths a_told_fars a_told_pieceCells a_told_pieceMonths a_told_pieceHighs a_told_pieceAges a_told_pieceNeeds a_told_dragCells a_told_dragEighths a_seas_known a_walk_ends otherEnds_total otherEnds_sums told_pieceCount told_dragCount told_settings told_currents told_warmths told_pieceCells told_pieceMonths told_pieceHighs told_pieceAges told_pieceNeeds told_dragCells told_dragEighths seas_known walk_ends)) hD hS hA [28, 29, 1, 2, 5, 6, 8, 9, 10, 11, 12, 13, 14, 26, 27, 16] rfl
    refine kc_v (wr := [(h_o, .inr (6, [.ref h_told, .ref h_kept, .ref h_walk, .ref h_trial, .ref h_seas, .ref h_ends, .ref h_otherEnds, .ref h_tape, .ref a_sheets, .int o_hasImage, .int o_walkIsOld, .int o_endsAreOld])), (a_told_howFar, .inl (cyI, 7, .inl told_howFar)), (a_told_tones, .inl (cyI, 7, .inl told_tones)), (a_told_fars, .inl (cyI, 100, .inl told_fars)), (h_walk, .inr (5, [.ref a_walk_howFar, .ref a_walk_tones, .ref a_walk_only, .ref a_walk_fars, .int walk_last, .int walk_turnsLet, .int walk_slowsLet, .int walk_fuel, .int walk_glide, .ref a_walk_cellAt, .ref a_walk_ends, .ref a_walk_seen, .ref a_walk_begun, .int walk_count, .long walk_weightSum, .int walk_toPass, .int walk_foundNumber, .int walk_foundWeight, .int walk_foundTurns, .int walk_foundSlowed])), (h_trial, .inr (5, [.ref a_trial_howFar, .ref a_trial_tones, .ref a_trial_only, .ref a_trial_fars, .int trial_last, .int trial_turnsLet, .int trial_slowsLet, .int trial_fuel, .int trial_glide, .ref a_trial_cellAt, .ref a_trial_ends, .ref a_trial_seen, .ref a_trial_begun, .int trial_count, .long trial_weightSum, .int trial_toPass, .int trial_foundNumber, .int trial_foundWeight, .int trial_foundTurns, .int trial_foundSlowed])), (a_trial_howFar, .inl (cyI, 7, .inl trial_howFar)), (a_trial_tones, .inl (cyI, 7, .inl trial_tones)), (a_trial_only, .inl (cyI, 7, .inl trial_only)), (a_trial_fars, .inl (cyI, 100, .inl trial_fars)), (a_trial_cellAt, .inl (cyI, 7, .inl trial_cellAt)), (a_trial_ends, .inl (cyJ, 100, .inr (.inl trial_ends))), (a_trial_seen, .inl (cyI, 70, .inl trial_seen)), (a_trial_begun, .inl (cyI, 24, .inl trial_begun)), (h_p2, .inr (0, [.ref h_p2_told, .ref h_p2_seas, .ref a_p2_sums, .long p2_total])), (a_p2_sums, .inl (cyJ, 100, .inr (.inl p2_sums)))]) (va_runV (As := [.ref a_walk_ends, .int v1]) (rest := []) ⟨hx, hb, hml, hown, hts⟩ (c_X0_weigh l dC dI cyI cyJ cyO H.size tD tR tL tM 100 h_otherEnds h_told h_seas a_otherEnds_sums a_told_settings a_told_howFar a_told_tones a_told_currents a_told_warmths a_told_depths a_told_fars a_told_pieceCells a_told_pieceMonths a_told_pieceHighs a_told_pieceAges a_told_pieceNeeds a_told_dragCells a_told_dragEighths a_seas_known a_walk_ends otherEnds_total otherEnds_sums told_pieceCount told_dragCount told_settings told_currents told_warmths told_pieceCells told_pieceMonths told_pieceHighs told_pieceAges told_pieceNeeds told_dragCells told_dragEighths seas_known walk_ends v1 _ (okb3 hw)) (cwV 2 hts (gdV (fun w h => List.mem_cons_of_mem _ h) q_540 q_541 q_542 q_5 q_543) rfl rfl rfl (by decide +kernel) ⟨Nat.le_of_ble_eq_true rfl, Nat.le_of_ble_eq_true rfl⟩) ⟨(kpre zX_ok hK hPc hDc hZ hS hFc).1, va_recv hK hP (ci := 0) (q0 := 28) rfl rfl, (kpre zX_ok hK hPc hDc hZ hS hFc).2⟩ rfl rfl hl.1 rfl (lv_room (Nat.le_of_ble_eq_true rfl)) dX6_movedBy_29 ⟨Nat.le_of_ble_eq_true rfl, Nat.le_of_ble_eq_true rfl⟩) hP hD hS hFc [28, 29, 1, 2, 5, 6, 8, 9, 10, 11, 12, 13, 14, 26, 27, 16] [0, 3, 4, 7, 15, 17, 18, 19, 20, 21, 22, 23, 24, 25, 30, 31] rfl rfl (by decide +kernel) (by decide +kernel) (fun u H locs hw hP hD hS => ?_)
    obtain ⟨w_1, w_2, w_3⟩ := u
    try dsimp only at hw
    have hP : va_P (dC, dI) vwCl (W_X6_movedBy cyI cyJ cyO h_o h_told h_walk h_trial h_seas h_otherEnds h_p2 h_kept h_ends h_tape a_sheets a_told_settings a_told_howFar a_told_tones a_told_currents a_told_warmths a_told_depths a_told_fars a_told_pieceCells a_told_pieceMonths a_told_pieceHighs a_told_pieceAges a_told_pieceNeeds a_told_dragCells a_told_dragEighths a_walk_howFar a_walk_tones a_walk_only a_walk_fars a_walk_cellAt a_walk_ends a_walk_seen a_walk_begun a_trial_howFar a_trial_tones a_trial_only a_trial_fars a_trial_cellAt a_trial_ends a_trial_seen a_trial_begun a_seas_known a_otherEnds_sums h_p2_told h_p2_seas a_p2_sums o_hasImage o_walkIsOld o_endsAreOld told_pieceCount told_dragCount told_settings told_howFar told_tones told_currents told_warmths told_fars told_pieceCells told_pieceMonths told_pieceHighs told_pieceAges told_pieceNeeds told_dragCells told_dragEighths walk_last walk_turnsLet walk_slowsLet walk_fuel walk_glide walk_count walk_weightSum walk_toPass walk_foundNumber walk_foundWeight walk_foundTurns walk_foundSlowed walk_ends trial_last trial_turnsLet trial_slowsLet trial_fuel trial_glide trial_count trial_weightSum trial_toPass trial_foundNumber trial_foundWeight trial_foundTurns trial_foundSlowed trial_howFar trial_tones trial_only trial_fars trial_cellAt trial_ends trial_seen trial_begun w_3 w_1 w_2 p2_total p2_sums) H := hP.sub [0, 18, 19, 1, 2, 20, 21, 3, 22, 23, 24, 25, 26, 27, 28, 4, 31, 5, 6, 7, 8, 9, 10, 11, 12, 13, 29, 30, 16, 17, 14, 15] rfl
    have hD : va_D A (W_X6_movedBy cyI cyJ cyO h_o h_told h_walk h_trial h_seas h_otherEnds h_p2 h_kept h_ends h_tape a_sheets a_told_settings a_told_howFar a_told_tones a_told_currents a_told_warmths a_told_depths a_told_fars a_told_pieceCells a_told_pieceMonths a_told_pieceHighs a_told_pieceAges a_told_pieceNeeds a_told_dragCells a_told_dragEighths a_walk_howFar a_walk_tones a_walk_only a_walk_fars a_walk_cellAt a_walk_ends a_walk_seen a_walk_begun a_trial_howFar a_trial_tones a_trial_only a_trial_fars a_trial_cellAt a_trial_ends a_trial_seen a_trial_begun a_seas_known a_otherEnds_sums h_p2_told h_p2_seas a_p2_sums o_hasImage o_walkIsOld o_endsAreOld told_pieceCount told_dragCount told_settings told_howFar told_tones told_currents told_warmths told_fars told_pieceCells told_pieceMonths told_pieceHighs told_pieceAges told_pieceNeeds told_dragCells told_dragEighths walk_last walk_turnsLet walk_slowsLet walk_fuel walk_glide walk_count walk_weightSum walk_toPass walk_foundNumber walk_foundWeight walk_foundTurns walk_foundSlowed walk_ends trial_last trial_turnsLet trial_slowsLet trial_fuel trial_glide trial_count trial_weightSum trial_toPass trial_foundNumber trial_foundWeight trial_foundTurns trial_foundSlowed trial_howFar trial_tones trial_only trial_fars trial_cellAt trial_ends trial_seen trial_begun w_3 w_1 w_2 p2_total p2_sums) := hD.sub [0, 18, 19, 1, 2, 20, 21, 3, 22, 23, 24, 25, 26, 27, 28, 4, 31, 5, 6, 7, 8, 9, 10, 11, 12, 13, 29, 30, 16, 17, 14, 15] (by decide +kernel) rfl
    clear hPc hDc hFc
    refine lv_aload_n hx hb dX6_movedBy_32 rfl (lv_at hl 2 rfl) ?_
    refine lv_aload_n hx hb dX6_movedBy_33 rfl (lv_at hl 0 rfl) ?_
    refine va_get (D := (dC, dI)) (ci := 6) (v := .ref h_otherEnds) (C := RX6) (T := TX6) (N := 12) hx hb hts hi6 hown hK hP 0 rfl rfl 6 (by decide) hq0 (fun _ h9 => h9) rfl dX6_movedBy_34 ?_
    have hPc := hP.sub (ws' := (W_X0_apart cyI cyJ cyO h_p2 h_otherEnds h_p2_told h_p2_seas a_p2_sums h_told h_seas a_otherEnds_sums p2_total p2_sums w_1 w_2)) [30, 31, 28, 29] rfl
    have hDc := hD.sub (ws' := (W_X0_apart cyI cyJ cyO h_p2 h_otherEnds h_p2_told h_p2_seas a_p2_sums h_told h_seas a_otherEnds_sums p2_total p2_sums w_1 w_2)) [30, 31, 28, 29] (by decide +kernel) rfl
    have hFc := va_free (wc := (W_X0_apart cyI cyJ cyO h_p2 h_otherEnds h_p2_told h_p2_seas a_p2_sums h_told h_seas a_otherEnds_sums p2_total p2_sums w_1 w_2)) hD hS hA [30, 31, 28, 29] rfl
    refine kc_i (wr := [(h_o, .inr (6, [.ref h_told, .ref h_kept, .ref h_walk, .ref h_trial, .ref h_seas, .ref h_ends, .ref h_otherEnds, .ref h_tape, .ref a_sheets, .int o_hasImage, .int o_walkIsOld, .int o_endsAreOld])), (h_told, .inr (4, [.ref a_told_settings, .ref a_told_howFar, .ref a_told_tones, .ref a_told_currents, .ref a_told_warmths, .ref a_told_depths, .ref a_told_fars, .ref a_told_pieceCells, .ref a_told_pieceMonths, .ref a_told_pieceHighs, .ref a_told_pieceAges, .ref a_told_pieceNeeds, .ref a_told_dragCells, .ref a_told_dragEighths, .int told_pieceCount, .int told_dragCount])), (a_told_settings, .inl (cyI, 8, .inl told_settings)), (a_told_howFar, .inl (cyI, 7, .inl told_howFar)), (a_told_tones, .inl (cyI, 7, .inl told_tones)), (a_told_currents, .inl (cyI, 200, .inl told_currents)), (a_told_warmths, .inl (cyI, 200, .inl told_warmths)), (a_told_fars, .inl (cyI, 100, .inl told_fars)), (a_told_pieceCells, .inl (cyI, 4, .inl told_pieceCells)), (a_told_pieceMonths, .inl (cyI, 4, .inl told_pieceMonths)), (a_told_pieceHighs, .inl (cyI, 4, .inl told_pieceHighs)), (a_told_pieceAges, .inl (cyI, 4, .inl told_pieceAges)), (a_told_pieceNeeds, .inl (cyI, 4, .inl told_pieceNeeds)), (a_told_dragCells, .inl (cyI, 4, .inl told_dragCells)), (a_told_dragEighths, .inl (cyI, 4, .inl told_dragEighths)), (h_walk, .inr (5, [.ref a_walk_howFar, .ref a_walk_tones, .ref a_walk_only, .ref a_walk_fars, .int walk_last, .int walk_turnsLet, .int walk_slowsLet, .int walk_fuel, .int walk_glide, .ref a_walk_cellAt, .ref a_walk_ends, .ref a_walk_seen, .ref a_walk_begun, .int walk_count, .long walk_weightSum, .int walk_toPass, .int walk_foundNumber, .int walk_foundWeight, .int walk_foundTurns, .int walk_foundSlowed])), (a_walk_ends, .inl (cyJ, 100, .inr (.inl walk_ends))), (h_trial, .inr (5, [.ref a_trial_howFar, .ref a_trial_tones, .ref a_trial_only, .ref a_trial_fars, .int trial_last, .int trial_turnsLet, .int trial_slowsLet, .int trial_fuel, .int trial_glide, .ref a_trial_cellAt, .ref a_trial_ends, .ref a_trial_seen, .ref a_trial_begun, .int trial_count, .long trial_weightSum, .int trial_toPass, .int trial_foundNumber, .int trial_foundWeight, .int trial_foundTurns, .int trial_foundSlowed])), (a_trial_howFar, .inl (cyI, 7, .inl trial_howFar)), (a_trial_tones, .inl (cyI, 7, .inl trial_tones)), (a_trial_only, .inl (cyI, 7, .inl trial_only)), (a_trial_fars, .inl (cyI, 100, .inl trial_fars)), (a_trial_cellAt, .inl (cyI, 7, .inl trial_cellAt)), (a_trial_ends, .inl (cyJ, 100, .inr (.inl trial_ends))), (a_trial_seen, .inl (cyI, 70, .inl trial_seen)), (a_trial_begun, .inl (cyI, 24, .inl trial_begun)), (h_seas, .inr (1, [.ref h_told, .ref a_seas_known])), (a_seas_known, .inl (cyI, 400, .inl w_3))]) (va_runV (As := [.ref h_otherEnds]) (rest := []) ⟨hx, hb, hml, hown, hts⟩ (c_X0_apart l dC dI cyI cyJ cyO H.size h_p2 h_otherEnds h_p2_told h_p2_seas a_p2_sums h_told h_seas a_otherEnds_sums p2_total p2_sums w_1 w_2 _ (okb1 hw)) (cwV 1 hts (gdV (fun w h => List.mem_cons_of_mem _ h) q_583 q_584 q_585 q_5 q_586) rfl rfl rfl (by decide +kernel) ⟨Nat.le_of_ble_eq_true rfl, Nat.le_of_ble_eq_true rfl⟩) ⟨(kpre zN_ok hK hPc hDc trivial hS hFc).1, va_recv hK hP (ci := 0) (q0 := 30) rfl rfl, (kpre zN_ok hK hPc hDc trivial hS hFc).2⟩ rfl rfl hl.1 rfl (lv_room (Nat.le_of_ble_eq_true rfl)) dX6_movedBy_37 ⟨Nat.le_of_ble_eq_true rfl, Nat.le_of_ble_eq_true rfl⟩) hP hD hS hFc [30, 31, 28, 29] [0, 1, 2, 3, 4, 5, 6, 7, 8, 9, 10, 11, 12, 13, 14, 15, 16, 17, 18, 19, 20, 21, 22, 23, 24, 25, 26, 27] rfl rfl (by decide +kernel) (by decide +kernel) (fun r_4 u H locs hw hP hD hS => ?_)
    try dsimp only at hw
    have hP : va_P (dC, dI) vwCl (W_X6_movedBy cyI cyJ cyO h_o h_told h_walk h_trial h_seas h_otherEnds h_p2 h_kept h_ends h_tape a_sheets a_told_settings a_told_howFar a_told_tones a_told_currents a_told_warmths a_told_depths a_told_fars a_told_pieceCells a_told_pieceMonths a_told_pieceHighs a_told_pieceAges a_told_pieceNeeds a_told_dragCells a_told_dragEighths a_walk_howFar a_walk_tones a_walk_only a_walk_fars a_walk_cellAt a_walk_ends a_walk_seen a_walk_begun a_trial_howFar a_trial_tones a_trial_only a_trial_fars a_trial_cellAt a_trial_ends a_trial_seen a_trial_begun a_seas_known a_otherEnds_sums h_p2_told h_p2_seas a_p2_sums o_hasImage o_walkIsOld o_endsAreOld told_pieceCount told_dragCount told_settings told_howFar told_tones told_currents told_warmths told_fars told_pieceCells told_pieceMonths told_pieceHighs told_pieceAges told_pieceNeeds told_dragCells told_dragEighths walk_last walk_turnsLet walk_slowsLet walk_fuel walk_glide walk_count walk_weightSum walk_toPass walk_foundNumber walk_foundWeight walk_foundTurns walk_foundSlowed walk_ends trial_last trial_turnsLet trial_slowsLet trial_fuel trial_glide trial_count trial_weightSum trial_toPass trial_foundNumber trial_foundWeight trial_foundTurns trial_foundSlowed trial_howFar trial_tones trial_only trial_fars trial_cellAt trial_ends trial_seen trial_begun w_3 w_1 w_2 p2_total p2_sums) H := hP.sub [0, 1, 2, 3, 4, 5, 6, 7, 8, 9, 10, 11, 12, 13, 14, 15, 16, 17, 18, 19, 20, 21, 22, 23, 24, 25, 26, 27, 30, 31, 28, 29] rfl
    have hD : va_D A (W_X6_movedBy cyI cyJ cyO h_o h_told h_walk h_trial h_seas h_otherEnds h_p2 h_kept h_ends h_tape a_sheets a_told_settings a_told_howFar a_told_tones a_told_currents a_told_warmths a_told_depths a_told_fars a_told_pieceCells a_told_pieceMonths a_told_pieceHighs a_told_pieceAges a_told_pieceNeeds a_told_dragCells a_told_dragEighths a_walk_howFar a_walk_tones a_walk_only a_walk_fars a_walk_cellAt a_walk_ends a_walk_seen a_walk_begun a_trial_howFar a_trial_tones a_trial_only a_trial_fars a_trial_cellAt a_trial_ends a_trial_seen a_trial_begun a_seas_known a_otherEnds_sums h_p2_told h_p2_seas a_p2_sums o_hasImage o_walkIsOld o_endsAreOld told_pieceCount told_dragCount told_settings told_howFar told_tones told_currents told_warmths told_fars told_pieceCells told_pieceMonths told_pieceHighs told_pieceAges told_pieceNeeds told_dragCells told_dragEighths walk_last walk_turnsLet walk_slowsLet walk_fuel walk_glide walk_count walk_weightSum walk_toPass walk_foundNumber walk_foundWeight walk_foundTurns walk_foundSlowed walk_ends trial_last trial_turnsLet trial_slowsLet trial_fuel trial_glide trial_count trial_weightSum trial_toPass trial_foundNumber trial_foundWeight trial_foundTurns trial_foundSlowed trial_howFar trial_tones trial_only trial_fars trial_cellAt trial_ends trial_seen trial_begun w_3 w_1 w_2 p2_total p2_sums) := hD.sub [0, 1, 2, 3, 4, 5, 6, 7, 8, 9, 10, 11, 12, 13, 14, 15, 16, 17, 18, 19, 20, 21, 22, 23, 24, 25, 26, 27, 30, 31, 28, 29] (by decide +kernel) rfl
    clear hPc hDc hFc
    rw [hQ]
    exact W.iret (v := r_4) hx hb hr (fun t ht hW => ⟨⟨r_4, (trial_last, trial_turnsLet, trial_slowsLet, trial_fuel, trial_glide, trial_count, trial_weightSum, trial_toPass, trial_foundNumber, trial_foundWeight, trial_foundTurns, trial_foundSlowed, trial_howFar, trial_tones, trial_only, trial_fars, trial_cellAt, trial_ends, trial_seen, trial_begun, w_3, w_1, w_2), rfl, okS hw, by rw [ht]; exact hP, va_K.moved hW.alike hK, hD⟩, hS.F ht⟩) hS.2.2 dX6_movedBy_40
  unfold f_X6_movedBy at hw
  have hP : va_P (dC, dI) vwCl (W_X6_movedBy cyI cyJ cyO h_o h_told h_walk h_trial h_seas h_otherEnds h_p2 h_kept h_ends h_tape a_sheets a_told_settings a_told_howFar a_told_tones a_told_currents a_told_warmths a_told_depths a_told_fars a_told_pieceCells a_told_pieceMonths a_told_pieceHighs a_told_pieceAges a_told_pieceNeeds a_told_dragCells a_told_dragEighths a_walk_howFar a_walk_tones a_walk_only a_walk_fars a_walk_cellAt a_walk_ends a_walk_seen a_walk_begun a_trial_howFar a_trial_tones a_trial_only a_trial_fars a_trial_cellAt a_trial_ends a_trial_seen a_trial_begun a_seas_known a_otherEnds_sums h_p2_told h_p2_seas a_p2_sums o_hasImage o_walkIsOld o_endsAreOld told_pieceCount told_dragCount told_settings told_howFar told_tones told_currents told_warmths told_fars told_pieceCells told_pieceMonths told_pieceHighs told_pieceAges told_pieceNeeds told_dragCells told_dragEighths walk_last walk_turnsLet walk_slowsLet walk_fuel walk_glide walk_count walk_weightSum walk_toPass walk_foundNumber walk_foundWeight walk_foundTurns walk_foundSlowed walk_ends trial_last trial_turnsLet trial_slowsLet trial_fuel trial_glide trial_count trial_weightSum trial_toPass trial_foundNumber trial_foundWeight trial_foundTurns trial_foundSlowed trial_howFar trial_tones trial_only trial_fars trial_cellAt trial_ends trial_seen trial_begun seas_known otherEnds_total otherEnds_sums p2_total p2_sums) s.heap := hP
  obtain ⟨H, hH⟩ : ∃ H, H = s.heap := ⟨_, rfl⟩
  obtain ⟨locs, hlo⟩ : ∃ x : List Loc, x = [] := ⟨_, rfl⟩
  have hP : va_P (dC, dI) vwCl (W_X6_movedBy cyI cyJ cyO h_o h_told h_walk h_trial h_seas h_otherEnds h_p2 h_kept h_ends h_tape a_sheets a_told_settings a_told_howFar a_told_tones a_told_currents a_told_warmths a_told_depths a_told_fars a_told_pieceCells a_told_pieceMonths a_told_pieceHighs a_told_pieceAges a_told_pieceNeeds a_told_dragCells a_told_dragEighths a_walk_howFar a_walk_tones a_walk_only a_walk_fars a_walk_cellAt a_walk_ends a_walk_seen a_walk_begun a_trial_howFar a_trial_tones a_trial_only a_trial_fars a_trial_cellAt a_trial_ends a_trial_seen a_trial_begun a_seas_known a_otherEnds_sums h_p2_told h_p2_seas a_p2_sums o_hasImage o_walkIsOld o_endsAreOld told_pieceCount told_dragCount told_settings told_howFar told_tones told_currents told_warmths told_fars told_pieceCells told_pieceMonths told_pieceHighs told_pieceAges told_pieceNeeds told_dragCells told_dragEighths walk_last walk_turnsLet walk_slowsLet walk_fuel walk_glide walk_count walk_weightSum walk_toPass walk_foundNumber walk_foundWeight walk_foundTurns walk_foundSlowed walk_ends trial_last trial_turnsLet trial_slowsLet trial_fuel trial_glide trial_count trial_weightSum trial_toPass trial_foundNumber trial_foundWeight trial_foundTurns trial_foundSlowed trial_howFar trial_tones trial_only trial_fars trial_cellAt trial_ends trial_seen trial_begun seas_known otherEnds_total otherEnds_sums p2_total p2_sums) H := by rw [hH]; exact hP
  have hS : va_S A s.heap H locs := by rw [hH, hlo]; exact hS
  refine kH hH hlo ?_
  clear hH hlo
  refine lv_iload_n hx hb dX6_movedBy_0 rfl (lv_at hl 1 rfl) ?_
  refine lv_bipush (v := 12) hx hb dX6_movedBy_1 (by decide) ?_
  refine lv_icmp_ge (tgt := 17) hx hb dX6_movedBy_3 (by decide) (fun c_5 => ?_) (fun c_5 => ?_)
  · replace hw := okT hw c_5
    clear c_5
    exact w17 x1 trial_last trial_turnsLet trial_slowsLet trial_fuel trial_glide trial_count trial_weightSum trial_toPass trial_foundNumber trial_foundWeight trial_foundTurns trial_foundSlowed trial_howFar trial_tones trial_only trial_fars trial_cellAt trial_ends trial_seen trial_begun seas_known otherEnds_total otherEnds_sums _ _ hP hD hS _ (lv_sub hl [0, 1, 2] rfl) hw
  · replace hw := okF hw c_5
    clear c_5
    refine lv_aload_n hx hb dX6_movedBy_6 rfl (lv_at hl 0 rfl) ?_
    refine lv_iload_n hx hb dX6_movedBy_7 rfl (lv_at hl 1 rfl) ?_
    refine lv_bipush (v := 8) hx hb dX6_movedBy_8 (by decide) ?_
    refine lv_isub hx hb dX6_movedBy_10 ?_
    have hPc := hP.sub (ws' := (W_X6_isPiece cyI cyJ cyO h_o h_told h_kept h_walk h_trial h_seas h_ends h_otherEnds h_tape a_sheets a_told_settings a_told_howFar a_told_tones a_told_currents a_told_warmths a_told_depths a_told_fars a_told_pieceCells a_told_pieceMonths a_told_pieceHighs a_told_pieceAges a_told_pieceNeeds a_told_dragCells a_told_dragEighths o_hasImage o_walkIsOld o_endsAreOld told_pieceCount told_dragCount)) [0, 1] rfl
    have hDc := hD.sub (ws' := (W_X6_isPiece cyI cyJ cyO h_o h_told h_kept h_walk h_trial h_seas h_ends h_otherEnds h_tape a_sheets a_told_settings a_told_howFar a_told_tones a_told_currents a_told_warmths a_told_depths a_told_fars a_told_pieceCells a_told_pieceMonths a_told_pieceHighs a_told_pieceAges a_told_pieceNeeds a_told_dragCells a_told_dragEighths o_hasImage o_walkIsOld o_endsAreOld told_pieceCount told_dragCount)) [0, 1] (by decide +kernel) rfl
    have hFc := va_free (wc := (W_X6_isPiece cyI cyJ cyO h_o h_told h_kept h_walk h_trial h_seas h_ends h_otherEnds h_tape a_sheets a_told_settings a_told_howFar a_told_tones a_told_currents a_told_warmths a_told_depths a_told_fars a_told_pieceCells a_told_pieceMonths a_told_pieceHighs a_told_pieceAges a_told_pieceNeeds a_told_dragCells a_told_dragEighths o_hasImage o_walkIsOld o_endsAreOld told_pieceCount told_dragCount)) hD hS hA [0, 1] rfl
    refine kc_i (wr := [(a_told_settings, .inl (cyI, 8, .inl told_settings)), (a_told_howFar, .inl (cyI, 7, .inl told_howFar)), (a_told_tones, .inl (cyI, 7, .inl told_tones)), (a_told_currents, .inl (cyI, 200, .inl told_currents)), (a_told_warmths, .inl (cyI, 200, .inl told_warmths)), (a_told_fars, .inl (cyI, 100, .inl told_fars)), (a_told_pieceCells, .inl (cyI, 4, .inl told_pieceCells)), (a_told_pieceMonths, .inl (cyI, 4, .inl told_pieceMonths)), (a_told_pieceHighs, .inl (cyI, 4, .inl told_pieceHighs)), (a_told_pieceAges, .inl (cyI, 4, .inl told_pieceAges)), (a_told_pieceNeeds, .inl (cyI, 4, .inl told_pieceNeeds)), (a_told_dragCells, .inl (cyI, 4, .inl told_dragCells)), (a_told_dragEighths, .inl (cyI, 4, .inl told_dragEighths)), (h_walk, .inr (5, [.ref a_walk_howFar, .ref a_walk_tones, .ref a_walk_only, .ref a_walk_fars, .int walk_last, .int walk_turnsLet, .int walk_slowsLet, .int walk_fuel, .int walk_glide, .ref a_walk_cellAt, .ref a_walk_ends, .ref a_walk_seen, .ref a_walk_begun, .int walk_count, .long walk_weightSum, .int walk_toPass, .int walk_foundNumber, .int walk_foundWeight, .int walk_foundTurns, .int walk_foundSlowed])), (a_walk_ends, .inl (cyJ, 100, .inr (.inl walk_ends))), (h_trial, .inr (5, [.ref a_trial_howFar, .ref a_trial_tones, .ref a_trial_only, .ref a_trial_fars, .int trial_last, .int trial_turnsLet, .int trial_slowsLet, .int trial_fuel, .int trial_glide, .ref a_trial_cellAt, .ref a_trial_ends, .ref a_trial_seen, .ref a_trial_begun, .int trial_count, .long trial_weightSum, .int trial_toPass, .int trial_foundNumber, .int trial_foundWeight, .int trial_foundTurns, .int trial_foundSlowed])), (a_trial_howFar, .inl (cyI, 7, .inl trial_howFar)), (a_trial_tones, .inl (cyI, 7, .inl trial_tones)), (a_trial_only, .inl (cyI, 7, .inl trial_only)), (a_trial_fars, .inl (cyI, 100, .inl trial_fars)), (a_trial_cellAt, .inl (cyI, 7, .inl trial_cellAt)), (a_trial_ends, .inl (cyJ, 100, .inr (.inl trial_ends))), (a_trial_seen, .inl (cyI, 70, .inl trial_seen)), (a_trial_begun, .inl (cyI, 24, .inl trial_begun)), (h_seas, .inr (1, [.ref h_told, .ref a_seas_known])), (a_seas_known, .inl (cyI, 400, .inl seas_known)), (h_otherEnds, .inr (0, [.ref h_told, .ref h_seas, .ref a_otherEnds_sums, .long otherEnds_total])), (a_otherEnds_sums, .inl (cyJ, 100, .inr (.inl otherEnds_sums))), (h_p2, .inr (0, [.ref h_p2_told, .ref h_p2_seas, .ref a_p2_sums, .long p2_total])), (a_p2_sums, .inl (cyJ, 100, .inr (.inl p2_sums)))]) (va_runV (As := [.int (x1 - 8)]) (rest := []) ⟨hx, hb, hml, hown, hts⟩ (c_X6_isPiece l dC dI cyI cyJ cyO H.size h_o h_told h_kept h_walk h_trial h_seas h_ends h_otherEnds h_tape a_sheets a_told_settings a_told_howFar a_told_tones a_told_currents a_told_warmths a_told_depths a_told_fars a_told_pieceCells a_told_pieceMonths a_told_pieceHighs a_told_pieceAges a_told_pieceNeeds a_told_dragCells a_told_dragEighths o_hasImage o_walkIsOld o_endsAreOld told_pieceCount told_dragCount (x1 - 8) _ (okb1 hw)) (cwV 1 hts (gdV (fun w h => List.mem_cons_of_mem _ h) q_508 q_510 qs_18 q_1 q_511) rfl rfl rfl (by decide +kernel) ⟨Nat.le_of_ble_eq_true rfl, Nat.le_of_ble_eq_true rfl⟩) ⟨(kpre zN_ok hK hPc hDc trivial hS hFc).1, va_recv hK hP (ci := 6) (q0 := 0) rfl rfl, (kpre zN_ok hK hPc hDc trivial hS hFc).2⟩ rfl rfl hl.1 rfl (lv_room (Nat.le_of_ble_eq_true rfl)) dX6_movedBy_11 ⟨Nat.le_of_ble_eq_true rfl, Nat.le_of_ble_eq_true rfl⟩) hP hD hS hFc [0, 1] [2, 3, 4, 5, 6, 7, 8, 9, 10, 11, 12, 13, 14, 15, 16, 17, 18, 19, 20, 21, 22, 23, 24, 25, 26, 27, 28, 29, 30, 31] rfl rfl (by decide +kernel) (by decide +kernel) (fun r_6 u H locs hw hP hD hS => ?_)
    try dsimp only at hw
    have hP : va_P (dC, dI) vwCl (W_X6_movedBy cyI cyJ cyO h_o h_told h_walk h_trial h_seas h_otherEnds h_p2 h_kept h_ends h_tape a_sheets a_told_settings a_told_howFar a_told_tones a_told_currents a_told_warmths a_told_depths a_told_fars a_told_pieceCells a_told_pieceMonths a_told_pieceHighs a_told_pieceAges a_told_pieceNeeds a_told_dragCells a_told_dragEighths a_walk_howFar a_walk_tones a_walk_only a_walk_fars a_walk_cellAt a_walk_ends a_walk_seen a_walk_begun a_trial_howFar a_trial_tones a_trial_only a_trial_fars a_trial_cellAt a_trial_ends a_trial_seen a_trial_begun a_seas_known a_otherEnds_sums h_p2_told h_p2_seas a_p2_sums o_hasImage o_walkIsOld o_endsAreOld told_pieceCount told_dragCount told_settings told_howFar told_tones told_currents told_warmths told_fars told_pieceCells told_pieceMonths told_pieceHighs told_pieceAges told_pieceNeeds told_dragCells told_dragEighths walk_last walk_turnsLet walk_slowsLet walk_fuel walk_glide walk_count walk_weightSum walk_toPass walk_foundNumber walk_foundWeight walk_foundTurns walk_foundSlowed walk_ends trial_last trial_turnsLet trial_slowsLet trial_fuel trial_glide trial_count trial_weightSum trial_toPass trial_foundNumber trial_foundWeight trial_foundTurns trial_foundSlowed trial_howFar trial_tones trial_only trial_fars trial_cellAt trial_ends trial_seen trial_begun seas_known otherEnds_total otherEnds_sums p2_total p2_sums) H := hP.sub [30, 31, 0, 1, 2, 3, 4, 5, 6, 7, 8, 9, 10, 11, 12, 13, 14, 15, 16, 17, 18, 19, 20, 21, 22, 23, 24, 25, 26, 27, 28, 29] rfl
    have hD : va_D A (W_X6_movedBy cyI cyJ cyO h_o h_told h_walk h_trial h_seas h_otherEnds h_p2 h_kept h_ends h_tape a_sheets a_told_settings a_told_howFar a_told_tones a_told_currents a_told_warmths a_told_depths a_told_fars a_told_pieceCells a_told_pieceMonths a_told_pieceHighs a_told_pieceAges a_told_pieceNeeds a_told_dragCells a_told_dragEighths a_walk_howFar a_walk_tones a_walk_only a_walk_fars a_walk_cellAt a_walk_ends a_walk_seen a_walk_begun a_trial_howFar a_trial_tones a_trial_only a_trial_fars a_trial_cellAt a_trial_ends a_trial_seen a_trial_begun a_seas_known a_otherEnds_sums h_p2_told h_p2_seas a_p2_sums o_hasImage o_walkIsOld o_endsAreOld told_pieceCount told_dragCount told_settings told_howFar told_tones told_currents told_warmths told_fars told_pieceCells told_pieceMonths told_pieceHighs told_pieceAges told_pieceNeeds told_dragCells told_dragEighths walk_last walk_turnsLet walk_slowsLet walk_fuel walk_glide walk_count walk_weightSum walk_toPass walk_foundNumber walk_foundWeight walk_foundTurns walk_foundSlowed walk_ends trial_last trial_turnsLet trial_slowsLet trial_fuel trial_glide trial_count trial_weightSum trial_toPass trial_foundNumber trial_foundWeight trial_foundTurns trial_foundSlowed trial_howFar trial_tones trial_only trial_fars trial_cellAt trial_ends trial_seen trial_begun seas_known otherEnds_total otherEnds_sums p2_total p2_sums) := hD.sub [30, 31, 0, 1, 2, 3, 4, 5, 6, 7, 8, 9, 10, 11, 12, 13, 14, 15, 16, 17, 18, 19, 20, 21, 22, 23, 24, 25, 26, 27, 28, 29] (by decide +kernel) rfl
    clear hPc hDc hFc
    refine lv_if_eq (tgt := 41) hx hb dX6_movedBy_14 (by decide) (fun c_7 => ?_) (fun c_7 => ?_)
    · replace hw := okT hw c_7
      clear c_7
      refine lv_iload_n hx hb dX6_movedBy_41 rfl (lv_at hl 1 rfl) ?_
      refine lv_bipush (v := 8) hx hb dX6_movedBy_42 (by decide) ?_
      refine lv_icmp_lt (tgt := 49) hx hb dX6_movedBy_44 (by decide) (fun c_8 => ?_) (fun c_8 => ?_)
      · replace hw := okT hw c_8
        clear c_8
        refine lv_aload_n hx hb dX6_movedBy_49 rfl (lv_at hl 0 rfl) ?_
        refine va_get (D := (dC, dI)) (ci := 6) (v := .ref h_trial) (C := RX6) (T := TX6) (N := 12) hx hb hts hi6 hown hK hP 0 rfl rfl 3 (by decide) hq5 (fun _ h9 => h9) rfl dX6_movedBy_50 ?_
        refine lv_aload_n hx hb dX6_movedBy_53 rfl (lv_at hl 0 rfl) ?_
        refine va_get (D := (dC, dI)) (ci := 6) (v := .ref h_told) (C := RX6) (T := TX6) (N := 12) hx hb hts hi6 hown hK hP 0 rfl rfl 0 (by decide) hq6 (fun _ h9 => h9) rfl dX6_movedBy_54 ?_
        have hPc := hP.sub (ws' := (W_X5_begin cyI cyJ cyO h_trial h_told a_trial_howFar a_trial_tones a_trial_only a_trial_fars a_trial_cellAt a_trial_ends a_trial_seen a_trial_begun a_told_settings a_told_howFar a_told_tones a_told_currents a_told_warmths a_told_depths a_told_fars a_told_pieceCells a_told_pieceMonths a_told_pieceHighs a_told_pieceAges a_told_pieceNeeds a_told_dragCells a_told_dragEighths trial_last trial_turnsLet trial_slowsLet trial_fuel trial_glide trial_count trial_weightSum trial_toPass trial_foundNumber trial_foundWeight trial_foundTurns trial_foundSlowed trial_howFar trial_tones trial_only trial_fars trial_cellAt told_pieceCount told_dragCount told_settings told_howFar told_tones told_fars)) [17, 18, 19, 20, 21, 22, 1, 2, 3, 4, 7] rfl
        have hDc := hD.sub (ws' := (W_X5_begin cyI cyJ cyO h_trial h_told a_trial_howFar a_trial_tones a_trial_only a_trial_fars a_trial_cellAt a_trial_ends a_trial_seen a_trial_begun a_told_settings a_told_howFar a_told_tones a_told_currents a_told_warmths a_told_depths a_told_fars a_told_pieceCells a_told_pieceMonths a_told_pieceHighs a_told_pieceAges a_told_pieceNeeds a_told_dragCells a_told_dragEighths trial_last trial_turnsLet trial_slowsLet trial_fuel trial_glide trial_count trial_weightSum trial_toPass trial_foundNumber trial_foundWeight trial_foundTurns trial_foundSlowed trial_howFar trial_tones trial_only trial_fars trial_cellAt told_pieceCount told_dragCount told_settings told_howFar told_tones told_fars)) [17, 18, 19, 20, 21, 22, 1, 2, 3, 4, 7] (by decide +kernel) rfl
        have hFc := va_free (wc := (W_X5_begin cyI cyJ cyO h_trial h_told a_trial_howFar a_trial_tones a_trial_only a_trial_fars a_trial_cellAt a_trial_ends a_trial_seen a_trial_begun a_told_settings a_told_howFar a_told_tones a_told_currents a_told_warmths a_told_depths a_told_fars a_told_pieceCells a_told_pieceMonths a_told_pieceHighs a_told_pieceAges a_told_pieceNeeds a_told_dragCells a_told_dragEighths trial_last trial_turnsLet trial_slowsLet trial_fuel trial_glide trial_count trial_weightSum trial_toPass trial_foundNumber trial_foundWeight trial_foundTurns trial_foundSlowed trial_howFar trial_tones trial_only trial_fars trial_cellAt told_pieceCount told_dragCount told_settings told_howFar told_tones told_fars)) hD hS hA [17, 18, 19, 20, 21, 22, 1, 2, 3, 4, 7] rfl
        refine kc_v (wr := [(h_o, .inr (6, [.ref h_told, .ref h_kept, .ref h_walk, .ref h_trial, .ref h_seas, .ref h_ends, .ref h_otherEnds, .ref h_tape, .ref a_sheets, .int o_hasImage, .int o_walkIsOld, .int o_endsAreOld])), (a_told_currents, .inl (cyI, 200, .inl told_currents)), (a_told_warmths, .inl (cyI, 200, .inl told_warmths)), (a_told_pieceCells, .inl (cyI, 4, .inl told_pieceCells)), (a_told_pieceMonths, .inl (cyI, 4, .inl told_pieceMonths)), (a_told_pieceHighs, .inl (cyI, 4, .inl told_pieceHighs)), (a_told_pieceAges, .inl (cyI, 4, .inl told_pieceAges)), (a_told_pieceNeeds, .inl (cyI, 4, .inl told_pieceNeeds)), (a_told_dragCells, .inl (cyI, 4, .inl told_dragCells)), (a_told_dragEighths, .inl (cyI, 4, .inl told_dragEighths)), (h_walk, .inr (5, [.ref a_walk_howFar, .ref a_walk_tones, .ref a_walk_only, .ref a_walk_fars, .int walk_last, .int walk_turnsLet, .int walk_slowsLet, .int walk_fuel, .int walk_glide, .ref a_walk_cellAt, .ref a_walk_ends, .ref a_walk_seen, .ref a_walk_begun, .int walk_count, .long walk_weightSum, .int walk_toPass, .int walk_foundNumber, .int walk_foundWeight, .int walk_foundTurns, .int walk_foundSlowed])), (a_walk_ends, .inl (cyJ, 100, .inr (.inl walk_ends))), (a_trial_ends, .inl (cyJ, 100, .inr (.inl trial_ends))), (a_trial_seen, .inl (cyI, 70, .inl trial_seen)), (a_trial_begun, .inl (cyI, 24, .inl trial_begun)), (h_seas, .inr (1, [.ref h_told, .ref a_seas_known])), (a_seas_known, .inl (cyI, 400, .inl seas_known)), (h_otherEnds, .inr (0, [.ref h_told, .ref h_seas, .ref a_otherEnds_sums, .long otherEnds_total])), (a_otherEnds_sums, .inl (cyJ, 100, .inr (.inl otherEnds_sums))), (h_p2, .inr (0, [.ref h_p2_told, .ref h_p2_seas, .ref a_p2_sums, .long p2_total])), (a_p2_sums, .inl (cyJ, 100, .inr (.inl p2_sums)))]) (va_runV (As := [.ref h_told]) (rest := []) ⟨hx, hb, hml, hown, hts⟩ (c_X5_begin l dC dI cyI cyJ cyO H.size h_trial h_told a_trial_howFar a_trial_tones a_trial_only a_trial_fars a_trial_cellAt a_trial_ends a_trial_seen a_trial_begun a_told_settings a_told_howFar a_told_tones a_told_currents a_told_warmths a_told_depths a_told_fars a_told_pieceCells a_told_pieceMonths a_told_pieceHighs a_told_pieceAges a_told_pieceNeeds a_told_dragCells a_told_dragEighths trial_last trial_turnsLet trial_slowsLet trial_fuel trial_glide trial_count trial_weightSum trial_toPass trial_foundNumber trial_foundWeight trial_foundTurns trial_foundSlowed trial_howFar trial_tones trial_only trial_fars trial_cellAt told_pieceCount told_dragCount told_settings told_howFar told_tones told_fars _ (okb10 hw)) (cwV 1 hts (gdV (fun w h => List.mem_cons_of_mem _ h) q_401 q_402 q_403 q_3 q_404) rfl rfl rfl (by decide +kernel) ⟨Nat.le_of_ble_eq_true rfl, Nat.le_of_ble_eq_true rfl⟩) ⟨(kpre zN_ok hK hPc hDc trivial hS hFc).1, va_recv hK hP (ci := 5) (q0 := 17) rfl rfl, (kpre zN_ok hK hPc hDc trivial hS hFc).2⟩ rfl rfl hl.1 rfl (lv_room (Nat.le_of_ble_eq_true rfl)) dX6_movedBy_57 ⟨Nat.le_of_ble_eq_true rfl, Nat.le_of_ble_eq_true rfl⟩) hP hD hS hFc [17, 18, 19, 20, 21, 22, 1, 2, 3, 4, 7] [0, 5, 6, 8, 9, 10, 11, 12, 13, 14, 15, 16, 23, 24, 25, 26, 27, 28, 29, 30, 31] rfl rfl (by decide +kernel) (by decide +kernel) (fun u H locs hw hP hD hS => ?_)
        obtain ⟨w_9, w_10, w_11, w_12, w_13, w_14, w_15, w_16, w_17, w_18⟩ := u
        try dsimp only at hw
        have hP : va_P (dC, dI) vwCl (W_X6_movedBy cyI cyJ cyO h_o h_told h_walk h_trial h_seas h_otherEnds h_p2 h_kept h_ends h_tape a_sheets a_told_settings a_told_howFar a_told_tones a_told_currents a_told_warmths a_told_depths a_told_fars a_told_pieceCells a_told_pieceMonths a_told_pieceHighs a_told_pieceAges a_told_pieceNeeds a_told_dragCells a_told_dragEighths a_walk_howFar a_walk_tones a_walk_only a_walk_fars a_walk_cellAt a_walk_ends a_walk_seen a_walk_begun a_trial_howFar a_trial_tones a_trial_only a_trial_fars a_trial_cellAt a_trial_ends a_trial_seen a_trial_begun a_seas_known a_otherEnds_sums h_p2_told h_p2_seas a_p2_sums o_hasImage o_walkIsOld o_endsAreOld told_pieceCount told_dragCount told_settings told_howFar told_tones told_currents told_warmths told_fars told_pieceCells told_pieceMonths told_pieceHighs told_pieceAges told_pieceNeeds told_dragCells told_dragEighths walk_last walk_turnsLet walk_slowsLet walk_fuel walk_glide walk_count walk_weightSum walk_toPass walk_foundNumber walk_foundWeight walk_foundTurns walk_foundSlowed walk_ends w_9 w_10 w_11 w_12 w_13 trial_count trial_weightSum trial_toPass trial_foundNumber trial_foundWeight trial_foundTurns trial_foundSlowed w_14 w_15 w_16 w_17 w_18 trial_ends trial_seen trial_begun seas_known otherEnds_total otherEnds_sums p2_total p2_sums) H := hP.sub [0, 27, 28, 29, 30, 1, 2, 31, 3, 4, 5, 6, 7, 8, 9, 10, 11, 21, 22, 23, 24, 25, 26, 12, 13, 14, 15, 16, 17, 18, 19, 20] rfl
        have hD : va_D A (W_X6_movedBy cyI cyJ cyO h_o h_told h_walk h_trial h_seas h_otherEnds h_p2 h_kept h_ends h_tape a_sheets a_told_settings a_told_howFar a_told_tones a_told_currents a_told_warmths a_told_depths a_told_fars a_told_pieceCells a_told_pieceMonths a_told_pieceHighs a_told_pieceAges a_told_pieceNeeds a_told_dragCells a_told_dragEighths a_walk_howFar a_walk_tones a_walk_only a_walk_fars a_walk_cellAt a_walk_ends a_walk_seen a_walk_begun a_trial_howFar a_trial_tones a_trial_only a_trial_fars a_trial_cellAt a_trial_ends a_trial_seen a_trial_begun a_seas_known a_otherEnds_sums h_p2_told h_p2_seas a_p2_sums o_hasImage o_walkIsOld o_endsAreOld told_pieceCount told_dragCount told_settings told_howFar told_tones told_currents told_warmths told_fars told_pieceCells told_pieceMonths told_pieceHighs told_pieceAges told_pieceNeeds told_dragCells told_dragEighths walk_last walk_turnsLet walk_slowsLet walk_fuel walk_glide walk_count walk_weightSum walk_toPass walk_foundNumber walk_foundWeight walk_foundTurns walk_foundSlowed walk_ends w_9 w_10 w_11 w_12 w_13 trial_count trial_weightSum trial_toPass trial_foundNumber trial_foundWeight trial_foundTurns trial_foundSlowed w_14 w_15 w_16 w_17 w_18 trial_ends trial_seen trial_begun seas_known otherEnds_total otherEnds_sums p2_total p2_sums) := hD.sub [0, 27, 28, 29, 30, 1, 2, 31, 3, 4, 5, 6, 7, 8, 9, 10, 11, 21, 22, 23, 24, 25, 26, 12, 13, 14, 15, 16, 17, 18, 19, 20] (by decide +kernel) rfl
        clear hPc hDc hFc
        refine lv_aload_n hx hb dX6_movedBy_60 rfl (lv_at hl 0 rfl) ?_
        refine va_get (D := (dC, dI)) (ci := 6) (v := .ref h_trial) (C := RX6) (T := TX6) (N := 12) hx hb hts hi6 hown hK hP 0 rfl rfl 3 (by decide) hq5 (fun _ h9 => h9) rfl dX6_movedBy_61 ?_
        refine lv_iload_n hx hb dX6_movedBy_64 rfl (lv_at hl 1 rfl) ?_
        have hPc := hP.sub (ws' := (W_X5_leaveOut cyI cyJ cyO h_trial a_trial_howFar a_trial_tones a_trial_only a_trial_fars a_trial_cellAt a_trial_ends a_trial_seen a_trial_begun w_9 w_10 w_11 w_12 w_13 trial_count trial_weightSum trial_toPass trial_foundNumber trial_foundWeight trial_foundTurns trial_foundSlowed w_14 w_15)) [17, 18, 19] rfl
        have hDc := hD.sub (ws' := (W_X5_leaveOut cyI cyJ cyO h_trial a_trial_howFar a_trial_tones a_trial_only a_trial_fars a_trial_cellAt a_trial_ends a_trial_seen a_trial_begun w_9 w_10 w_11 w_12 w_13 trial_count trial_weightSum trial_toPass trial_foundNumber trial_foundWeight trial_foundTurns trial_foundSlowed w_14 w_15)) [17, 18, 19] (by decide +kernel) rfl
        have hFc := va_free (wc := (W_X5_leaveOut cyI cyJ cyO h_trial a_trial_howFar a_trial_tones a_trial_only a_trial_fars a_trial_cellAt a_trial_ends a_trial_seen a_trial_begun w_9 w_10 w_11 w_12 w_13 trial_count trial_weightSum trial_toPass trial_foundNumber trial_foundWeight trial_foundTurns trial_foundSlowed w_14 w_15)) hD hS hA [17, 18, 19] rfl
        refine kc_i (wr := [(h_o, .inr (6, [.ref h_told, .ref h_kept, .ref h_walk, .ref h_trial, .ref h_seas, .ref h_ends, .ref h_otherEnds, .ref h_tape, .ref a_sheets, .int o_hasImage, .int o_walkIsOld, .int o_endsAreOld])), (h_told, .inr (4, [.ref a_told_settings, .ref a_told_howFar, .ref a_told_tones, .ref a_told_currents, .ref a_told_warmths, .ref a_told_depths, .ref a_told_fars, .ref a_told_pieceCells, .ref a_told_pieceMonths, .ref a_told_pieceHighs, .ref a_told_pieceAges, .ref a_told_pieceNeeds, .ref a_told_dragCells, .ref a_told_dragEighths, .int told_pieceCount, .int told_dragCount])), (a_told_settings, .inl (cyI, 8, .inl told_settings)), (a_told_howFar, .inl (cyI, 7, .inl told_howFar)), (a_told_tones, .inl (cyI, 7, .inl told_tones)), (a_told_currents, .inl (cyI, 200, .inl told_currents)), (a_told_warmths, .inl (cyI, 200, .inl told_warmths)), (a_told_fars, .inl (cyI, 100, .inl told_fars)), (a_told_pieceCells, .inl (cyI, 4, .inl told_pieceCells)), (a_told_pieceMonths, .inl (cyI, 4, .inl told_pieceMonths)), (a_told_pieceHighs, .inl (cyI, 4, .inl told_pieceHighs)), (a_told_pieceAges, .inl (cyI, 4, .inl told_pieceAges)), (a_told_pieceNeeds, .inl (cyI, 4, .inl told_pieceNeeds)), (a_told_dragCells, .inl (cyI, 4, .inl told_dragCells)), (a_told_dragEighths, .inl (cyI, 4, .inl told_dragEighths)), (h_walk, .inr (5, [.ref a_walk_howFar, .ref a_walk_tones, .ref a_walk_only, .ref a_walk_fars, .int walk_last, .int walk_turnsLet, .int walk_slowsLet, .int walk_fuel, .int walk_glide, .ref a_walk_cellAt, .ref a_walk_ends, .ref a_walk_seen, .ref a_walk_begun, .int walk_count, .long walk_weightSum, .int walk_toPass, .int walk_foundNumber, .int walk_foundWeight, .int walk_foundTurns, .int walk_foundSlowed])), (a_walk_ends, .inl (cyJ, 100, .inr (.inl walk_ends))), (a_trial_only, .inl (cyI, 7, .inl w_16)), (a_trial_fars, .inl (cyI, 100, .inl w_17)), (a_trial_cellAt, .inl (cyI, 7, .inl w_18)), (a_trial_ends, .inl (cyJ, 100, .inr (.inl trial_ends))), (a_trial_seen, .inl (cyI, 70, .inl trial_seen)), (a_trial_begun, .inl (cyI, 24, .inl trial_begun)), (h_seas, .inr (1, [.ref h_told, .ref a_seas_known])), (a_seas_known, .inl (cyI, 400, .inl seas_known)), (h_otherEnds, .inr (0, [.ref h_told, .ref h_seas, .ref a_otherEnds_sums, .long otherEnds_total])), (a_otherEnds_sums, .inl (cyJ, 100, .inr (.inl otherEnds_sums))), (h_p2, .inr (0, [.ref h_p2_told, .ref h_p2_seas, .ref a_p2_sums, .long p2_total])), (a_p2_sums, .inl (cyJ, 100, .inr (.inl p2_sums)))]) (va_runV (As := [.int x1]) (rest := []) ⟨hx, hb, hml, hown, hts⟩ (c_X5_leaveOut l dC dI cyI cyJ cyO H.size h_trial a_trial_howFar a_trial_tones a_trial_only a_trial_fars a_trial_cellAt a_trial_ends a_trial_seen a_trial_begun w_9 w_10 w_11 w_12 w_13 trial_count trial_weightSum trial_toPass trial_foundNumber trial_foundWeight trial_foundTurns trial_foundSlowed w_14 w_15 x1 _ (okb4 hw)) (cwV 1 hts (gdV (fun w h => List.mem_cons_of_mem _ h) q_593 q_594 q_595 q_3 q_596) rfl rfl rfl (by decide +kernel) ⟨Nat.le_of_ble_eq_true rfl, Nat.le_of_ble_eq_true rfl⟩) ⟨(kpre zN_ok hK hPc hDc trivial hS hFc).1, va_recv hK hP (ci := 5) (q0 := 17) rfl rfl, (kpre zN_ok hK hPc hDc trivial hS hFc).2⟩ rfl rfl hl.1 rfl (lv_room (Nat.le_of_ble_eq_true rfl)) dX6_movedBy_65 ⟨Nat.le_of_ble_eq_true rfl, Nat.le_of_ble_eq_true rfl⟩) hP hD hS hFc [17, 18, 19] [0, 1, 2, 3, 4, 5, 6, 7, 8, 9, 10, 11, 12, 13, 14, 15, 16, 20, 21, 22, 23, 24, 25, 26, 27, 28, 29, 30, 31] rfl rfl (by decide +kernel) (by decide +kernel) (fun r_19 u H locs hw hP hD hS => ?_)
        obtain ⟨w_20, w_21, w_22⟩ := u
        try dsimp only at hw
        have hP : va_P (dC, dI) vwCl (W_X6_movedBy cyI cyJ cyO h_o h_told h_walk h_trial h_seas h_otherEnds h_p2 h_kept h_ends h_tape a_sheets a_told_settings a_told_howFar a_told_tones a_told_currents a_told_warmths a_told_depths a_told_fars a_told_pieceCells a_told_pieceMonths a_told_pieceHighs a_told_pieceAges a_told_pieceNeeds a_told_dragCells a_told_dragEighths a_walk_howFar a_walk_tones a_walk_only a_walk_fars a_walk_cellAt a_walk_ends a_walk_seen a_walk_begun a_trial_howFar a_trial_tones a_trial_only a_trial_fars a_trial_cellAt a_trial_ends a_trial_seen a_trial_begun a_seas_known a_otherEnds_sums h_p2_told h_p2_seas a_p2_sums o_hasImage o_walkIsOld o_endsAreOld told_pieceCount told_dragCount told_settings told_howFar told_tones told_currents told_warmths told_fars told_pieceCells told_pieceMonths told_pieceHighs told_pieceAges told_pieceNeeds told_dragCells told_dragEighths walk_last walk_turnsLet walk_slowsLet walk_fuel walk_glide walk_count walk_weightSum walk_toPass walk_foundNumber walk_foundWeight walk_foundTurns walk_foundSlowed walk_ends w_9 w_10 w_11 w_20 w_13 trial_count trial_weightSum trial_toPass trial_foundNumber trial_foundWeight trial_foundTurns trial_foundSlowed w_21 w_22 w_16 w_17 w_18 trial_ends trial_seen trial_begun seas_known otherEnds_total otherEnds_sums p2_total p2_sums) H := hP.sub [0, 1, 2, 3, 4, 5, 6, 7, 8, 9, 10, 11, 12, 13, 14, 15, 16, 29, 30, 31, 17, 18, 19, 20, 21, 22, 23, 24, 25, 26, 27, 28] rfl
        have hD : va_D A (W_X6_movedBy cyI cyJ cyO h_o h_told h_walk h_trial h_seas h_otherEnds h_p2 h_kept h_ends h_tape a_sheets a_told_settings a_told_howFar a_told_tones a_told_currents a_told_warmths a_told_depths a_told_fars a_told_pieceCells a_told_pieceMonths a_told_pieceHighs a_told_pieceAges a_told_pieceNeeds a_told_dragCells a_told_dragEighths a_walk_howFar a_walk_tones a_walk_only a_walk_fars a_walk_cellAt a_walk_ends a_walk_seen a_walk_begun a_trial_howFar a_trial_tones a_trial_only a_trial_fars a_trial_cellAt a_trial_ends a_trial_seen a_trial_begun a_seas_known a_otherEnds_sums h_p2_told h_p2_seas a_p2_sums o_hasImage o_walkIsOld o_endsAreOld told_pieceCount told_dragCount told_settings told_howFar told_tones told_currents told_warmths told_fars told_pieceCells told_pieceMonths told_pieceHighs told_pieceAges told_pieceNeeds told_dragCells told_dragEighths walk_last walk_turnsLet walk_slowsLet walk_fuel walk_glide walk_count walk_weightSum walk_toPass walk_foundNumber walk_foundWeight walk_foundTurns walk_foundSlowed walk_ends w_9 w_10 w_11 w_20 w_13 trial_count trial_weightSum trial_toPass trial_foundNumber trial_foundWeight trial_foundTurns trial_foundSlowed w_21 w_22 w_16 w_17 w_18 trial_ends trial_seen trial_begun seas_known otherEnds_total otherEnds_sums p2_total p2_sums) := hD.sub [0, 1, 2, 3, 4, 5, 6, 7, 8, 9, 10, 11, 12, 13, 14, 15, 16, 29, 30, 31, 17, 18, 19, 20, 21, 22, 23, 24, 25, 26, 27, 28] (by decide +kernel) rfl
        clear hPc hDc hFc
        refine lv_if_ne (tgt := 73) hx hb dX6_movedBy_68 (by decide) (fun c_23 => ?_) (fun c_23 => ?_)
        · replace hw := okF hw c_23
          clear c_23
          refine lv_aload_n hx hb dX6_movedBy_73 rfl (lv_at hl 0 rfl) ?_
          refine va_get (D := (dC, dI)) (ci := 6) (v := .ref h_trial) (C := RX6) (T := TX6) (N := 12) hx hb hts hi6 hown hK hP 0 rfl rfl 3 (by decide) hq5 (fun _ h9 => h9) rfl dX6_movedBy_74 ?_
          have hPc := hP.sub (ws' := (W_X5_goAll cyI cyJ cyO h_trial a_trial_howFar a_trial_tones a_trial_only a_trial_fars a_trial_cellAt a_trial_ends a_trial_seen a_trial_begun w_9 w_10 w_11 w_20 w_13 trial_count trial_weightSum trial_toPass trial_foundNumber trial_foundWeight trial_foundTurns trial_foundSlowed w_21 w_22 w_16 w_17 w_18 trial_ends trial_seen trial_begun)) [17, 18, 19, 20, 21, 22, 23, 24, 25] rfl
          have hDc := hD.sub (ws' := (W_X5_goAll cyI cyJ cyO h_trial a_trial_howFar a_trial_tones a_trial_only a_trial_fars a_trial_cellAt a_trial_ends a_trial_seen a_trial_begun w_9 w_10 w_11 w_20 w_13 trial_count trial_weightSum trial_toPass trial_foundNumber trial_foundWeight trial_foundTurns trial_foundSlowed w_21 w_22 w_16 w_17 w_18 trial_ends trial_seen trial_begun)) [17, 18, 19, 20, 21, 22, 23, 24, 25] (by decide +kernel) rfl
          have hFc := va_free (wc := (W_X5_goAll cyI cyJ cyO h_trial a_trial_howFar a_trial_tones a_trial_only a_trial_fars a_trial_cellAt a_trial_ends a_trial_seen a_trial_begun w_9 w_10 w_11 w_20 w_13 trial_count trial_weightSum trial_toPass trial_foundNumber trial_foundWeight trial_foundTurns trial_foundSlowed w_21 w_22 w_16 w_17 w_18 trial_ends trial_seen trial_begun)) hD hS hA [17, 18, 19, 20, 21, 22, 23, 24, 25] rfl
          refine kc_v (wr := [(h_o, .inr (6, [.ref h_told, .ref h_kept, .ref h_walk, .ref h_trial, .ref h_seas, .ref h_ends, .ref h_otherEnds, .ref h_tape, .ref a_sheets, .int o_hasImage, .int o_walkIsOld, .int o_endsAreOld])), (h_told, .inr (4, [.ref a_told_settings, .ref a_told_howFar, .ref a_told_tones, .ref a_told_currents, .ref a_told_warmths, .ref a_told_depths, .ref a_told_fars, .ref a_told_pieceCells, .ref a_told_pieceMonths, .ref a_told_pieceHighs, .ref a_told_pieceAges, .ref a_told_pieceNeeds, .ref a_told_dragCells, .ref a_told_dragEighths, .int told_pieceCount, .int told_dragCount])), (a_told_settings, .inl (cyI, 8, .inl told_settings)), (a_told_howFar, .inl (cyI, 7, .inl told_howFar)), (a_told_tones, .inl (cyI, 7, .inl told_tones)), (a_told_currents, .inl (cyI, 200, .inl told_currents)), (a_told_warmths, .inl (cyI, 200, .inl told_warmths)), (a_told_fars, .inl (cyI, 100, .inl told_fars)), (a_told_pieceCells, .inl (cyI, 4, .inl told_pieceCells)), (a_told_pieceMonths, .inl (cyI, 4, .inl told_pieceMonths)), (a_told_pieceHighs, .inl (cyI, 4, .inl told_pieceHighs)), (a_told_pieceAges, .inl (cyI, 4, .inl told_pieceAges)), (a_told_pieceNeeds, .inl (cyI, 4, .inl told_pieceNeeds)), (a_told_dragCells, .inl (cyI, 4, .inl told_dragCells)), (a_told_dragEighths, .inl (cyI, 4, .inl told_dragEighths)), (h_walk, .inr (5, [.ref a_walk_howFar, .ref a_walk_tones, .ref a_walk_only, .ref a_walk_fars, .int walk_last, .int walk_turnsLet, .int walk_slowsLet, .int walk_fuel, .int walk_glide, .ref a_walk_cellAt, .ref a_walk_ends, .ref a_walk_seen, .ref a_walk_begun, .int walk_count, .long walk_weightSum, .int walk_toPass, .int walk_foundNumber, .int walk_foundWeight, .int walk_foundTurns, .int walk_foundSlowed])), (a_walk_ends, .inl (cyJ, 100, .inr (.inl walk_ends))), (h_seas, .inr (1, [.ref h_told, .ref a_seas_known])), (a_seas_known, .inl (cyI, 400, .inl seas_known)), (h_otherEnds, .inr (0, [.ref h_told, .ref h_seas, .ref a_otherEnds_sums, .long otherEnds_total])), (a_otherEnds_sums, .inl (cyJ, 100, .inr (.inl otherEnds_sums))), (h_p2, .inr (0, [.ref h_p2_told, .ref h_p2_seas, .ref a_p2_sums, .long p2_total])), (a_p2_sums, .inl (cyJ, 100, .inr (.inl p2_sums)))]) (va_runV (As := []) (rest := []) ⟨hx, hb, hml, hown, hts⟩ (c_X5_goAll l dC dI cyI cyJ cyO H.size tD tR tL tM h_trial a_trial_howFar a_trial_tones a_trial_only a_trial_fars a_trial_cellAt a_trial_ends a_trial_seen a_trial_begun w_9 w_10 w_11 w_20 w_13 trial_count trial_weightSum trial_toPass trial_foundNumber trial_foundWeight trial_foundTurns trial_foundSlowed w_21 w_22 w_16 w_17 w_18 trial_ends trial_seen trial_begun _ (okb11 hw)) (cwV 0 hts (gdV (fun w h => List.mem_cons_of_mem _ h) q_408 q_409 q_410 q_3 q_411) rfl rfl rfl (by decide +kernel) ⟨Nat.le_of_ble_eq_true rfl, Nat.le_of_ble_eq_true rfl⟩) ⟨(kpre zX_ok hK hPc hDc hZ hS hFc).1, va_recv hK hP (ci := 5) (q0 := 17) rfl rfl, (kpre zX_ok hK hPc hDc hZ hS hFc).2⟩ rfl rfl hl.1 rfl (lv_room (Nat.le_of_ble_eq_true rfl)) dX6_movedBy_77 ⟨Nat.le_of_ble_eq_true rfl, Nat.le_of_ble_eq_true rfl⟩) hP hD hS hFc [17, 18, 19, 20, 21, 22, 23, 24, 25] [0, 1, 2, 3, 4, 5, 6, 7, 8, 9, 10, 11, 12, 13, 14, 15, 16, 26, 27, 28, 29, 30, 31] rfl rfl (by decide +kernel) (by decide +kernel) (fun u H locs hw hP hD hS => ?_)
          obtain ⟨w_24, w_25, w_26, w_27, w_28, w_29, w_30, w_31, w_32, w_33, w_34⟩ := u
          try dsimp only at hw
          have hP : va_P (dC, dI) vwCl (W_X6_movedBy cyI cyJ cyO h_o h_told h_walk h_trial h_seas h_otherEnds h_p2 h_kept h_ends h_tape a_sheets a_told_settings a_told_howFar a_told_tones a_told_currents a_told_warmths a_told_depths a_told_fars a_told_pieceCells a_told_pieceMonths a_told_pieceHighs a_told_pieceAges a_told_pieceNeeds a_told_dragCells a_told_dragEighths a_walk_howFar a_walk_tones a_walk_only a_walk_fars a_walk_cellAt a_walk_ends a_walk_seen a_walk_begun a_trial_howFar a_trial_tones a_trial_only a_trial_fars a_trial_cellAt a_trial_ends a_trial_seen a_trial_begun a_seas_known a_otherEnds_sums h_p2_told h_p2_seas a_p2_sums o_hasImage o_walkIsOld o_endsAreOld told_pieceCount told_dragCount told_settings told_howFar told_tones told_currents told_warmths told_fars told_pieceCells told_pieceMonths told_pieceHighs told_pieceAges told_pieceNeeds told_dragCells told_dragEighths walk_last walk_turnsLet walk_slowsLet walk_fuel walk_glide walk_count walk_weightSum walk_toPass walk_foundNumber walk_foundWeight walk_foundTurns walk_foundSlowed walk_ends w_9 w_10 w_11 w_20 w_13 w_24 w_25 w_26 w_27 w_28 w_29 w_30 w_21 w_22 w_16 w_17 w_31 w_32 w_33 w_34 seas_known otherEnds_total otherEnds_sums p2_total p2_sums) H := hP.sub [0, 1, 2, 3, 4, 5, 6, 7, 8, 9, 10, 11, 12, 13, 14, 15, 16, 23, 24, 25, 26, 27, 28, 29, 30, 31, 17, 18, 19, 20, 21, 22] rfl
          have hD : va_D A (W_X6_movedBy cyI cyJ cyO h_o h_told h_walk h_trial h_seas h_otherEnds h_p2 h_kept h_ends h_tape a_sheets a_told_settings a_told_howFar a_told_tones a_told_currents a_told_warmths a_told_depths a_told_fars a_told_pieceCells a_told_pieceMonths a_told_pieceHighs a_told_pieceAges a_told_pieceNeeds a_told_dragCells a_told_dragEighths a_walk_howFar a_walk_tones a_walk_only a_walk_fars a_walk_cellAt a_walk_ends a_walk_seen a_walk_begun a_trial_howFar a_trial_tones a_trial_only a_trial_fars a_trial_cellAt a_trial_ends a_trial_seen a_trial_begun a_seas_known a_otherEnds_sums h_p2_told h_p2_seas a_p2_sums o_hasImage o_walkIsOld o_endsAreOld told_pieceCount told_dragCount told_settings told_howFar told_tones told_currents told_warmths told_fars told_pieceCells told_pieceMonths told_pieceHighs told_pieceAges told_pieceNeeds told_dragCells told_dragEighths walk_last walk_turnsLet walk_slowsLet walk_fuel walk_glide walk_count walk_weightSum walk_toPass walk_foundNumber walk_foundWeight walk_foundTurns walk_foundSlowed walk_ends w_9 w_10 w_11 w_20 w_13 w_24 w_25 w_26 w_27 w_28 w_29 w_30 w_21 w_22 w_16 w_17 w_31 w_32 w_33 w_34 seas_known otherEnds_total otherEnds_sums p2_total p2_sums) := hD.sub [0, 1, 2, 3, 4, 5, 6, 7, 8, 9, 10, 11, 12, 13, 14, 15, 16, 23, 24, 25, 26, 27, 28, 29, 30, 31, 17, 18, 19, 20, 21, 22] (by decide +kernel) rfl
          clear hPc hDc hFc
          refine lv_aload_n hx hb dX6_movedBy_80 rfl (lv_at hl 0 rfl) ?_
          refine va_get (D := (dC, dI)) (ci := 6) (v := .ref h_otherEnds) (C := RX6) (T := TX6) (N := 12) hx hb hts hi6 hown hK hP 0 rfl rfl 6 (by decide) hq0 (fun _ h9 => h9) rfl dX6_movedBy_81 ?_
          refine lv_aload_n hx hb dX6_movedBy_84 rfl (lv_at hl 0 rfl) ?_
          refine va_get (D := (dC, dI)) (ci := 6) (v := .ref h_trial) (C := RX6) (T := TX6) (N := 12) hx hb hts hi6 hown hK hP 0 rfl rfl 3 (by decide) hq5 (fun _ h9 => h9) rfl dX6_movedBy_85 ?_
          refine va_get (D := (dC, dI)) (ci := 5) (v := .ref a_trial_ends) (C := RX5) (T := TX5) (N := 20) hx hb hts hi5 hown hK hP 17 rfl rfl 10 (by decide) hq3 (fun _ h9 => h9) rfl dX6_movedBy_88 ?_
          refine lv_iconst (v := (-1)) hx hb dX6_movedBy_91 (by decide) ?_
          have hPc := hP.sub (ws' := (W_X0_weigh cyI cyJ cyO 100 h_otherEnds h_told h_seas a_otherEnds_sums a_told_settings a_told_howFar a_told_tones a_told_currents a_told_warmths a_told_depths a_told_fars a_told_pieceCells a_told_pieceMonths a_told_pieceHighs a_told_pieceAges a_told_pieceNeeds a_told_dragCells a_told_dragEighths a_seas_known a_trial_ends otherEnds_total otherEnds_sums told_pieceCount told_dragCount told_settings told_currents told_warmths told_pieceCells told_pieceMonths told_pieceHighs told_pieceAges told_pieceNeeds told_dragCells told_dragEighths seas_known w_32)) [28, 29, 1, 2, 5, 6, 8, 9, 10, 11, 12, 13, 14, 26, 27, 23] rfl
          have hDc := hD.sub (ws' := (W_X0_weigh cyI cyJ cyO 100 h_otherEnds h_told h_seas a_otherEnds_sums a_told_settings a_told_howFar a_told_tones a_told_currents a_told_warmths a_told_depths a_told_fars a_told_pieceCells a_told_pieceMonths a_told_pieceHighs a_told_pieceAges a_told_pieceNeeds a_told_dragCells a_told_dragEighths a_seas_known a_trial_ends otherEnds_total otherEnds_sums told_pieceCount told_dragCount told_settings told_currents told_warmths told_pieceCells told_pieceMonths told_pieceHighs told_pieceAges told_pieceNeeds told_dragCells told_dragEighths seas_known w_32)) [28, 29, 1, 2, 5, 6, 8, 9, 10, 11, 12, 13, 14, 26, 27, 23] (by decide +kernel) rfl
          have hFc := va_free (wc := (W_X0_weigh cyI cyJ cyO 100 h_otherEnds h_told h_seas a_otherEnds_sums a_told_settings a_told_howFar a_told_tones a_told_currents a_told_warmths a_told_depths a_told_fars a_told_pieceCells a_told_pieceMonths a_told_pieceHighs a_told_pieceAges a_told_pieceNeeds a_told_dragCells a_told_dragEighths a_seas_known a_trial_ends otherEnds_total otherEnds_sums told_pieceCount told_dragCount told_settings told_currents told_warmths told_pieceCells told_pieceMonths told_pieceHighs told_pieceAges told_pieceNeeds told_dragCells told_dragEighths seas_known w_32)) hD hS hA [28, 29, 1, 2, 5, 6, 8, 9, 10, 11, 12, 13, 14, 26, 27, 23] rfl
          refine kc_v (wr := [(h_o, .inr (6, [.ref h_told, .ref h_kept, .ref h_walk, .ref h_trial, .ref h_seas, .ref h_ends, .ref h_otherEnds, .ref h_tape, .ref a_sheets, .int o_hasImage, .int o_walkIsOld, .int o_endsAreOld])), (a_told_howFar, .inl (cyI, 7, .inl told_howFar)), (a_told_tones, .inl (cyI, 7, .inl told_tones)), (a_told_fars, .inl (cyI, 100, .inl told_fars)), (h_walk, .inr (5, [.ref a_walk_howFar, .ref a_walk_tones, .ref a_walk_only, .ref a_walk_fars, .int walk_last, .int walk_turnsLet, .int walk_slowsLet, .int walk_fuel, .int walk_glide, .ref a_walk_cellAt, .ref a_walk_ends, .ref a_walk_seen, .ref a_walk_begun, .int walk_count, .long walk_weightSum, .int walk_toPass, .int walk_foundNumber, .int walk_foundWeight, .int walk_foundTurns, .int walk_foundSlowed])), (a_walk_ends, .inl (cyJ, 100, .inr (.inl walk_ends))), (h_trial, .inr (5, [.ref a_trial_howFar, .ref a_trial_tones, .ref a_trial_only, .ref a_trial_fars, .int w_9, .int w_10, .int w_11, .int w_20, .int w_13, .ref a_trial_cellAt, .ref a_trial_ends, .ref a_trial_seen, .ref a_trial_begun, .int w_24, .long w_25, .int w_26, .int w_27, .int w_28, .int w_29, .int w_30])), (a_trial_howFar, .inl (cyI, 7, .inl w_21)), (a_trial_tones, .inl (cyI, 7, .inl w_22)), (a_trial_only, .inl (cyI, 7, .inl w_16)), (a_trial_fars, .inl (cyI, 100, .inl w_17)), (a_trial_cellAt, .inl (cyI, 7, .inl w_31)), (a_trial_seen, .inl (cyI, 70, .inl w_33)), (a_trial_begun, .inl (cyI, 24, .inl w_34)), (h_p2, .inr (0, [.ref h_p2_told, .ref h_p2_seas, .ref a_p2_sums, .long p2_total])), (a_p2_sums, .inl (cyJ, 100, .inr (.inl p2_sums)))]) (va_runV (As := [.ref a_trial_ends, .int (-1)]) (rest := []) ⟨hx, hb, hml, hown, hts⟩ (c_X0_weigh l dC dI cyI cyJ cyO H.size tD tR tL tM 100 h_otherEnds h_told h_seas a_otherEnds_sums a_told_settings a_told_howFar a_told_tones a_told_currents a_told_warmths a_told_depths a_told_fars a_told_pieceCells a_told_pieceMonths a_told_pieceHighs a_told_pieceAges a_told_pieceNeeds a_told_dragCells a_told_dragEighths a_seas_known a_trial_ends otherEnds_total otherEnds_sums told_pieceCount told_dragCount told_settings told_currents told_warmths told_pieceCells told_pieceMonths told_pieceHighs told_pieceAges told_pieceNeeds told_dragCells told_dragEighths seas_known w_32 (-1) _ (okb3 hw)) (cwV 2 hts (gdV (fun w h => List.mem_cons_of_mem _ h) q_540 q_541 q_542 q_5 q_543) rfl rfl rfl (by decide +kernel) ⟨Nat.le_of_ble_eq_true rfl, Nat.le_of_ble_eq_true rfl⟩) ⟨(kpre zX_ok hK hPc hDc hZ hS hFc).1, va_recv hK hP (ci := 0) (q0 := 28) rfl rfl, (kpre zX_ok hK hPc hDc hZ hS hFc).2⟩ rfl rfl hl.1 rfl (lv_room (Nat.le_of_ble_eq_true rfl)) dX6_movedBy_92 ⟨Nat.le_of_ble_eq_true rfl, Nat.le_of_ble_eq_true rfl⟩) hP hD hS hFc [28, 29, 1, 2, 5, 6, 8, 9, 10, 11, 12, 13, 14, 26, 27, 23] [0, 3, 4, 7, 15, 16, 17, 18, 19, 20, 21, 22, 24, 25, 30, 31] rfl rfl (by decide +kernel) (by decide +kernel) (fun u H locs hw hP hD hS => ?_)
          obtain ⟨w_35, w_36, w_37⟩ := u
          try dsimp only at hw
          have hP : va_P (dC, dI) vwCl (W_X6_movedBy cyI cyJ cyO h_o h_told h_walk h_trial h_seas h_otherEnds h_p2 h_kept h_ends h_tape a_sheets a_told_settings a_told_howFar a_told_tones a_told_currents a_told_warmths a_told_depths a_told_fars a_told_pieceCells a_told_pieceMonths a_told_pieceHighs a_told_pieceAges a_told_pieceNeeds a_told_dragCells a_told_dragEighths a_walk_howFar a_walk_tones a_walk_only a_walk_fars a_walk_cellAt a_walk_ends a_walk_seen a_walk_begun a_trial_howFar a_trial_tones a_trial_only a_trial_fars a_trial_cellAt a_trial_ends a_trial_seen a_trial_begun a_seas_known a_otherEnds_sums h_p2_told h_p2_seas a_p2_sums o_hasImage o_walkIsOld o_endsAreOld told_pieceCount told_dragCount told_settings told_howFar told_tones told_currents told_warmths told_fars told_pieceCells told_pieceMonths told_pieceHighs told_pieceAges told_pieceNeeds told_dragCells told_dragEighths walk_last walk_turnsLet walk_slowsLet walk_fuel walk_glide walk_count walk_weightSum walk_toPass walk_foundNumber walk_foundWeight walk_foundTurns walk_foundSlowed walk_ends w_9 w_10 w_11 w_20 w_13 w_24 w_25 w_26 w_27 w_28 w_29 w_30 w_21 w_22 w_16 w_17 w_31 w_32 w_33 w_34 w_37 w_35 w_36 p2_total p2_sums) H := hP.sub [0, 18, 19, 1, 2, 20, 21, 3, 22, 23, 24, 25, 26, 27, 28, 4, 5, 6, 7, 8, 9, 10, 11, 31, 12, 13, 29, 30, 16, 17, 14, 15] rfl
          have hD : va_D A (W_X6_movedBy cyI cyJ cyO h_o h_told h_walk h_trial h_seas h_otherEnds h_p2 h_kept h_ends h_tape a_sheets a_told_settings a_told_howFar a_told_tones a_told_currents a_told_warmths a_told_depths a_told_fars a_told_pieceCells a_told_pieceMonths a_told_pieceHighs a_told_pieceAges a_told_pieceNeeds a_told_dragCells a_told_dragEighths a_walk_howFar a_walk_tones a_walk_only a_walk_fars a_walk_cellAt a_walk_ends a_walk_seen a_walk_begun a_trial_howFar a_trial_tones a_trial_only a_trial_fars a_trial_cellAt a_trial_ends a_trial_seen a_trial_begun a_seas_known a_otherEnds_sums h_p2_told h_p2_seas a_p2_sums o_hasImage o_walkIsOld o_endsAreOld told_pieceCount told_dragCount told_settings told_howFar told_tones told_currents told_warmths told_fars told_pieceCells told_pieceMonths told_pieceHighs told_pieceAges told_pieceNeeds told_dragCells told_dragEighths walk_last walk_turnsLet walk_slowsLet walk_fuel walk_glide walk_count walk_weightSum walk_toPass walk_foundNumber walk_foundWeight walk_foundTurns walk_foundSlowed walk_ends w_9 w_10 w_11 w_20 w_13 w_24 w_25 w_26 w_27 w_28 w_29 w_30 w_21 w_22 w_16 w_17 w_31 w_32 w_33 w_34 w_37 w_35 w_36 p2_total p2_sums) := hD.sub [0, 18, 19, 1, 2, 20, 21, 3, 22, 23, 24, 25, 26, 27, 28, 4, 5, 6, 7, 8, 9, 10, 11, 31, 12, 13, 29, 30, 16, 17, 14, 15] (by decide +kernel) rfl
          clear hPc hDc hFc
          refine lv_aload_n hx hb dX6_movedBy_95 rfl (lv_at hl 2 rfl) ?_
          refine lv_aload_n hx hb dX6_movedBy_96 rfl (lv_at hl 0 rfl) ?_
          refine va_get (D := (dC, dI)) (ci := 6) (v := .ref h_otherEnds) (C := RX6) (T := TX6) (N := 12) hx hb hts hi6 hown hK hP 0 rfl rfl 6 (by decide) hq0 (fun _ h9 => h9) rfl dX6_movedBy_97 ?_
          have hPc := hP.sub (ws' := (W_X0_apart cyI cyJ cyO h_p2 h_otherEnds h_p2_told h_p2_seas a_p2_sums h_told h_seas a_otherEnds_sums p2_total p2_sums w_35 w_36)) [30, 31, 28, 29] rfl
          have hDc := hD.sub (ws' := (W_X0_apart cyI cyJ cyO h_p2 h_otherEnds h_p2_told h_p2_seas a_p2_sums h_told h_seas a_otherEnds_sums p2_total p2_sums w_35 w_36)) [30, 31, 28, 29] (by decide +kernel) rfl
          have hFc := va_free (wc := (W_X0_apart cyI cyJ cyO h_p2 h_otherEnds h_p2_told h_p2_seas a_p2_sums h_told h_seas a_otherEnds_sums p2_total p2_sums w_35 w_36)) hD hS hA [30, 31, 28, 29] rfl
          refine kc_i (wr := [(h_o, .inr (6, [.ref h_told, .ref h_kept, .ref h_walk, .ref h_trial, .ref h_seas, .ref h_ends, .ref h_otherEnds, .ref h_tape, .ref a_sheets, .int o_hasImage, .int o_walkIsOld, .int o_endsAreOld])), (h_told, .inr (4, [.ref a_told_settings, .ref a_told_howFar, .ref a_told_tones, .ref a_told_currents, .ref a_told_warmths, .ref a_told_depths, .ref a_told_fars, .ref a_told_pieceCells, .ref a_told_pieceMonths, .ref a_told_pieceHighs, .ref a_told_pieceAges, .ref a_told_pieceNeeds, .ref a_told_dragCells, .ref a_told_dragEighths, .int told_pieceCount, .int told_dragCount])), (a_told_settings, .inl (cyI, 8, .inl told_settings)), (a_told_howFar, .inl (cyI, 7, .inl told_howFar)), (a_told_tones, .inl (cyI, 7, .inl told_tones)), (a_told_currents, .inl (cyI, 200, .inl told_currents)), (a_told_warmths, .inl (cyI, 200, .inl told_warmths)), (a_told_fars, .inl (cyI, 100, .inl told_fars)), (a_told_pieceCells, .inl (cyI, 4, .inl told_pieceCells)), (a_told_pieceMonths, .inl (cyI, 4, .inl told_pieceMonths)), (a_told_pieceHighs, .inl (cyI, 4, .inl told_pieceHighs)), (a_told_pieceAges, .inl (cyI, 4, .inl told_pieceAges)), (a_told_pieceNeeds, .inl (cyI, 4, .inl told_pieceNeeds)), (a_told_dragCells, .inl (cyI, 4, .inl told_dragCells)), (a_told_dragEighths, .inl (cyI, 4, .inl told_dragEighths)), (h_walk, .inr (5, [.ref a_walk_howFar, .ref a_walk_tones, .ref a_walk_only, .ref a_walk_fars, .int walk_last, .int walk_turnsLet, .int walk_slowsLet, .int walk_fuel, .int walk_glide, .ref a_walk_cellAt, .ref a_walk_ends, .ref a_walk_seen, .ref a_walk_begun, .int walk_count, .long walk_weightSum, .int walk_toPass, .int walk_foundNumber, .int walk_foundWeight, .int walk_foundTurns, .int walk_foundSlowed])), (a_walk_ends, .inl (cyJ, 100, .inr (.inl walk_ends))), (h_trial, .inr (5, [.ref a_trial_howFar, .ref a_trial_tones, .ref a_trial_only, .ref a_trial_fars, .int w_9, .int w_10, .int w_11, .int w_20, .int w_13, .ref a_trial_cellAt, .ref a_trial_ends, .ref a_trial_seen, .ref a_trial_begun, .int w_24, .long w_25, .int w_26, .int w_27, .int w_28, .int w_29, .int w_30])), (a_trial_howFar, .inl (cyI, 7, .inl w_21)), (a_trial_tones, .inl (cyI, 7, .inl w_22)), (a_trial_only, .inl (cyI, 7, .inl w_16)), (a_trial_fars, .inl (cyI, 100, .inl w_17)), (a_trial_cellAt, .inl (cyI, 7, .inl w_31)), (a_trial_ends, .inl (cyJ, 100, .inr (.inl w_32))), (a_trial_seen, .inl (cyI, 70, .inl w_33)), (a_trial_begun, .inl (cyI, 24, .inl w_34)), (h_seas, .inr (1, [.ref h_told, .ref a_seas_known])), (a_seas_known, .inl (cyI, 400, .inl w_37))]) (va_runV (As := [.ref h_otherEnds]) (rest := []) ⟨hx, hb, hml, hown, hts⟩ (c_X0_apart l dC dI cyI cyJ cyO H.size h_p2 h_otherEnds h_p2_told h_p2_seas a_p2_sums h_told h_seas a_otherEnds_sums p2_total p2_sums w_35 w_36 _ (okb1 hw)) (cwV 1 hts (gdV (fun w h => List.mem_cons_of_mem _ h) q_583 q_584 q_585 q_5 q_586) rfl rfl rfl (by decide +kernel) ⟨Nat.le_of_ble_eq_true rfl, Nat.le_of_ble_eq_true rfl⟩) ⟨(kpre zN_ok hK hPc hDc trivial hS hFc).1, va_recv hK hP (ci := 0) (q0 := 30) rfl rfl, (kpre zN_ok hK hPc hDc trivial hS hFc).2⟩ rfl rfl hl.1 rfl (lv_room (Nat.le_of_ble_eq_true rfl)) dX6_movedBy_100 ⟨Nat.le_of_ble_eq_true rfl, Nat.le_of_ble_eq_true rfl⟩) hP hD hS hFc [30, 31, 28, 29] [0, 1, 2, 3, 4, 5, 6, 7, 8, 9, 10, 11, 12, 13, 14, 15, 16, 17, 18, 19, 20, 21, 22, 23, 24, 25, 26, 27] rfl rfl (by decide +kernel) (by decide +kernel) (fun r_38 u H locs hw hP hD hS => ?_)
          try dsimp only at hw
          have hP : va_P (dC, dI) vwCl (W_X6_movedBy cyI cyJ cyO h_o h_told h_walk h_trial h_seas h_otherEnds h_p2 h_kept h_ends h_tape a_sheets a_told_settings a_told_howFar a_told_tones a_told_currents a_told_warmths a_told_depths a_told_fars a_told_pieceCells a_told_pieceMonths a_told_pieceHighs a_told_pieceAges a_told_pieceNeeds a_told_dragCells a_told_dragEighths a_walk_howFar a_walk_tones a_walk_only a_walk_fars a_walk_cellAt a_walk_ends a_walk_seen a_walk_begun a_trial_howFar a_trial_tones a_trial_only a_trial_fars a_trial_cellAt a_trial_ends a_trial_seen a_trial_begun a_seas_known a_otherEnds_sums h_p2_told h_p2_seas a_p2_sums o_hasImage o_walkIsOld o_endsAreOld told_pieceCount told_dragCount told_settings told_howFar told_tones told_currents told_warmths told_fars told_pieceCells told_pieceMonths told_pieceHighs told_pieceAges told_pieceNeeds told_dragCells told_dragEighths walk_last walk_turnsLet walk_slowsLet walk_fuel walk_glide walk_count walk_weightSum walk_toPass walk_foundNumber walk_foundWeight walk_foundTurns walk_foundSlowed walk_ends w_9 w_10 w_11 w_20 w_13 w_24 w_25 w_26 w_27 w_28 w_29 w_30 w_21 w_22 w_16 w_17 w_31 w_32 w_33 w_34 w_37 w_35 w_36 p2_total p2_sums) H := hP.sub [0, 1, 2, 3, 4, 5, 6, 7, 8, 9, 10, 11, 12, 13, 14, 15, 16, 17, 18, 19, 20, 21, 22, 23, 24, 25, 26, 27, 30, 31, 28, 29] rfl
          have hD : va_D A (W_X6_movedBy cyI cyJ cyO h_o h_told h_walk h_trial h_seas h_otherEnds h_p2 h_kept h_ends h_tape a_sheets a_told_settings a_told_howFar a_told_tones a_told_currents a_told_warmths a_told_depths a_told_fars a_told_pieceCells a_told_pieceMonths a_told_pieceHighs a_told_pieceAges a_told_pieceNeeds a_told_dragCells a_told_dragEighths a_walk_howFar a_walk_tones a_walk_only a_walk_fars a_walk_cellAt a_walk_ends a_walk_seen a_walk_begun a_trial_howFar a_trial_tones a_trial_only a_trial_fars a_trial_cellAt a_trial_ends a_trial_seen a_trial_begun a_seas_known a_otherEnds_sums h_p2_told h_p2_seas a_p2_sums o_hasImage o_walkIsOld o_endsAreOld told_pieceCount told_dragCount told_settings told_howFar told_tones told_currents told_warmths told_fars told_pieceCells told_pieceMonths told_pieceHighs told_pieceAges told_pieceNeeds told_dragCells told_dragEighths walk_last walk_turnsLet walk_slowsLet walk_fuel walk_glide walk_count walk_weightSum walk_toPass walk_foundNumber walk_foundWeight walk_foundTurns walk_foundSlowed walk_ends w_9 w_10 w_11 w_20 w_13 w_24 w_25 w_26 w_27 w_28 w_29 w_30 w_21 w_22 w_16 w_17 w_31 w_32 w_33 w_34 w_37 w_35 w_36 p2_total p2_sums) := hD.sub [0, 1, 2, 3, 4, 5, 6, 7, 8, 9, 10, 11, 12, 13, 14, 15, 16, 17, 18, 19, 20, 21, 22, 23, 24, 25, 26, 27, 30, 31, 28, 29] (by decide +kernel) rfl
          clear hPc hDc hFc
          rw [hQ]
          exact W.iret (v := r_38) hx hb hr (fun t ht hW => ⟨⟨r_38, (w_9, w_10, w_11, w_20, w_13, w_24, w_25, w_26, w_27, w_28, w_29, w_30, w_21, w_22, w_16, w_17, w_31, w_32, w_33, w_34, w_37, w_35, w_36), rfl, okS hw, by rw [ht]; exact hP, va_K.moved hW.alike hK, hD⟩, hS.F ht⟩) hS.2.2 dX6_movedBy_103
        · replace hw := okT hw c_23
          clear c_23
          refine lv_iconst (v := 0) hx hb dX6_movedBy_71 (by decide) ?_
          rw [hQ]
          exact W.iret (v := 0) hx hb hr (fun t ht hW => ⟨⟨0, (w_9, w_10, w_11, w_20, w_13, trial_count, trial_weightSum, trial_toPass, trial_foundNumber, trial_foundWeight, trial_foundTurns, trial_foundSlowed, w_21, w_22, w_16, w_17, w_18, trial_ends, trial_seen, trial_begun, seas_known, otherEnds_total, otherEnds_sums), rfl, okS hw, by rw [ht]; exact hP, va_K.moved hW.alike hK, hD⟩, hS.F ht⟩) hS.2.2 dX6_movedBy_72
      · replace hw := okF hw c_8
        clear c_8
        refine lv_iconst (v := (-1)) hx hb dX6_movedBy_47 (by decide) ?_
        rw [hQ]
        exact W.iret (v := (-1)) hx hb hr (fun t ht hW => ⟨⟨(-1), (trial_last, trial_turnsLet, trial_slowsLet, trial_fuel, trial_glide, trial_count, trial_weightSum, trial_toPass, trial_foundNumber, trial_foundWeight, trial_foundTurns, trial_foundSlowed, trial_howFar, trial_tones, trial_only, trial_fars, trial_cellAt, trial_ends, trial_seen, trial_begun, seas_known, otherEnds_total, otherEnds_sums), rfl, okS hw, by rw [ht]; exact hP, va_K.moved hW.alike hK, hD⟩, hS.F ht⟩) hS.2.2 dX6_movedBy_48
    · replace hw := okF hw c_7
      clear c_7
      exact w17 x1 trial_last trial_turnsLet trial_slowsLet trial_fuel trial_glide trial_count trial_weightSum trial_toPass trial_foundNumber trial_foundWeight trial_foundTurns trial_foundSlowed trial_howFar trial_tones trial_only trial_fars trial_cellAt trial_ends trial_seen trial_begun seas_known otherEnds_total otherEnds_sums _ _ hP hD hS _ (lv_sub hl [0, 1, 2] rfl) hw
/-! ===== X6_wrongRow ===== -/
theorem dX6_wrongRow_0 : decode cX6_wrongRow 0 = .ok (.iload_n 1, 1) := by decide +kernel
theorem dX6_wrongRow_1 : decode cX6_wrongRow 1 = .ok (.invokestatic 262, 3) := by decide +kernel
theorem dX6_wrongRow_4 : decode cX6_wrongRow 4 = .ok (.ifCond .eq 10, 3) := by decide +kernel
theorem dX6_wrongRow_7 : decode cX6_wrongRow 7 = .ok (.iload_n 2, 1) := by decide +kernel
theorem dX6_wrongRow_8 : decode cX6_wrongRow 8 = .ok (.invokestatic 265, 3) := by decide +kernel
theorem dX6_wrongRow_11 : decode cX6_wrongRow 11 = .ok (.ifCond .ne 5, 3) := by decide +kernel
theorem dX6_wrongRow_14 : decode cX6_wrongRow 14 = .ok (.iconst (-1), 1) := by decide +kernel
theorem dX6_wrongRow_15 : decode cX6_wrongRow 15 = .ok (.ireturn, 1) := by decide +kernel
theorem dX6_wrongRow_16 : decode cX6_wrongRow 16 = .ok (.aload_n 0, 1) := by decide +kernel
theorem dX6_wrongRow_17 : decode cX6_wrongRow 17 = .ok (.getfield 59, 3) := by decide +kernel
theorem dX6_wrongRow_20 : decode cX6_wrongRow 20 = .ok (.iload_n 1, 1) := by decide +kernel
theorem dX6_wrongRow_21 : decode cX6_wrongRow 21 = .ok (.aaload, 1) := by decide +kernel
theorem dX6_wrongRow_22 : decode cX6_wrongRow 22 = .ok (.astore 5, 2) := by decide +kernel
theorem dX6_wrongRow_24 : decode cX6_wrongRow 24 = .ok (.aload 5, 2) := by decide +kernel
theorem dX6_wrongRow_26 : decode cX6_wrongRow 26 = .ok (.invokevirtual 272, 3) := by decide +kernel
theorem dX6_wrongRow_29 : decode cX6_wrongRow 29 = .ok (.ifCond .eq 6, 3) := by decide +kernel
theorem dX6_wrongRow_32 : decode cX6_wrongRow 32 = .ok (.bipush (-11), 2) := by decide +kernel
theorem dX6_wrongRow_34 : decode cX6_wrongRow 34 = .ok (.ireturn, 1) := by decide +kernel
theorem dX6_wrongRow_35 : decode cX6_wrongRow 35 = .ok (.aload 5, 2) := by decide +kernel
theorem dX6_wrongRow_37 : decode cX6_wrongRow 37 = .ok (.getfield 285, 3) := by decide +kernel
theorem dX6_wrongRow_40 : decode cX6_wrongRow 40 = .ok (.iload_n 2, 1) := by decide +kernel
theorem dX6_wrongRow_41 : decode cX6_wrongRow 41 = .ok (.if_icmp .eq 6, 3) := by decide +kernel
theorem dX6_wrongRow_44 : decode cX6_wrongRow 44 = .ok (.bipush (-12), 2) := by decide +kernel
theorem dX6_wrongRow_46 : decode cX6_wrongRow 46 = .ok (.ireturn, 1) := by decide +kernel
theorem dX6_wrongRow_47 : decode cX6_wrongRow 47 = .ok (.aload 5, 2) := by decide +kernel
theorem dX6_wrongRow_49 : decode cX6_wrongRow 49 = .ok (.iload_n 3, 1) := by decide +kernel
theorem dX6_wrongRow_50 : decode cX6_wrongRow 50 = .ok (.iload 4, 2) := by decide +kernel
theorem dX6_wrongRow_52 : decode cX6_wrongRow 52 = .ok (.invokevirtual 288, 3) := by decide +kernel
theorem dX6_wrongRow_55 : decode cX6_wrongRow 55 = .ok (.ifCond .eq 7, 3) := by decide +kernel
theorem dX6_wrongRow_58 : decode cX6_wrongRow 58 = .ok (.iconst 0, 1) := by decide +kernel
theorem dX6_wrongRow_59 : decode cX6_wrongRow 59 = .ok (.goto 5, 3) := by decide +kernel
theorem dX6_wrongRow_62 : decode cX6_wrongRow 62 = .ok (.bipush (-13), 2) := by decide +kernel
theorem dX6_wrongRow_64 : decode cX6_wrongRow 64 = .ok (.ireturn, 1) := by decide +kernel
abbrev W_X6_wrongRow (cyI cyJ cyO : ClassId) (h_o h_told h_kept h_walk h_trial h_seas h_ends h_otherEnds h_tape a_sheets hs0 ia0 hs1 ia1 hs2 ia2 hs3 ia3 : Nat) (o_hasImage : Int32) (o_walkIsOld : Int32) (o_endsAreOld : Int32) (sh_lane : Nat → Int32) (sh_size : Nat → Int32) (sh_items : Nat → Nat → Int32) : va_W := [(h_o, .inr (6, [.ref h_told, .ref h_kept, .ref h_walk, .ref h_trial, .ref h_seas, .ref h_ends, .ref h_otherEnds, .ref h_tape, .ref a_sheets, .int o_hasImage, .int o_walkIsOld, .int o_endsAreOld])), (a_sheets, .inl (cyO, 4, .inr (.inr (.inr (.inr (rowS hs0 hs1 hs2 hs3)))))), (hs0, .inr (2, [.ref ia0, .int (sh_lane 0), .int (sh_size 0)])), (ia0, .inl (cyI, 16, .inl (sh_items 0))), (hs1, .inr (2, [.ref ia1, .int (sh_lane 1), .int (sh_size 1)])), (ia1, .inl (cyI, 16, .inl (sh_items 1))), (hs2, .inr (2, [.ref ia2, .int (sh_lane 2), .int (sh_size 2)])), (ia2, .inl (cyI, 16, .inl (sh_items 2))), (hs3, .inr (2, [.ref ia3, .int (sh_lane 3), .int (sh_size 3)])), (ia3, .inl (cyI, 16, .inl (sh_items 3)))]
def f_X6_wrongRow (x1 : Int32) (x2 : Int32) (x3 : Int32) (x4 : Int32) (sh_lane : Nat → Int32) (sh_size : Nat → Int32) : Option (Int32) :=
  bd1 (f_X6_isSheet x1) fun r_1 =>
  if r_1 = 0 then
    some (-1)
  else
    bd1 (f_X6_isLane x2) fun r_2 =>
    if r_2 = 0 then
      some (-1)
    else
      chk (¬ (x1 < 0 ∨ 4 ≤ x1.toNatClampNeg)) <|
      nm x1.toNatClampNeg fun j21 =>
      bd1 (f_X2_isNothing (sh_lane j21)) fun r_3 =>
      if r_3 = 0 then
        if (sh_lane j21) = x2 then
          bd1 (f_X2_has x3 x4 (sh_size j21)) fun r_4 =>
          if r_4 = 0 then
            some (-13)
          else
            some 0
        else
          some (-12)
      else
        some (-11)
abbrev rm_X6_wrongRow : Room := { frames := 1, cells := 0, slots := 0, locals := 22 }
set_option maxRecDepth 100000 in
set_option maxHeartbeats 4000000 in
theorem c_X6_wrongRow (l : Launch) (dC : Nat → ClassId) (dI : Nat → Nat → Nat) (cyI cyJ cyO : ClassId) (sz : Nat) (h_o h_told h_kept h_walk h_trial h_seas h_ends h_otherEnds h_tape a_sheets hs0 ia0 hs1 ia1 hs2 ia2 hs3 ia3 : Nat) (o_hasImage : Int32) (o_walkIsOld : Int32) (o_endsAreOld : Int32) (sh_lane : Nat → Int32) (sh_size : Nat → Int32) (sh_items : Nat → Nat → Int32) (x1 : Int32) (x2 : Int32) (x3 : Int32) (x4 : Int32) (post : Int32 → Prop) (hf : okP (f_X6_wrongRow x1 x2 x3 x4 sh_lane sh_size) post) : Ci l (dC, dI) (tyL cyI cyJ cyO) yX6_wrongRow wsX6_wrongRow rm_X6_wrongRow [.ref h_o, .int x1, .int x2, .int x3, .int x4] sz (W_X6_wrongRow cyI cyJ cyO h_o h_told h_kept h_walk h_trial h_seas h_ends h_otherEnds h_tape a_sheets hs0 ia0 hs1 ia1 hs2 ia2 hs3 ia3 o_hasImage o_walkIsOld o_endsAreOld sh_lane sh_size sh_items) zN (fun r (_ : Unit) => post r) (fun _ => (W_X6_wrongRow cyI cyJ cyO h_o h_told h_kept h_walk h_trial h_seas h_ends h_otherEnds h_tape a_sheets hs0 ia0 hs1 ia1 hs2 ia2 hs3 ia3 o_hasImage o_walkIsOld o_endsAreOld sh_lane sh_size sh_items)) := by
  refine Met.ofW (cc := cX6_wrongRow) (maxL := 6) (ret := (some .int)) (by decide) rfl ?_
  intro p e s m args below meth c s₁ B hml hv
  obtain ⟨rfl, hsz, hP, hK, hD0, hZ⟩ := hv
  have hx := B.exec
  have hb := B.bytes
  have hr := B.returns
  have hts := atoms_spec (ws := wsX6_wrongRow) B.pre
  have hown : s.vm.findClass RX6 = some m.cls := findClass_of_methodNamed B.named
  have hlocks := B.notSynchronized
  subst hsz
  have hD := hD0.self (sz := s.heap.size)
  generalize hAe : va_A (W_X6_wrongRow cyI cyJ cyO h_o h_told h_kept h_walk h_trial h_seas h_ends h_otherEnds h_tape a_sheets hs0 ia0 hs1 ia1 hs2 ia2 hs3 ia3 o_hasImage o_walkIsOld o_endsAreOld sh_lane sh_size sh_items) s.heap.size = A at hD hZ ⊢
  have hA : ∀ q : Nat, s.heap.size ≤ q → A q := fun q h => by rw [← hAe]; exact Or.inr h
  clear hAe hD0
  have hS : va_S A s.heap s.heap [] := va_S.rf
  have hl := lv_entry ([.ref h_o, .int x1, .int x2, .int x3, .int x4]) (n := 6) (Nat.le_of_ble_eq_true rfl)
  rw [lg_entry_eq]
  generalize (lg_sl ([.ref h_o, .int x1, .int x2, .int x3, .int x4]) ++ List.replicate (6 - (lg_sl ([.ref h_o, .int x1, .int x2, .int x3, .int x4])).length) Slot.unset).toArray = ls at hl ⊢
  have hl : lv_has ls 6 [(0, .ref h_o), (1, .int x1), (2, .int x2), (3, .int x3), (4, .int x4)] := hl
  refine kW (fun Q hQ => ?_)
  have hq0 := hts _ (List.mem_cons_of_mem _ q_278)
  have hi6 : ∀ w ∈ u_ws RX6 TX6 12, w ∈ wsX6_wrongRow := fun w h => List.mem_cons_of_mem _ (inX6 w h)
  have hq2 := hts _ (List.mem_cons_of_mem _ q_260)
  have hi2 : ∀ w ∈ u_ws RX2 TX2 3, w ∈ wsX6_wrongRow := fun w h => List.mem_cons_of_mem _ (inX2 w h)
  have hw := hf
  unfold f_X6_wrongRow at hw
  have hP : va_P (dC, dI) vwCl (W_X6_wrongRow cyI cyJ cyO h_o h_told h_kept h_walk h_trial h_seas h_ends h_otherEnds h_tape a_sheets hs0 ia0 hs1 ia1 hs2 ia2 hs3 ia3 o_hasImage o_walkIsOld o_endsAreOld sh_lane sh_size sh_items) s.heap := hP
  obtain ⟨H, hH⟩ : ∃ H, H = s.heap := ⟨_, rfl⟩
  obtain ⟨locs, hlo⟩ : ∃ x : List Loc, x = [] := ⟨_, rfl⟩
  have hP : va_P (dC, dI) vwCl (W_X6_wrongRow cyI cyJ cyO h_o h_told h_kept h_walk h_trial h_seas h_ends h_otherEnds h_tape a_sheets hs0 ia0 hs1 ia1 hs2 ia2 hs3 ia3 o_hasImage o_walkIsOld o_endsAreOld sh_lane sh_size sh_items) H := by rw [hH]; exact hP
  have hS : va_S A s.heap H locs := by rw [hH, hlo]; exact hS
  refine kH hH hlo ?_
  clear hH hlo
  refine lv_iload_n hx hb dX6_wrongRow_0 rfl (lv_at hl 1 rfl) ?_
  have hFc := va_free (wc := []) hD hS hA [] rfl
  refine kp_i (va_runS (As := [.int x1]) (rest := []) ⟨hx, hb, hml, hown, hts⟩ (c_X6_isSheet l dC dI cyI cyJ cyO H.size x1 _ (okb1 hw)) (va_cwS 1 hts (gdS (fun w h => List.mem_cons_of_mem _ h) q_621 q_622 q_1 q_623) rfl rfl rfl (by decide +kernel) ⟨Nat.le_of_ble_eq_true rfl, Nat.le_of_ble_eq_true rfl⟩) (kpre zN_ok hK va_P0 va_D0 trivial hS hFc) rfl rfl hl.1 rfl (lv_room (Nat.le_of_ble_eq_true rfl)) dX6_wrongRow_1 ⟨Nat.le_of_ble_eq_true rfl, Nat.le_of_ble_eq_true rfl⟩) hP hD hS hFc (fun r_1 H locs hw hP hS => ?_)
  try dsimp only at hw
  clear hFc
  refine lv_if_eq (tgt := 14) hx hb dX6_wrongRow_4 (by decide) (fun c_2 => ?_) (fun c_2 => ?_)
  · replace hw := okT hw c_2
    clear c_2
    refine lv_iconst (v := (-1)) hx hb dX6_wrongRow_14 (by decide) ?_
    rw [hQ]
    exact W.iret (v := (-1)) hx hb hr (fun t ht hW => ⟨⟨(-1), (), rfl, okS hw, by rw [ht]; exact hP, va_K.moved hW.alike hK, hD⟩, hS.F ht⟩) hS.2.2 dX6_wrongRow_15
  · replace hw := okF hw c_2
    clear c_2
    refine lv_iload_n hx hb dX6_wrongRow_7 rfl (lv_at hl 2 rfl) ?_
    have hFc := va_free (wc := []) hD hS hA [] rfl
    refine kp_i (va_runS (As := [.int x2]) (rest := []) ⟨hx, hb, hml, hown, hts⟩ (c_X6_isLane l dC dI cyI cyJ cyO H.size x2 _ (okb1 hw)) (va_cwS 1 hts (gdS (fun w h => List.mem_cons_of_mem _ h) q_624 q_625 q_1 q_626) rfl rfl rfl (by decide +kernel) ⟨Nat.le_of_ble_eq_true rfl, Nat.le_of_ble_eq_true rfl⟩) (kpre zN_ok hK va_P0 va_D0 trivial hS hFc) rfl rfl hl.1 rfl (lv_room (Nat.le_of_ble_eq_true rfl)) dX6_wrongRow_8 ⟨Nat.le_of_ble_eq_true rfl, Nat.le_of_ble_eq_true rfl⟩) hP hD hS hFc (fun r_3 H locs hw hP hS => ?_)
    try dsimp only at hw
    clear hFc
    refine lv_if_ne (tgt := 16) hx hb dX6_wrongRow_11 (by decide) (fun c_4 => ?_) (fun c_4 => ?_)
    · replace hw := okF hw c_4
      clear c_4
      refine lv_aload_n hx hb dX6_wrongRow_16 rfl (lv_at hl 0 rfl) ?_
      refine va_get (D := (dC, dI)) (ci := 6) (v := .ref a_sheets) (C := RX6) (T := TX6) (N := 12) hx hb hts hi6 hown hK hP 0 rfl rfl 8 (by decide) hq0 (fun _ h9 => h9) rfl dX6_wrongRow_17 ?_
      refine lv_iload_n hx hb dX6_wrongRow_20 rfl (lv_at hl 1 rfl) ?_
      obtain ⟨h_5, hw⟩ := okC hw
      refine va_aldq (i := x1) hx hb hK hP 1 2 rfl rfl h_5 dX6_wrongRow_21 ?_
      obtain ⟨j21, ej21⟩ : ∃ y : Nat, y = x1.toNatClampNeg := ⟨_, rfl⟩
      replace hw := okN ej21 hw
      rw [← ej21]
      have hj21 : j21 < 4 := by rw [ej21]; exact Nat.not_le.mp fun q => h_5 (Or.inr q)
      clear ej21
      rcases (show j21 = 0 ∨ j21 = 1 ∨ j21 = 2 ∨ j21 = 3 by omega) with rfl | rfl | rfl | rfl
      · refine W.eq (g2 := F0 m 22 ls [.ref hs0]) rfl ?_
        refine lv_astore (lv' := [(5, .ref hs0), (0, .ref h_o), (1, .int x1), (2, .int x2), (3, .int x3), (4, .int x4)]) hx hb dX6_wrongRow_22 hl (by decide) rfl (fun ls hl => ?_)
        refine lv_aload hx hb dX6_wrongRow_24 (lv_at hl 0 rfl) ?_
        have hPc := hP.sub (ws' := (W_X2_isNothing cyI cyJ cyO hs0 ia0 (sh_lane 0) (sh_size 0))) [2] rfl
        have hDc := hD.sub (ws' := (W_X2_isNothing cyI cyJ cyO hs0 ia0 (sh_lane 0) (sh_size 0))) [2] (by decide +kernel) rfl
        have hFc := va_free (wc := (W_X2_isNothing cyI cyJ cyO hs0 ia0 (sh_lane 0) (sh_size 0))) hD hS hA [2] rfl
        refine kc_i (wr := [(h_o, .inr (6, [.ref h_told, .ref h_kept, .ref h_walk, .ref h_trial, .ref h_seas, .ref h_ends, .ref h_otherEnds, .ref h_tape, .ref a_sheets, .int o_hasImage, .int o_walkIsOld, .int o_endsAreOld])), (a_sheets, .inl (cyO, 4, .inr (.inr (.inr (.inr (rowS hs0 hs1 hs2 hs3)))))), (ia0, .inl (cyI, 16, .inl (sh_items 0))), (hs1, .inr (2, [.ref ia1, .int (sh_lane 1), .int (sh_size 1)])), (ia1, .inl (cyI, 16, .inl (sh_items 1))), (hs2, .inr (2, [.ref ia2, .int (sh_lane 2), .int (sh_size 2)])), (ia2, .inl (cyI, 16, .inl (sh_items 2))), (hs3, .inr (2, [.ref ia3, .int (sh_lane 3), .int (sh_size 3)])), (ia3, .inl (cyI, 16, .inl (sh_items 3)))]) (va_runV (As := []) (rest := []) ⟨hx, hb, hml, hown, hts⟩ (c_X2_isNothing l dC dI cyI cyJ cyO H.size hs0 ia0 (sh_lane 0) (sh_size 0) _ (okb1 hw)) (cwV 0 hts (gdV (fun w h => List.mem_cons_of_mem _ h) q_627 q_628 q_629 q_7 q_630) rfl rfl rfl (by decide +kernel) ⟨Nat.le_of_ble_eq_true rfl, Nat.le_of_ble_eq_true rfl⟩) ⟨(kpre zN_ok hK hPc hDc trivial hS hFc).1, va_recv hK hP (ci := 2) (q0 := 2) rfl rfl, (kpre zN_ok hK hPc hDc trivial hS hFc).2⟩ rfl rfl hl.1 rfl (lv_room (Nat.le_of_ble_eq_true rfl)) dX6_wrongRow_26 ⟨Nat.le_of_ble_eq_true rfl, Nat.le_of_ble_eq_true rfl⟩) hP hD hS hFc [2] [0, 1, 3, 4, 5, 6, 7, 8, 9] rfl rfl (by decide +kernel) (by decide +kernel) (fun r_6 u H locs hw hP hD hS => ?_)
        try dsimp only at hw
        have hP : va_P (dC, dI) vwCl (W_X6_wrongRow cyI cyJ cyO h_o h_told h_kept h_walk h_trial h_seas h_ends h_otherEnds h_tape a_sheets hs0 ia0 hs1 ia1 hs2 ia2 hs3 ia3 o_hasImage o_walkIsOld o_endsAreOld sh_lane sh_size sh_items) H := hP.sub [0, 1, 9, 2, 3, 4, 5, 6, 7, 8] rfl
        have hD : va_D A (W_X6_wrongRow cyI cyJ cyO h_o h_told h_kept h_walk h_trial h_seas h_ends h_otherEnds h_tape a_sheets hs0 ia0 hs1 ia1 hs2 ia2 hs3 ia3 o_hasImage o_walkIsOld o_endsAreOld sh_lane sh_size sh_items) := hD.sub [0, 1, 9, 2, 3, 4, 5, 6, 7, 8] (by decide +kernel) rfl
        clear hPc hDc hFc
        refine lv_if_eq (tgt := 35) hx hb dX6_wrongRow_29 (by decide) (fun c_7 => ?_) (fun c_7 => ?_)
        · replace hw := okT hw c_7
          clear c_7
          refine lv_aload hx hb dX6_wrongRow_35 (lv_at hl 0 rfl) ?_
          refine va_get (D := (dC, dI)) (ci := 2) (v := .int (sh_lane 0)) (C := RX2) (T := TX2) (N := 3) hx hb hts hi2 hown hK hP 2 rfl rfl 1 (by decide) hq2 (fun _ h9 => h9) rfl dX6_wrongRow_37 ?_
          refine lv_iload_n hx hb dX6_wrongRow_40 rfl (lv_at hl 3 rfl) ?_
          refine lv_icmp_eq (tgt := 47) hx hb dX6_wrongRow_41 (by decide) (fun c_8 => ?_) (fun c_8 => ?_)
          · replace hw := okT hw c_8
            clear c_8
            refine lv_aload hx hb dX6_wrongRow_47 (lv_at hl 0 rfl) ?_
            refine lv_iload_n hx hb dX6_wrongRow_49 rfl (lv_at hl 4 rfl) ?_
            refine lv_iload hx hb dX6_wrongRow_50 (lv_at hl 5 rfl) ?_
            have hPc := hP.sub (ws' := (W_X2_has cyI cyJ cyO hs0 ia0 (sh_lane 0) (sh_size 0))) [2] rfl
            have hDc := hD.sub (ws' := (W_X2_has cyI cyJ cyO hs0 ia0 (sh_lane 0) (sh_size 0))) [2] (by decide +kernel) rfl
            have hFc := va_free (wc := (W_X2_has cyI cyJ cyO hs0 ia0 (sh_lane 0) (sh_size 0))) hD hS hA [2] rfl
            refine kc_i (wr := [(h_o, .inr (6, [.ref h_told, .ref h_kept, .ref h_walk, .ref h_trial, .ref h_seas, .ref h_ends, .ref h_otherEnds, .ref h_tape, .ref a_sheets, .int o_hasImage, .int o_walkIsOld, .int o_endsAreOld])), (a_sheets, .inl (cyO, 4, .inr (.inr (.inr (.inr (rowS hs0 hs1 hs2 hs3)))))), (ia0, .inl (cyI, 16, .inl (sh_items 0))), (hs1, .inr (2, [.ref ia1, .int (sh_lane 1), .int (sh_size 1)])), (ia1, .inl (cyI, 16, .inl (sh_items 1))), (hs2, .inr (2, [.ref ia2, .int (sh_lane 2), .int (sh_size 2)])), (ia2, .inl (cyI, 16, .inl (sh_items 2))), (hs3, .inr (2, [.ref ia3, .int (sh_lane 3), .int (sh_size 3)])), (ia3, .inl (cyI, 16, .inl (sh_items 3)))]) (va_runV (As := [.int x3, .int x4]) (rest := []) ⟨hx, hb, hml, hown, hts⟩ (c_X2_has l dC dI cyI cyJ cyO H.size hs0 ia0 (sh_lane 0) (sh_size 0) x3 x4 _ (okb1 hw)) (cwV 2 hts (gdV (fun w h => List.mem_cons_of_mem _ h) q_631 q_632 q_633 q_7 q_634) rfl rfl rfl (by decide +kernel) ⟨Nat.le_of_ble_eq_true rfl, Nat.le_of_ble_eq_true rfl⟩) ⟨(kpre zN_ok hK hPc hDc trivial hS hFc).1, va_recv hK hP (ci := 2) (q0 := 2) rfl rfl, (kpre zN_ok hK hPc hDc trivial hS hFc).2⟩ rfl rfl hl.1 rfl (lv_room (Nat.le_of_ble_eq_true rfl)) dX6_wrongRow_52 ⟨Nat.le_of_ble_eq_true rfl, Nat.le_of_ble_eq_true rfl⟩) hP hD hS hFc [2] [0, 1, 3, 4, 5, 6, 7, 8, 9] rfl rfl (by decide +kernel) (by decide +kernel) (fun r_9 u H locs hw hP hD hS => ?_)
            try dsimp only at hw
            have hP : va_P (dC, dI) vwCl (W_X6_wrongRow cyI cyJ cyO h_o h_told h_kept h_walk h_trial h_seas h_ends h_otherEnds h_tape a_sheets hs0 ia0 hs1 ia1 hs2 ia2 hs3 ia3 o_hasImage o_walkIsOld o_endsAreOld sh_lane sh_size sh_items) H := hP.sub [0, 1, 9, 2, 3, 4, 5, 6, 7, 8] rfl
            have hD : va_D A (W_X6_wrongRow cyI cyJ cyO h_o h_told h_kept h_walk h_trial h_seas h_ends h_otherEnds h_tape a_sheets hs0 ia0 hs1 ia1 hs2 ia2 hs3 ia3 o_hasImage o_walkIsOld o_endsAreOld sh_lane sh_size sh_items) := hD.sub [0, 1, 9, 2, 3, 4, 5, 6, 7, 8] (by decide +kernel) rfl
            clear hPc hDc hFc
            refine lv_if_eq (tgt := 62) hx hb dX6_wrongRow_55 (by decide) (fun c_10 => ?_) (fun c_10 => ?_)
            · replace hw := okT hw c_10
              clear c_10
              refine lv_bipush (v := (-13)) hx hb dX6_wrongRow_62 (by decide) ?_
              rw [hQ]
              exact W.iret (v := (-13)) hx hb hr (fun t ht hW => ⟨⟨(-13), (), rfl, okS hw, by rw [ht]; exact hP, va_K.moved hW.alike hK, hD⟩, hS.F ht⟩) hS.2.2 dX6_wrongRow_64
            · replace hw := okF hw c_10
              clear c_10
              refine lv_iconst (v := 0) hx hb dX6_wrongRow_58 (by decide) ?_
              refine lv_goto (tgt := 64) hx hb dX6_wrongRow_59 (by decide) ?_
              rw [hQ]
              exact W.iret (v := 0) hx hb hr (fun t ht hW => ⟨⟨0, (), rfl, okS hw, by rw [ht]; exact hP, va_K.moved hW.alike hK, hD⟩, hS.F ht⟩) hS.2.2 dX6_wrongRow_64
          · replace hw := okF hw c_8
            clear c_8
            refine lv_bipush (v := (-12)) hx hb dX6_wrongRow_44 (by decide) ?_
            rw [hQ]
            exact W.iret (v := (-12)) hx hb hr (fun t ht hW => ⟨⟨(-12), (), rfl, okS hw, by rw [ht]; exact hP, va_K.moved hW.alike hK, hD⟩, hS.F ht⟩) hS.2.2 dX6_wrongRow_46
        · replace hw := okF hw c_7
          clear c_7
          refine lv_bipush (v := (-11)) hx hb dX6_wrongRow_32 (by decide) ?_
          rw [hQ]
          exact W.iret (v := (-11)) hx hb hr (fun t ht hW => ⟨⟨(-11), (), rfl, okS hw, by rw [ht]; exact hP, va_K.moved hW.alike hK, hD⟩, hS.F ht⟩) hS.2.2 dX6_wrongRow_34
      · refine W.eq (g2 := F0 m 22 ls [.ref hs1]) rfl ?_
        refine lv_astore (lv' := [(5, .ref hs1), (0, .ref h_o), (1, .int x1), (2, .int x2), (3, .int x3), (4, .int x4)]) hx hb dX6_wrongRow_22 hl (by decide) rfl (fun ls hl => ?_)
        refine lv_aload hx hb dX6_wrongRow_24 (lv_at hl 0 rfl) ?_
        have hPc := hP.sub (ws' := (W_X2_isNothing cyI cyJ cyO hs1 ia1 (sh_lane 1) (sh_size 1))) [4] rfl
        have hDc := hD.sub (ws' := (W_X2_isNothing cyI cyJ cyO hs1 ia1 (sh_lane 1) (sh_size 1))) [4] (by decide +kernel) rfl
        have hFc := va_free (wc := (W_X2_isNothing cyI cyJ cyO hs1 ia1 (sh_lane 1) (sh_size 1))) hD hS hA [4] rfl
        refine kc_i (wr := [(h_o, .inr (6, [.ref h_told, .ref h_kept, .ref h_walk, .ref h_trial, .ref h_seas, .ref h_ends, .ref h_otherEnds, .ref h_tape, .ref a_sheets, .int o_hasImage, .int o_walkIsOld, .int o_endsAreOld])), (a_sheets, .inl (cyO, 4, .inr (.inr (.inr (.inr (rowS hs0 hs1 hs2 hs3)))))), (hs0, .inr (2, [.ref ia0, .int (sh_lane 0), .int (sh_size 0)])), (ia0, .inl (cyI, 16, .inl (sh_items 0))), (ia1, .inl (cyI, 16, .inl (sh_items 1))), (hs2, .inr (2, [.ref ia2, .int (sh_lane 2), .int (sh_size 2)])), (ia2, .inl (cyI, 16, .inl (sh_items 2))), (hs3, .inr (2, [.ref ia3, .int (sh_lane 3), .int (sh_size 3)])), (ia3, .inl (cyI, 16, .inl (sh_items 3)))]) (va_runV (As := []) (rest := []) ⟨hx, hb, hml, hown, hts⟩ (c_X2_isNothing l dC dI cyI cyJ cyO H.size hs1 ia1 (sh_lane 1) (sh_size 1) _ (okb1 hw)) (cwV 0 hts (gdV (fun w h => List.mem_cons_of_mem _ h) q_627 q_628 q_629 q_7 q_630) rfl rfl rfl (by decide +kernel) ⟨Nat.le_of_ble_eq_true rfl, Nat.le_of_ble_eq_true rfl⟩) ⟨(kpre zN_ok hK hPc hDc trivial hS hFc).1, va_recv hK hP (ci := 2) (q0 := 4) rfl rfl, (kpre zN_ok hK hPc hDc trivial hS hFc).2⟩ rfl rfl hl.1 rfl (lv_room (Nat.le_of_ble_eq_true rfl)) dX6_wrongRow_26 ⟨Nat.le_of_ble_eq_true rfl, Nat.le_of_ble_eq_true rfl⟩) hP hD hS hFc [4] [0, 1, 2, 3, 5, 6, 7, 8, 9] rfl rfl (by decide +kernel) (by decide +kernel) (fun r_11 u H locs hw hP hD hS => ?_)
        try dsimp only at hw
        have hP : va_P (dC, dI) vwCl (W_X6_wrongRow cyI cyJ cyO h_o h_told h_kept h_walk h_trial h_seas h_ends h_otherEnds h_tape a_sheets hs0 ia0 hs1 ia1 hs2 ia2 hs3 ia3 o_hasImage o_walkIsOld o_endsAreOld sh_lane sh_size sh_items) H := hP.sub [0, 1, 2, 3, 9, 4, 5, 6, 7, 8] rfl
        have hD : va_D A (W_X6_wrongRow cyI cyJ cyO h_o h_told h_kept h_walk h_trial h_seas h_ends h_otherEnds h_tape a_sheets hs0 ia0 hs1 ia1 hs2 ia2 hs3 ia3 o_hasImage o_walkIsOld o_endsAreOld sh_lane sh_size sh_items) := hD.sub [0, 1, 2, 3, 9, 4, 5, 6, 7, 8] (by decide +kernel) rfl
        clear hPc hDc hFc
        refine lv_if_eq (tgt := 35) hx hb dX6_wrongRow_29 (by decide) (fun c_12 => ?_) (fun c_12 => ?_)
        · replace hw := okT hw c_12
          clear c_12
          refine lv_aload hx hb dX6_wrongRow_35 (lv_at hl 0 rfl) ?_
          refine va_get (D := (dC, dI)) (ci := 2) (v := .int (sh_lane 1)) (C := RX2) (T := TX2) (N := 3) hx hb hts hi2 hown hK hP 4 rfl rfl 1 (by decide) hq2 (fun _ h9 => h9) rfl dX6_wrongRow_37 ?_
          refine lv_iload_n hx hb dX6_wrongRow_40 rfl (lv_at hl 3 rfl) ?_
          refine lv_icmp_eq (tgt := 47) hx hb dX6_wrongRow_41 (by decide) (fun c_13 => ?_) (fun c_13 => ?_)
          · replace hw := okT hw c_13
            clear c_13
            refine lv_aload hx hb dX6_wrongRow_47 (lv_at hl 0 rfl) ?_
            refine lv_iload_n hx hb dX6_wrongRow_49 rfl (lv_at hl 4 rfl) ?_
            refine lv_iload hx hb dX6_wrongRow_50 (lv_at hl 5 rfl) ?_
            have hPc := hP.sub (ws' := (W_X2_has cyI cyJ cyO hs1 ia1 (sh_lane 1) (sh_size 1))) [4] rfl
            have hDc := hD.sub (ws' := (W_X2_has cyI cyJ cyO hs1 ia1 (sh_lane 1) (sh_size 1))) [4] (by decide +kernel) rfl
            have hFc := va_free (wc := (W_X2_has cyI cyJ cyO hs1 ia1 (sh_lane 1) (sh_size 1))) hD hS hA [4] rfl
            refine kc_i (wr := [(h_o, .inr (6, [.ref h_told, .ref h_kept, .ref h_walk, .ref h_trial, .ref h_seas, .ref h_ends, .ref h_otherEnds, .ref h_tape, .ref a_sheets, .int o_hasImage, .int o_walkIsOld, .int o_endsAreOld])), (a_sheets, .inl (cyO, 4, .inr (.inr (.inr (.inr (rowS hs0 hs1 hs2 hs3)))))), (hs0, .inr (2, [.ref ia0, .int (sh_lane 0), .int (sh_size 0)])), (ia0, .inl (cyI, 16, .inl (sh_items 0))), (ia1, .inl (cyI, 16, .inl (sh_items 1))), (hs2, .inr (2, [.ref ia2, .int (sh_lane 2), .int (sh_size 2)])), (ia2, .inl (cyI, 16, .inl (sh_items 2))), (hs3, .inr (2, [.ref ia3, .int (sh_lane 3), .int (sh_size 3)])), (ia3, .inl (cyI, 16, .inl (sh_items 3)))]) (va_runV (As := [.int x3, .int x4]) (rest := []) ⟨hx, hb, hml, hown, hts⟩ (c_X2_has l dC dI cyI cyJ cyO H.size hs1 ia1 (sh_lane 1) (sh_size 1) x3 x4 _ (okb1 hw)) (cwV 2 hts (gdV (fun w h => List.mem_cons_of_mem _ h) q_631 q_632 q_633 q_7 q_634) rfl rfl rfl (by decide +kernel) ⟨Nat.le_of_ble_eq_true rfl, Nat.le_of_ble_eq_true rfl⟩) ⟨(kpre zN_ok hK hPc hDc trivial hS hFc).1, va_recv hK hP (ci := 2) (q0 := 4) rfl rfl, (kpre zN_ok hK hPc hDc trivial hS hFc).2⟩ rfl rfl hl.1 rfl (lv_room (Nat.le_of_ble_eq_true rfl)) dX6_wrongRow_52 ⟨Nat.le_of_ble_eq_true rfl, Nat.le_of_ble_eq_true rfl⟩) hP hD hS hFc [4] [0, 1, 2, 3, 5, 6, 7, 8, 9] rfl rfl (by decide +kernel) (by decide +kernel) (fun r_14 u H locs hw hP hD hS => ?_)
            try dsimp only at hw
            have hP : va_P (dC, dI) vwCl (W_X6_wrongRow cyI cyJ cyO h_o h_told h_kept h_walk h_trial h_seas h_ends h_otherEnds h_tape a_sheets hs0 ia0 hs1 ia1 hs2 ia2 hs3 ia3 o_hasImage o_walkIsOld o_endsAreOld sh_lane sh_size sh_items) H := hP.sub [0, 1, 2, 3, 9, 4, 5, 6, 7, 8] rfl
            have hD : va_D A (W_X6_wrongRow cyI cyJ cyO h_o h_told h_kept h_walk h_trial h_seas h_ends h_otherEnds h_tape a_sheets hs0 ia0 hs1 ia1 hs2 ia2 hs3 ia3 o_hasImage o_walkIsOld o_endsAreOld sh_lane sh_size sh_items) := hD.sub [0, 1, 2, 3, 9, 4, 5, 6, 7, 8] (by decide +kernel) rfl
            clear hPc hDc hFc
            refine lv_if_eq (tgt := 62) hx hb dX6_wrongRow_55 (by decide) (fun c_15 => ?_) (fun c_15 => ?_)
            · replace hw := okT hw c_15
              clear c_15
              refine lv_bipush (v := (-13)) hx hb dX6_wrongRow_62 (by decide) ?_
              rw [hQ]
              exact W.iret (v := (-13)) hx hb hr (fun t ht hW => ⟨⟨(-13), (), rfl, okS hw, by rw [ht]; exact hP, va_K.moved hW.alike hK, hD⟩, hS.F ht⟩) hS.2.2 dX6_wrongRow_64
            · replace hw := okF hw c_15
              clear c_15
              refine lv_iconst (v := 0) hx hb dX6_wrongRow_58 (by decide) ?_
              refine lv_goto (tgt := 64) hx hb dX6_wrongRow_59 (by decide) ?_
              rw [hQ]
              exact W.iret (v := 0) hx hb hr (fun t ht hW => ⟨⟨0, (), rfl, okS hw, by rw [ht]; exact hP, va_K.moved hW.alike hK, hD⟩, hS.F ht⟩) hS.2.2 dX6_wrongRow_64
          · replace hw := okF hw c_13
            clear c_13
            refine lv_bipush (v := (-12)) hx hb dX6_wrongRow_44 (by decide) ?_
            rw [hQ]
            exact W.iret (v := (-12)) hx hb hr (fun t ht hW => ⟨⟨(-12), (), rfl, okS hw, by rw [ht]; exact hP, va_K.moved hW.alike hK, hD⟩, hS.F ht⟩) hS.2.2 dX6_wrongRow_46
        · replace hw := okF hw c_12
          clear c_12
          refine lv_bipush (v := (-11)) hx hb dX6_wrongRow_32 (by decide) ?_
          rw [hQ]
          exact W.iret (v := (-11)) hx hb hr (fun t ht hW => ⟨⟨(-11), (), rfl, okS hw, by rw [ht]; exact hP, va_K.moved hW.alike hK, hD⟩, hS.F ht⟩) hS.2.2 dX6_wrongRow_34
      · refine W.eq (g2 := F0 m 22 ls [.ref hs2]) rfl ?_
        refine lv_astore (lv' := [(5, .ref hs2), (0, .ref h_o), (1, .int x1), (2, .int x2), (3, .int x3), (4, .int x4)]) hx hb dX6_wrongRow_22 hl (by decide) rfl (fun ls hl => ?_)
        refine lv_aload hx hb dX6_wrongRow_24 (lv_at hl 0 rfl) ?_
        have hPc := hP.sub (ws' := (W_X2_isNothing cyI cyJ cyO hs2 ia2 (sh_lane 2) (sh_size 2))) [6] rfl
        have hDc := hD.sub (ws' := (W_X2_isNothing cyI cyJ cyO hs2 ia2 (sh_lane 2) (sh_size 2))) [6] (by decide +kernel) rfl
        have hFc := va_free (wc := (W_X2_isNothing cyI cyJ cyO hs2 ia2 (sh_lane 2) (sh_size 2))) hD hS hA [6] rfl
        refine kc_i (wr := [(h_o, .inr (6, [.ref h_told, .ref h_kept, .ref h_walk, .ref h_trial, .ref h_seas, .ref h_ends, .ref h_otherEnds, .ref h_tape, .ref a_sheets, .int o_hasImage, .int o_walkIsOld, .int o_endsAreOld])), (a_sheets, .inl (cyO, 4, .inr (.inr (.inr (.inr (rowS hs0 hs1 hs2 hs3)))))), (hs0, .inr (2, [.ref ia0, .int (sh_lane 0), .int (sh_size 0)])), (ia0, .inl (cyI, 16, .inl (sh_items 0))), (hs1, .inr (2, [.ref ia1, .int (sh_lane 1), .int (sh_size 1)])), (ia1, .inl (cyI, 16, .inl (sh_items 1))), (ia2, .inl (cyI, 16, .inl (sh_items 2))), (hs3, .inr (2, [.ref ia3, .int (sh_lane 3), .int (sh_size 3)])), (ia3, .inl (cyI, 16, .inl (sh_items 3)))]) (va_runV (As := []) (rest := []) ⟨hx, hb, hml, hown, hts⟩ (c_X2_isNothing l dC dI cyI cyJ cyO H.size hs2 ia2 (sh_lane 2) (sh_size 2) _ (okb1 hw)) (cwV 0 hts (gdV (fun w h => List.mem_cons_of_mem _ h) q_627 q_628 q_629 q_7 q_630) rfl rfl rfl (by decide +kernel) ⟨Nat.le_of_ble_eq_true rfl, Nat.le_of_ble_eq_true rfl⟩) ⟨(kpre zN_ok hK hPc hDc trivial hS hFc).1, va_recv hK hP (ci := 2) (q0 := 6) rfl rfl, (kpre zN_ok hK hPc hDc trivial hS hFc).2⟩ rfl rfl hl.1 rfl (lv_room (Nat.le_of_ble_eq_true rfl)) dX6_wrongRow_26 ⟨Nat.le_of_ble_eq_true rfl, Nat.le_of_ble_eq_true rfl⟩) hP hD hS hFc [6] [0, 1, 2, 3, 4, 5, 7, 8, 9] rfl rfl (by decide +kernel) (by decide +kernel) (fun r_16 u H locs hw hP hD hS => ?_)
        try dsimp only at hw
        have hP : va_P (dC, dI) vwCl (W_X6_wrongRow cyI cyJ cyO h_o h_told h_kept h_walk h_trial h_seas h_ends h_otherEnds h_tape a_sheets hs0 ia0 hs1 ia1 hs2 ia2 hs3 ia3 o_hasImage o_walkIsOld o_endsAreOld sh_lane sh_size sh_items) H := hP.sub [0, 1, 2, 3, 4, 5, 9, 6, 7, 8] rfl
        have hD : va_D A (W_X6_wrongRow cyI cyJ cyO h_o h_told h_kept h_walk h_trial h_seas h_ends h_otherEnds h_tape a_sheets hs0 ia0 hs1 ia1 hs2 ia2 hs3 ia3 o_hasImage o_walkIsOld o_endsAreOld sh_lane sh_size sh_items) := hD.sub [0, 1, 2, 3, 4, 5, 9, 6, 7, 8] (by decide +kernel) rfl
        clear hPc hDc hFc
        refine lv_if_eq (tgt := 35) hx hb dX6_wrongRow_29 (by decide) (fun c_17 => ?_) (fun c_17 => ?_)
        · replace hw := okT hw c_17
          clear c_17
          refine lv_aload hx hb dX6_wrongRow_35 (lv_at hl 0 rfl) ?_
          refine va_get (D := (dC, dI)) (ci := 2) (v := .int (sh_lane 2)) (C := RX2) (T := TX2) (N := 3) hx hb hts hi2 hown hK hP 6 rfl rfl 1 (by decide) hq2 (fun _ h9 => h9) rfl dX6_wrongRow_37 ?_
          refine lv_iload_n hx hb dX6_wrongRow_40 rfl (lv_at hl 3 rfl) ?_
          refine lv_icmp_eq (tgt := 47) hx hb dX6_wrongRow_41 (by decide) (fun c_18 => ?_) (fun c_18 => ?_)
          · replace hw := okT hw c_18
            clear c_18
            refine lv_aload hx hb dX6_wrongRow_47 (lv_at hl 0 rfl) ?_
            refine lv_iload_n hx hb dX6_wrongRow_49 rfl (lv_at hl 4 rfl) ?_
            refine lv_iload hx hb dX6_wrongRow_50 (lv_at hl 5 rfl) ?_
            have hPc := hP.sub (ws' := (W_X2_has cyI cyJ cyO hs2 ia2 (sh_lane 2) (sh_size 2))) [6] rfl
            have hDc := hD.sub (ws' := (W_X2_has cyI cyJ cyO hs2 ia2 (sh_lane 2) (sh_size 2))) [6] (by decide +kernel) rfl
            have hFc := va_free (wc := (W_X2_has cyI cyJ cyO hs2 ia2 (sh_lane 2) (sh_size 2))) hD hS hA [6] rfl
            refine kc_i (wr := [(h_o, .inr (6, [.ref h_told, .ref h_kept, .ref h_walk, .ref h_trial, .ref h_seas, .ref h_ends, .ref h_otherEnds, .ref h_tape, .ref a_sheets, .int o_hasImage, .int o_walkIsOld, .int o_endsAreOld])), (a_sheets, .inl (cyO, 4, .inr (.inr (.inr (.inr (rowS hs0 hs1 hs2 hs3)))))), (hs0, .inr (2, [.ref ia0, .int (sh_lane 0), .int (sh_size 0)])), (ia0, .inl (cyI, 16, .inl (sh_items 0))), (hs1, .inr (2, [.ref ia1, .int (sh_lane 1), .int (sh_size 1)])), (ia1, .inl (cyI, 16, .inl (sh_items 1))), (ia2, .inl (cyI, 16, .inl (sh_items 2))), (hs3, .inr (2, [.ref ia3, .int (sh_lane 3), .int (sh_size 3)])), (ia3, .inl (cyI, 16, .inl (sh_items 3)))]) (va_runV (As := [.int x3, .int x4]) (rest := []) ⟨hx, hb, hml, hown, hts⟩ (c_X2_has l dC dI cyI cyJ cyO H.size hs2 ia2 (sh_lane 2) (sh_size 2) x3 x4 _ (okb1 hw)) (cwV 2 hts (gdV (fun w h => List.mem_cons_of_mem _ h) q_631 q_632 q_633 q_7 q_634) rfl rfl rfl (by decide +kernel) ⟨Nat.le_of_ble_eq_true rfl, Nat.le_of_ble_eq_true rfl⟩) ⟨(kpre zN_ok hK hPc hDc trivial hS hFc).1, va_recv hK hP (ci := 2) (q0 := 6) rfl rfl, (kpre zN_ok hK hPc hDc trivial hS hFc).2⟩ rfl rfl hl.1 rfl (lv_room (Nat.le_of_ble_eq_true rfl)) dX6_wrongRow_52 ⟨Nat.le_of_ble_eq_true rfl, Nat.le_of_ble_eq_true rfl⟩) hP hD hS hFc [6] [0, 1, 2, 3, 4, 5, 7, 8, 9] rfl rfl (by decide +kernel) (by decide +kernel) (fun r_19 u H locs hw hP hD hS => ?_)
            try dsimp only at hw
            have hP : va_P (dC, dI) vwCl (W_X6_wrongRow cyI cyJ cyO h_o h_told h_kept h_walk h_trial h_seas h_ends h_otherEnds h_tape a_sheets hs0 ia0 hs1 ia1 hs2 ia2 hs3 ia3 o_hasImage o_walkIsOld o_endsAreOld sh_lane sh_size sh_items) H := hP.sub [0, 1, 2, 3, 4, 5, 9, 6, 7, 8] rfl
            have hD : va_D A (W_X6_wrongRow cyI cyJ cyO h_o h_told h_kept h_walk h_trial h_seas h_ends h_otherEnds h_tape a_sheets hs0 ia0 hs1 ia1 hs2 ia2 hs3 ia3 o_hasImage o_walkIsOld o_endsAreOld sh_lane sh_size sh_items) := hD.sub [0, 1, 2, 3, 4, 5, 9, 6, 7, 8] (by decide +kernel) rfl
            clear hPc hDc hFc
            refine lv_if_eq (tgt := 62) hx hb dX6_wrongRow_55 (by decide) (fun c_20 => ?_) (fun c_20 => ?_)
            · replace hw := okT hw c_20
              clear c_20
              refine lv_bipush (v := (-13)) hx hb dX6_wrongRow_62 (by decide) ?_
              rw [hQ]
              exact W.iret (v := (-13)) hx hb hr (fun t ht hW => ⟨⟨(-13), (), rfl, okS hw, by rw [ht]; exact hP, va_K.moved hW.alike hK, hD⟩, hS.F ht⟩) hS.2.2 dX6_wrongRow_64
            · replace hw := okF hw c_20
              clear c_20
              refine lv_iconst (v := 0) hx hb dX6_wrongRow_58 (by decide) ?_
              refine lv_goto (tgt := 64) hx hb dX6_wrongRow_59 (by decide) ?_
              rw [hQ]
              exact W.iret (v := 0) hx hb hr (fun t ht hW => ⟨⟨0, (), rfl, okS hw, by rw [ht]; exact hP, va_K.moved hW.alike hK, hD⟩, hS.F ht⟩) hS.2.2 dX6_wrongRow_64
          · replace hw := okF hw c_18
            clear c_18
            refine lv_bipush (v := (-12)) hx hb dX6_wrongRow_44 (by decide) ?_
            rw [hQ]
            exact W.iret (v := (-12)) hx hb hr (fun t ht hW => ⟨⟨(-12), (), rfl, okS hw, by rw [ht]; exact hP, va_K.moved hW.alike hK, hD⟩, hS.F ht⟩) hS.2.2 dX6_wrongRow_46
        · replace hw := okF hw c_17
          clear c_17
          refine lv_bipush (v := (-11)) hx hb dX6_wrongRow_32 (by decide) ?_
          rw [hQ]
          exact W.iret (v := (-11)) hx hb hr (fun t ht hW => ⟨⟨(-11), (), rfl, okS hw, by rw [ht]; exact hP, va_K.moved hW.alike hK, hD⟩, hS.F ht⟩) hS.2.2 dX6_wrongRow_34
      · refine W.eq (g2 := F0 m 22 ls [.ref hs3]) rfl ?_
        refine lv_astore (lv' := [(5, .ref hs3), (0, .ref h_o), (1, .int x1), (2, .int x2), (3, .int x3), (4, .int x4)]) hx hb dX6_wrongRow_22 hl (by decide) rfl (fun ls hl => ?_)
        refine lv_aload hx hb dX6_wrongRow_24 (lv_at hl 0 rfl) ?_
        have hPc := hP.sub (ws' := (W_X2_isNothing cyI cyJ cyO hs3 ia3 (sh_lane 3) (sh_size 3))) [8] rfl
        have hDc := hD.sub (ws' := (W_X2_isNothing cyI cyJ cyO hs3 ia3 (sh_lane 3) (sh_size 3))) [8] (by decide +kernel) rfl
        have hFc := va_free (wc := (W_X2_isNothing cyI cyJ cyO hs3 ia3 (sh_lane 3) (sh_size 3))) hD hS hA [8] rfl
        refine kc_i (wr := [(h_o, .inr (6, [.ref h_told, .ref h_kept, .ref h_walk, .ref h_trial, .ref h_seas, .ref h_ends, .ref h_otherEnds, .ref h_tape, .ref a_sheets, .int o_hasImage, .int o_walkIsOld, .int o_endsAreOld])), (a_sheets, .inl (cyO, 4, .inr (.inr (.inr (.inr (rowS hs0 hs1 hs2 hs3)))))), (hs0, .inr (2, [.ref ia0, .int (sh_lane 0), .int (sh_size 0)])), (ia0, .inl (cyI, 16, .inl (sh_items 0))), (hs1, .inr (2, [.ref ia1, .int (sh_lane 1), .int (sh_size 1)])), (ia1, .inl (cyI, 16, .inl (sh_items 1))), (hs2, .inr (2, [.ref ia2, .int (sh_lane 2), .int (sh_size 2)])), (ia2, .inl (cyI, 16, .inl (sh_items 2))), (ia3, .inl (cyI, 16, .inl (sh_items 3)))]) (va_runV (As := []) (rest := []) ⟨hx, hb, hml, hown, hts⟩ (c_X2_isNothing l dC dI cyI cyJ cyO H.size hs3 ia3 (sh_lane 3) (sh_size 3) _ (okb1 hw)) (cwV 0 hts (gdV (fun w h => List.mem_cons_of_mem _ h) q_627 q_628 q_629 q_7 q_630) rfl rfl rfl (by decide +kernel) ⟨Nat.le_of_ble_eq_true rfl, Nat.le_of_ble_eq_true rfl⟩) ⟨(kpre zN_ok hK hPc hDc trivial hS hFc).1, va_recv hK hP (ci := 2) (q0 := 8) rfl rfl, (kpre zN_ok hK hPc hDc trivial hS hFc).2⟩ rfl rfl hl.1 rfl (lv_room (Nat.le_of_ble_eq_true rfl)) dX6_wrongRow_26 ⟨Nat.le_of_ble_eq_true rfl, Nat.le_of_ble_eq_true rfl⟩) hP hD hS hFc [8] [0, 1, 2, 3, 4, 5, 6, 7, 9] rfl rfl (by decide +kernel) (by decide +kernel) (fun r_21 u H locs hw hP hD hS => ?_)
        try dsimp only at hw
        have hP : va_P (dC, dI) vwCl (W_X6_wrongRow cyI cyJ cyO h_o h_told h_kept h_walk h_trial h_seas h_ends h_otherEnds h_tape a_sheets hs0 ia0 hs1 ia1 hs2 ia2 hs3 ia3 o_hasImage o_walkIsOld o_endsAreOld sh_lane sh_size sh_items) H := hP.sub [0, 1, 2, 3, 4, 5, 6, 7, 9, 8] rfl
        have hD : va_D A (W_X6_wrongRow cyI cyJ cyO h_o h_told h_kept h_walk h_trial h_seas h_ends h_otherEnds h_tape a_sheets hs0 ia0 hs1 ia1 hs2 ia2 hs3 ia3 o_hasImage o_walkIsOld o_endsAreOld sh_lane sh_size sh_items) := hD.sub [0, 1, 2, 3, 4, 5, 6, 7, 9, 8] (by decide +kernel) rfl
        clear hPc hDc hFc
        refine lv_if_eq (tgt := 35) hx hb dX6_wrongRow_29 (by decide) (fun c_22 => ?_) (fun c_22 => ?_)
        · replace hw := okT hw c_22
          clear c_22
          refine lv_aload hx hb dX6_wrongRow_35 (lv_at hl 0 rfl) ?_
          refine va_get (D := (dC, dI)) (ci := 2) (v := .int (sh_lane 3)) (C := RX2) (T := TX2) (N := 3) hx hb hts hi2 hown hK hP 8 rfl rfl 1 (by decide) hq2 (fun _ h9 => h9) rfl dX6_wrongRow_37 ?_
          refine lv_iload_n hx hb dX6_wrongRow_40 rfl (lv_at hl 3 rfl) ?_
          refine lv_icmp_eq (tgt := 47) hx hb dX6_wrongRow_41 (by decide) (fun c_23 => ?_) (fun c_23 => ?_)
          · replace hw := okT hw c_23
            clear c_23
            refine lv_aload hx hb dX6_wrongRow_47 (lv_at hl 0 rfl) ?_
            refine lv_iload_n hx hb dX6_wrongRow_49 rfl (lv_at hl 4 rfl) ?_
            refine lv_iload hx hb dX6_wrongRow_50 (lv_at hl 5 rfl) ?_
            have hPc := hP.sub (ws' := (W_X2_has cyI cyJ cyO hs3 ia3 (sh_lane 3) (sh_size 3))) [8] rfl
            have hDc := hD.sub (ws' := (W_X2_has cyI cyJ cyO hs3 ia3 (sh_lane 3) (sh_size 3))) [8] (by decide +kernel) rfl
            have hFc := va_free (wc := (W_X2_has cyI cyJ cyO hs3 ia3 (sh_lane 3) (sh_size 3))) hD hS hA [8] rfl
            refine kc_i (wr := [(h_o, .inr (6, [.ref h_told, .ref h_kept, .ref h_walk, .ref h_trial, .ref h_seas, .ref h_ends, .ref h_otherEnds, .ref h_tape, .ref a_sheets, .int o_hasImage, .int o_walkIsOld, .int o_endsAreOld])), (a_sheets, .inl (cyO, 4, .inr (.inr (.inr (.inr (rowS hs0 hs1 hs2 hs3)))))), (hs0, .inr (2, [.ref ia0, .int (sh_lane 0), .int (sh_size 0)])), (ia0, .inl (cyI, 16, .inl (sh_items 0))), (hs1, .inr (2, [.ref ia1, .int (sh_lane 1), .int (sh_size 1)])), (ia1, .inl (cyI, 16, .inl (sh_items 1))), (hs2, .inr (2, [.ref ia2, .int (sh_lane 2), .int (sh_size 2)])), (ia2, .inl (cyI, 16, .inl (sh_items 2))), (ia3, .inl (cyI, 16, .inl (sh_items 3)))]) (va_runV (As := [.int x3, .int x4]) (rest := []) ⟨hx, hb, hml, hown, hts⟩ (c_X2_has l dC dI cyI cyJ cyO H.size hs3 ia3 (sh_lane 3) (sh_size 3) x3 x4 _ (okb1 hw)) (cwV 2 hts (gdV (fun w h => List.mem_cons_of_mem _ h) q_631 q_632 q_633 q_7 q_634) rfl rfl rfl (by decide +kernel) ⟨Nat.le_of_ble_eq_true rfl, Nat.le_of_ble_eq_true rfl⟩) ⟨(kpre zN_ok hK hPc hDc trivial hS hFc).1, va_recv hK hP (ci := 2) (q0 := 8) rfl rfl, (kpre zN_ok hK hPc hDc trivial hS hFc).2⟩ rfl rfl hl.1 rfl (lv_room (Nat.le_of_ble_eq_true rfl)) dX6_wrongRow_52 ⟨Nat.le_of_ble_eq_true rfl, Nat.le_of_ble_eq_true rfl⟩) hP hD hS hFc [8] [0, 1, 2, 3, 4, 5, 6, 7, 9] rfl rfl (by decide +kernel) (by decide +kernel) (fun r_24 u H locs hw hP hD hS => ?_)
            try dsimp only at hw
            have hP : va_P (dC, dI) vwCl (W_X6_wrongRow cyI cyJ cyO h_o h_told h_kept h_walk h_trial h_seas h_ends h_otherEnds h_tape a_sheets hs0 ia0 hs1 ia1 hs2 ia2 hs3 ia3 o_hasImage o_walkIsOld o_endsAreOld sh_lane sh_size sh_items) H := hP.sub [0, 1, 2, 3, 4, 5, 6, 7, 9, 8] rfl
            have hD : va_D A (W_X6_wrongRow cyI cyJ cyO h_o h_told h_kept h_walk h_trial h_seas h_ends h_otherEnds h_tape a_sheets hs0 ia0 hs1 ia1 hs2 ia2 hs3 ia3 o_hasImage o_walkIsOld o_endsAreOld sh_lane sh_size sh_items) := hD.sub [0, 1, 2, 3, 4, 5, 6, 7, 9, 8] (by decide +kernel) rfl
            clear hPc hDc hFc
            refine lv_if_eq (tgt := 62) hx hb dX6_wrongRow_55 (by decide) (fun c_25 => ?_) (fun c_25 => ?_)
            · replace hw := okT hw c_25
              clear c_25
              refine lv_bipush (v := (-13)) hx hb dX6_wrongRow_62 (by decide) ?_
              rw [hQ]
              exact W.iret (v := (-13)) hx hb hr (fun t ht hW => ⟨⟨(-13), (), rfl, okS hw, by rw [ht]; exact hP, va_K.moved hW.alike hK, hD⟩, hS.F ht⟩) hS.2.2 dX6_wrongRow_64
            · replace hw := okF hw c_25
              clear c_25
              refine lv_iconst (v := 0) hx hb dX6_wrongRow_58 (by decide) ?_
              refine lv_goto (tgt := 64) hx hb dX6_wrongRow_59 (by decide) ?_
              rw [hQ]
              exact W.iret (v := 0) hx hb hr (fun t ht hW => ⟨⟨0, (), rfl, okS hw, by rw [ht]; exact hP, va_K.moved hW.alike hK, hD⟩, hS.F ht⟩) hS.2.2 dX6_wrongRow_64
          · replace hw := okF hw c_23
            clear c_23
            refine lv_bipush (v := (-12)) hx hb dX6_wrongRow_44 (by decide) ?_
            rw [hQ]
            exact W.iret (v := (-12)) hx hb hr (fun t ht hW => ⟨⟨(-12), (), rfl, okS hw, by rw [ht]; exact hP, va_K.moved hW.alike hK, hD⟩, hS.F ht⟩) hS.2.2 dX6_wrongRow_46
        · replace hw := okF hw c_22
          clear c_22
          refine lv_bipush (v := (-11)) hx hb dX6_wrongRow_32 (by decide) ?_
          rw [hQ]
          exact W.iret (v := (-11)) hx hb hr (fun t ht hW => ⟨⟨(-11), (), rfl, okS hw, by rw [ht]; exact hP, va_K.moved hW.alike hK, hD⟩, hS.F ht⟩) hS.2.2 dX6_wrongRow_34
    · replace hw := okT hw c_4
      clear c_4
      refine lv_iconst (v := (-1)) hx hb dX6_wrongRow_14 (by decide) ?_
      rw [hQ]
      exact W.iret (v := (-1)) hx hb hr (fun t ht hW => ⟨⟨(-1), (), rfl, okS hw, by rw [ht]; exact hP, va_K.moved hW.alike hK, hD⟩, hS.F ht⟩) hS.2.2 dX6_wrongRow_15
/-! ===== X6_set ===== -/
theorem dX6_set_0 : decode cX6_set 0 = .ok (.iload_n 1, 1) := by decide +kernel
theorem dX6_set_1 : decode cX6_set 1 = .ok (.iconst 0, 1) := by decide +kernel
theorem dX6_set_2 : decode cX6_set 2 = .ok (.bipush 7, 2) := by decide +kernel
theorem dX6_set_4 : decode cX6_set 4 = .ok (.invokestatic 74, 3) := by decide +kernel
theorem dX6_set_7 : decode cX6_set 7 = .ok (.ifCond .eq 20, 3) := by decide +kernel
theorem dX6_set_10 : decode cX6_set 10 = .ok (.iload_n 2, 1) := by decide +kernel
theorem dX6_set_11 : decode cX6_set 11 = .ok (.getstatic 78, 3) := by decide +kernel
theorem dX6_set_14 : decode cX6_set 14 = .ok (.iload_n 1, 1) := by decide +kernel
theorem dX6_set_15 : decode cX6_set 15 = .ok (.iaload, 1) := by decide +kernel
theorem dX6_set_16 : decode cX6_set 16 = .ok (.getstatic 82, 3) := by decide +kernel
theorem dX6_set_19 : decode cX6_set 19 = .ok (.iload_n 1, 1) := by decide +kernel
theorem dX6_set_20 : decode cX6_set 20 = .ok (.iaload, 1) := by decide +kernel
theorem dX6_set_21 : decode cX6_set 21 = .ok (.invokestatic 74, 3) := by decide +kernel
theorem dX6_set_24 : decode cX6_set 24 = .ok (.ifCond .ne 5, 3) := by decide +kernel
theorem dX6_set_27 : decode cX6_set 27 = .ok (.iconst (-1), 1) := by decide +kernel
theorem dX6_set_28 : decode cX6_set 28 = .ok (.ireturn, 1) := by decide +kernel
theorem dX6_set_29 : decode cX6_set 29 = .ok (.aload_n 0, 1) := by decide +kernel
theorem dX6_set_30 : decode cX6_set 30 = .ok (.getfield 10, 3) := by decide +kernel
theorem dX6_set_33 : decode cX6_set 33 = .ok (.getfield 85, 3) := by decide +kernel
theorem dX6_set_36 : decode cX6_set 36 = .ok (.iload_n 1, 1) := by decide +kernel
theorem dX6_set_37 : decode cX6_set 37 = .ok (.iaload, 1) := by decide +kernel
theorem dX6_set_38 : decode cX6_set 38 = .ok (.istore_n 3, 1) := by decide +kernel
theorem dX6_set_39 : decode cX6_set 39 = .ok (.aload_n 0, 1) := by decide +kernel
theorem dX6_set_40 : decode cX6_set 40 = .ok (.getfield 10, 3) := by decide +kernel
theorem dX6_set_43 : decode cX6_set 43 = .ok (.getfield 85, 3) := by decide +kernel
theorem dX6_set_46 : decode cX6_set 46 = .ok (.iload_n 1, 1) := by decide +kernel
theorem dX6_set_47 : decode cX6_set 47 = .ok (.iload_n 2, 1) := by decide +kernel
theorem dX6_set_48 : decode cX6_set 48 = .ok (.iastore, 1) := by decide +kernel
theorem dX6_set_49 : decode cX6_set 49 = .ok (.iload_n 1, 1) := by decide +kernel
theorem dX6_set_50 : decode cX6_set 50 = .ok (.ifCond .ne 10, 3) := by decide +kernel
theorem dX6_set_53 : decode cX6_set 53 = .ok (.aload_n 0, 1) := by decide +kernel
theorem dX6_set_54 : decode cX6_set 54 = .ok (.getfield 10, 3) := by decide +kernel
theorem dX6_set_57 : decode cX6_set 57 = .ok (.invokevirtual 88, 3) := by decide +kernel
theorem dX6_set_60 : decode cX6_set 60 = .ok (.iload_n 1, 1) := by decide +kernel
theorem dX6_set_61 : decode cX6_set 61 = .ok (.bipush 7, 2) := by decide +kernel
theorem dX6_set_63 : decode cX6_set 63 = .ok (.if_icmp .ne 10, 3) := by decide +kernel
theorem dX6_set_66 : decode cX6_set 66 = .ok (.aload_n 0, 1) := by decide +kernel
theorem dX6_set_67 : decode cX6_set 67 = .ok (.invokevirtual 91, 3) := by decide +kernel
theorem dX6_set_70 : decode cX6_set 70 = .ok (.goto 7, 3) := by decide +kernel
theorem dX6_set_73 : decode cX6_set 73 = .ok (.aload_n 0, 1) := by decide +kernel
theorem dX6_set_74 : decode cX6_set 74 = .ok (.invokevirtual 94, 3) := by decide +kernel
theorem dX6_set_77 : decode cX6_set 77 = .ok (.iload_n 3, 1) := by decide +kernel
theorem dX6_set_78 : decode cX6_set 78 = .ok (.ireturn, 1) := by decide +kernel
abbrev W_X6_set (cyI cyJ cyO : ClassId) (h_o h_told h_seas h_kept h_walk h_trial h_ends h_otherEnds h_tape a_sheets a_told_settings a_told_howFar a_told_tones a_told_currents a_told_warmths a_told_depths a_told_fars a_told_pieceCells a_told_pieceMonths a_told_pieceHighs a_told_pieceAges a_told_pieceNeeds a_told_dragCells a_told_dragEighths a_seas_known : Nat) (o_hasImage : Int32) (o_walkIsOld : Int32) (o_endsAreOld : Int32) (told_pieceCount : Int32) (told_dragCount : Int32) (told_settings : Nat → Int32) (told_fars : Nat → Int32) (seas_known : Nat → Int32) : va_W := [(h_o, .inr (6, [.ref h_told, .ref h_kept, .ref h_walk, .ref h_trial, .ref h_seas, .ref h_ends, .ref h_otherEnds, .ref h_tape, .ref a_sheets, .int o_hasImage, .int o_walkIsOld, .int o_endsAreOld])), (h_told, .inr (4, [.ref a_told_settings, .ref a_told_howFar, .ref a_told_tones, .ref a_told_currents, .ref a_told_warmths, .ref a_told_depths, .ref a_told_fars, .ref a_told_pieceCells, .ref a_told_pieceMonths, .ref a_told_pieceHighs, .ref a_told_pieceAges, .ref a_told_pieceNeeds, .ref a_told_dragCells, .ref a_told_dragEighths, .int told_pieceCount, .int told_dragCount])), (a_told_settings, .inl (cyI, 8, .inl told_settings)), (a_told_fars, .inl (cyI, 100, .inl told_fars)), (h_seas, .inr (1, [.ref h_told, .ref a_seas_known])), (a_seas_known, .inl (cyI, 400, .inl seas_known))]
def f_X6_set_B60 (v1 : Int32) (v3 : Int32) (o_walkIsOld : Int32) (o_endsAreOld : Int32) (told_settings : Nat → Int32) (told_fars : Nat → Int32) (seas_known : Nat → Int32) : Option (Int32 × Int32 × Int32 × (Nat → Int32) × (Nat → Int32) × (Nat → Int32)) :=
  if v1 = 7 then
    bd2 (f_X6_seaChanged o_endsAreOld seas_known) fun w_3 w_4 =>
    some (v3, o_walkIsOld, w_3, told_settings, told_fars, w_4)
  else
    bd2 (f_X6_waysChanged o_walkIsOld o_endsAreOld) fun w_1 w_2 =>
    some (v3, w_1, w_2, told_settings, told_fars, seas_known)
def f_X6_set (x1 : Int32) (x2 : Int32) (o_walkIsOld : Int32) (o_endsAreOld : Int32) (told_settings : Nat → Int32) (told_fars : Nat → Int32) (seas_known : Nat → Int32) : Option (Int32 × Int32 × Int32 × (Nat → Int32) × (Nat → Int32) × (Nat → Int32)) :=
  bd1 (f_X6_within x1 0 7) fun r_5 =>
  if r_5 = 0 then
    some ((-1), o_walkIsOld, o_endsAreOld, told_settings, told_fars, seas_known)
  else
    chk (¬ (x1 < 0 ∨ 8 ≤ x1.toNatClampNeg)) <|
    chk (¬ (x1 < 0 ∨ 8 ≤ x1.toNatClampNeg)) <|
    bd1 (f_X6_within x2 (tabL x1.toNatClampNeg) (tabM x1.toNatClampNeg)) fun r_6 =>
    if r_6 = 0 then
      some ((-1), o_walkIsOld, o_endsAreOld, told_settings, told_fars, seas_known)
    else
      chk (¬ (x1 < 0 ∨ 8 ≤ x1.toNatClampNeg)) <|
      nm (told_settings x1.toNatClampNeg) fun x_7 =>
      chk (¬ (x1 < 0 ∨ 8 ≤ x1.toNatClampNeg)) <|
      if x1 = 0 then
        bd1 (f_X4_look (upd told_settings x1.toNatClampNeg x2) told_fars) fun w_8 =>
        f_X6_set_B60 x1 x_7 o_walkIsOld o_endsAreOld (upd told_settings x1.toNatClampNeg x2) w_8 seas_known
      else
        f_X6_set_B60 x1 x_7 o_walkIsOld o_endsAreOld (upd told_settings x1.toNatClampNeg x2) told_fars seas_known
abbrev rm_X6_set : Room := { frames := 2, cells := 0, slots := 0, locals := 45 }
set_option maxRecDepth 100000 in
set_option maxHeartbeats 4000000 in
theorem c_X6_set (l : Launch) (dC : Nat → ClassId) (dI : Nat → Nat → Nat) (cyI cyJ cyO : ClassId) (sz : Nat) (tD tR tL tM : Nat) (h_o h_told h_seas h_kept h_walk h_trial h_ends h_otherEnds h_tape a_sheets a_told_settings a_told_howFar a_told_tones a_told_currents a_told_warmths a_told_depths a_told_fars a_told_pieceCells a_told_pieceMonths a_told_pieceHighs a_told_pieceAges a_told_pieceNeeds a_told_dragCells a_told_dragEighths a_seas_known : Nat) (o_hasImage : Int32) (o_walkIsOld : Int32) (o_endsAreOld : Int32) (told_pieceCount : Int32) (told_dragCount : Int32) (told_settings : Nat → Int32) (told_fars : Nat → Int32) (seas_known : Nat → Int32) (x1 : Int32) (x2 : Int32) (post : (Int32 × Int32 × Int32 × (Nat → Int32) × (Nat → Int32) × (Nat → Int32)) → Prop) (hf : okP (f_X6_set x1 x2 o_walkIsOld o_endsAreOld told_settings told_fars seas_known) post) : Ci l (dC, dI) (tyL cyI cyJ cyO) yX6_set wsX6_set rm_X6_set [.ref h_o, .int x1, .int x2] sz (W_X6_set cyI cyJ cyO h_o h_told h_seas h_kept h_walk h_trial h_ends h_otherEnds h_tape a_sheets a_told_settings a_told_howFar a_told_tones a_told_currents a_told_warmths a_told_depths a_told_fars a_told_pieceCells a_told_pieceMonths a_told_pieceHighs a_told_pieceAges a_told_pieceNeeds a_told_dragCells a_told_dragEighths a_seas_known o_hasImage o_walkIsOld o_endsAreOld told_pieceCount told_dragCount told_settings told_fars seas_known) (zX tD tR tL tM) (fun r u => post (r, u)) (fun u => (W_X6_set cyI cyJ cyO h_o h_told h_seas h_kept h_walk h_trial h_ends h_otherEnds h_tape a_sheets a_told_settings a_told_howFar a_told_tones a_told_currents a_told_warmths a_told_depths a_told_fars a_told_pieceCells a_told_pieceMonths a_told_pieceHighs a_told_pieceAges a_told_pieceNeeds a_told_dragCells a_told_dragEighths a_seas_known o_hasImage u.1 u.2.1 told_pieceCount told_dragCount u.2.2.1 u.2.2.2.1 u.2.2.2.2)) := by
  refine Met.ofW (cc := cX6_set) (maxL := 4) (ret := (some .int)) (by decide) rfl ?_
  intro p e s m args below meth c s₁ B hml hv
  obtain ⟨rfl, hsz, hP, hK, hD0, hZ⟩ := hv
  have hx := B.exec
  have hb := B.bytes
  have hr := B.returns
  have hts := atoms_spec (ws := wsX6_set) B.pre
  have hown : s.vm.findClass RX6 = some m.cls := findClass_of_methodNamed B.named
  have hlocks := B.notSynchronized
  subst hsz
  have hD := hD0.self (sz := s.heap.size)
  generalize hAe : va_A (W_X6_set cyI cyJ cyO h_o h_told h_seas h_kept h_walk h_trial h_ends h_otherEnds h_tape a_sheets a_told_settings a_told_howFar a_told_tones a_told_currents a_told_warmths a_told_depths a_told_fars a_told_pieceCells a_told_pieceMonths a_told_pieceHighs a_told_pieceAges a_told_pieceNeeds a_told_dragCells a_told_dragEighths a_seas_known o_hasImage o_walkIsOld o_endsAreOld told_pieceCount told_dragCount told_settings told_fars seas_known) s.heap.size = A at hD hZ ⊢
  have hA : ∀ q : Nat, s.heap.size ≤ q → A q := fun q h => by rw [← hAe]; exact Or.inr h
  clear hAe hD0
  have hS : va_S A s.heap s.heap [] := va_S.rf
  have hl := lv_entry ([.ref h_o, .int x1, .int x2]) (n := 4) (Nat.le_of_ble_eq_true rfl)
  rw [lg_entry_eq]
  generalize (lg_sl ([.ref h_o, .int x1, .int x2]) ++ List.replicate (4 - (lg_sl ([.ref h_o, .int x1, .int x2])).length) Slot.unset).toArray = ls at hl ⊢
  have hl : lv_has ls 4 [(0, .ref h_o), (1, .int x1), (2, .int x2)] := hl
  refine kW (fun Q hQ => ?_)
  have hq0 := hts _ (List.mem_cons_of_mem _ q_314)
  have hq1 := hts _ (List.mem_cons_of_mem _ q_316)
  have hq2 := hts _ (List.mem_cons_of_mem _ q_270)
  have hi6 : ∀ w ∈ u_ws RX6 TX6 12, w ∈ wsX6_set := fun w h => List.mem_cons_of_mem _ (inX6 w h)
  have hq4 := hts _ (List.mem_cons_of_mem _ q_33)
  have hi4 : ∀ w ∈ u_ws RX4 TX4 16, w ∈ wsX6_set := fun w h => List.mem_cons_of_mem _ (inX4 w h)
  have hw := hf
  have w60 : ∀ (v1 : Int32) (v3 : Int32) (o_walkIsOld : Int32) (o_endsAreOld : Int32) (told_settings : Nat → Int32) (told_fars : Nat → Int32) (seas_known : Nat → Int32) (H : Heap) (locs : List Loc), va_P (dC, dI) vwCl (W_X6_set cyI cyJ cyO h_o h_told h_seas h_kept h_walk h_trial h_ends h_otherEnds h_tape a_sheets a_told_settings a_told_howFar a_told_tones a_told_currents a_told_warmths a_told_depths a_told_fars a_told_pieceCells a_told_pieceMonths a_told_pieceHighs a_told_pieceAges a_told_pieceNeeds a_told_dragCells a_told_dragEighths a_seas_known o_hasImage o_walkIsOld o_endsAreOld told_pieceCount told_dragCount told_settings told_fars seas_known) H → va_D A (W_X6_set cyI cyJ cyO h_o h_told h_seas h_kept h_walk h_trial h_ends h_otherEnds h_tape a_sheets a_told_settings a_told_howFar a_told_tones a_told_currents a_told_warmths a_told_depths a_told_fars a_told_pieceCells a_told_pieceMonths a_told_pieceHighs a_told_pieceAges a_told_pieceNeeds a_told_dragCells a_told_dragEighths a_seas_known o_hasImage o_walkIsOld o_endsAreOld told_pieceCount told_dragCount told_settings told_fars seas_known) → va_S A s.heap H locs → ∀ (ls : Array Slot), lv_has ls 4 [(0, .ref h_o), (1, .int v1), (3, .int v3)] → okP (f_X6_set_B60 v1 v3 o_walkIsOld o_endsAreOld told_settings told_fars seas_known) post → W p l e (headSpec wsX6_set rm_X6_set).room s m ([.ref h_o, .int x1, .int x2] : List Value).toArray below meth c H locs 0 0 Q (F0 m 60 ls []) := by
    intro v1 v3 o_walkIsOld o_endsAreOld told_settings told_fars seas_known H locs hP hD hS ls hl hw
    unfold f_X6_set_B60 at hw
    refine lv_iload_n hx hb dX6_set_60 rfl (lv_at hl 1 rfl) ?_
    refine lv_bipush (v := 7) hx hb dX6_set_61 (by decide) ?_
    refine lv_icmp_ne (tgt := 73) hx hb dX6_set_63 (by decide) (fun c_1 => ?_) (fun c_1 => ?_)
    · replace hw := okF hw c_1
      clear c_1
      refine lv_aload_n hx hb dX6_set_73 rfl (lv_at hl 0 rfl) ?_
      have hPc := hP.sub (ws' := (W_X6_waysChanged cyI cyJ cyO h_o h_told h_kept h_walk h_trial h_seas h_ends h_otherEnds h_tape a_sheets o_hasImage o_walkIsOld o_endsAreOld)) [0] rfl
      have hDc := hD.sub (ws' := (W_X6_waysChanged cyI cyJ cyO h_o h_told h_kept h_walk h_trial h_seas h_ends h_otherEnds h_tape a_sheets o_hasImage o_walkIsOld o_endsAreOld)) [0] (by decide +kernel) rfl
      have hFc := va_free (wc := (W_X6_waysChanged cyI cyJ cyO h_o h_told h_kept h_walk h_trial h_seas h_ends h_otherEnds h_tape a_sheets o_hasImage o_walkIsOld o_endsAreOld)) hD hS hA [0] rfl
      refine kc_v (wr := [(h_told, .inr (4, [.ref a_told_settings, .ref a_told_howFar, .ref a_told_tones, .ref a_told_currents, .ref a_told_warmths, .ref a_told_depths, .ref a_told_fars, .ref a_told_pieceCells, .ref a_told_pieceMonths, .ref a_told_pieceHighs, .ref a_told_pieceAges, .ref a_told_pieceNeeds, .ref a_told_dragCells, .ref a_told_dragEighths, .int told_pieceCount, .int told_dragCount])), (a_told_settings, .inl (cyI, 8, .inl told_settings)), (a_told_fars, .inl (cyI, 100, .inl told_fars)), (h_seas, .inr (1, [.ref h_told, .ref a_seas_known])), (a_seas_known, .inl (cyI, 400, .inl seas_known))]) (va_runV (As := []) (rest := []) ⟨hx, hb, hml, hown, hts⟩ (c_X6_waysChanged l dC dI cyI cyJ cyO H.size h_o h_told h_kept h_walk h_trial h_seas h_ends h_otherEnds h_tape a_sheets o_hasImage o_walkIsOld o_endsAreOld _ (okb2 hw)) (cwV 0 hts (gdV (fun w h => List.mem_cons_of_mem _ h) q_324 q_326 qs_1 q_1 q_327) rfl rfl rfl (by decide +kernel) ⟨Nat.le_of_ble_eq_true rfl, Nat.le_of_ble_eq_true rfl⟩) ⟨(kpre zN_ok hK hPc hDc trivial hS hFc).1, va_recv hK hP (ci := 6) (q0 := 0) rfl rfl, (kpre zN_ok hK hPc hDc trivial hS hFc).2⟩ rfl rfl hl.1 rfl (lv_room (Nat.le_of_ble_eq_true rfl)) dX6_set_74 ⟨Nat.le_of_ble_eq_true rfl, Nat.le_of_ble_eq_true rfl⟩) hP hD hS hFc [0] [1, 2, 3, 4, 5] rfl rfl (by decide +kernel) (by decide +kernel) (fun u H locs hw hP hD hS => ?_)
      obtain ⟨w_2, w_3⟩ := u
      try dsimp only at hw
      have hP : va_P (dC, dI) vwCl (W_X6_set cyI cyJ cyO h_o h_told h_seas h_kept h_walk h_trial h_ends h_otherEnds h_tape a_sheets a_told_settings a_told_howFar a_told_tones a_told_currents a_told_warmths a_told_depths a_told_fars a_told_pieceCells a_told_pieceMonths a_told_pieceHighs a_told_pieceAges a_told_pieceNeeds a_told_dragCells a_told_dragEighths a_seas_known o_hasImage w_2 w_3 told_pieceCount told_dragCount told_settings told_fars seas_known) H := hP.sub [5, 0, 1, 2, 3, 4] rfl
      have hD : va_D A (W_X6_set cyI cyJ cyO h_o h_told h_seas h_kept h_walk h_trial h_ends h_otherEnds h_tape a_sheets a_told_settings a_told_howFar a_told_tones a_told_currents a_told_warmths a_told_depths a_told_fars a_told_pieceCells a_told_pieceMonths a_told_pieceHighs a_told_pieceAges a_told_pieceNeeds a_told_dragCells a_told_dragEighths a_seas_known o_hasImage w_2 w_3 told_pieceCount told_dragCount told_settings told_fars seas_known) := hD.sub [5, 0, 1, 2, 3, 4] (by decide +kernel) rfl
      clear hPc hDc hFc
      refine lv_iload_n hx hb dX6_set_77 rfl (lv_at hl 2 rfl) ?_
      rw [hQ]
      exact W.iret (v := v3) hx hb hr (fun t ht hW => ⟨⟨v3, (w_2, w_3, told_settings, told_fars, seas_known), rfl, okS hw, by rw [ht]; exact hP, va_K.moved hW.alike hK, hD⟩, hS.F ht⟩) hS.2.2 dX6_set_78
    · replace hw := okT hw c_1
      clear c_1
      refine lv_aload_n hx hb dX6_set_66 rfl (lv_at hl 0 rfl) ?_
      have hPc := hP.sub (ws' := (W_X6_seaChanged cyI cyJ cyO h_o h_seas h_told h_kept h_walk h_trial h_ends h_otherEnds h_tape a_sheets a_seas_known o_hasImage o_walkIsOld o_endsAreOld seas_known)) [0, 4, 5] rfl
      have hDc := hD.sub (ws' := (W_X6_seaChanged cyI cyJ cyO h_o h_seas h_told h_kept h_walk h_trial h_ends h_otherEnds h_tape a_sheets a_seas_known o_hasImage o_walkIsOld o_endsAreOld seas_known)) [0, 4, 5] (by decide +kernel) rfl
      have hFc := va_free (wc := (W_X6_seaChanged cyI cyJ cyO h_o h_seas h_told h_kept h_walk h_trial h_ends h_otherEnds h_tape a_sheets a_seas_known o_hasImage o_walkIsOld o_endsAreOld seas_known)) hD hS hA [0, 4, 5] rfl
      refine kc_v (wr := [(h_told, .inr (4, [.ref a_told_settings, .ref a_told_howFar, .ref a_told_tones, .ref a_told_currents, .ref a_told_warmths, .ref a_told_depths, .ref a_told_fars, .ref a_told_pieceCells, .ref a_told_pieceMonths, .ref a_told_pieceHighs, .ref a_told_pieceAges, .ref a_told_pieceNeeds, .ref a_told_dragCells, .ref a_told_dragEighths, .int told_pieceCount, .int told_dragCount])), (a_told_settings, .inl (cyI, 8, .inl told_settings)), (a_told_fars, .inl (cyI, 100, .inl told_fars))]) (va_runV (As := []) (rest := []) ⟨hx, hb, hml, hown, hts⟩ (c_X6_seaChanged l dC dI cyI cyJ cyO H.size h_o h_seas h_told h_kept h_walk h_trial h_ends h_otherEnds h_tape a_sheets a_seas_known o_hasImage o_walkIsOld o_endsAreOld seas_known _ (okb2 hw)) (cwV 0 hts (gdV (fun w h => List.mem_cons_of_mem _ h) q_319 q_321 qs_0 q_1 q_322) rfl rfl rfl (by decide +kernel) ⟨Nat.le_of_ble_eq_true rfl, Nat.le_of_ble_eq_true rfl⟩) ⟨(kpre zN_ok hK hPc hDc trivial hS hFc).1, va_recv hK hP (ci := 6) (q0 := 0) rfl rfl, (kpre zN_ok hK hPc hDc trivial hS hFc).2⟩ rfl rfl hl.1 rfl (lv_room (Nat.le_of_ble_eq_true rfl)) dX6_set_67 ⟨Nat.le_of_ble_eq_true rfl, Nat.le_of_ble_eq_true rfl⟩) hP hD hS hFc [0, 4, 5] [1, 2, 3] rfl rfl (by decide +kernel) (by decide +kernel) (fun u H locs hw hP hD hS => ?_)
      obtain ⟨w_4, w_5⟩ := u
      try dsimp only at hw
      have hP : va_P (dC, dI) vwCl (W_X6_set cyI cyJ cyO h_o h_told h_seas h_kept h_walk h_trial h_ends h_otherEnds h_tape a_sheets a_told_settings a_told_howFar a_told_tones a_told_currents a_told_warmths a_told_depths a_told_fars a_told_pieceCells a_told_pieceMonths a_told_pieceHighs a_told_pieceAges a_told_pieceNeeds a_told_dragCells a_told_dragEighths a_seas_known o_hasImage o_walkIsOld w_4 told_pieceCount told_dragCount told_settings told_fars w_5) H := hP.sub [3, 0, 1, 2, 4, 5] rfl
      have hD : va_D A (W_X6_set cyI cyJ cyO h_o h_told h_seas h_kept h_walk h_trial h_ends h_otherEnds h_tape a_sheets a_told_settings a_told_howFar a_told_tones a_told_currents a_told_warmths a_told_depths a_told_fars a_told_pieceCells a_told_pieceMonths a_told_pieceHighs a_told_pieceAges a_told_pieceNeeds a_told_dragCells a_told_dragEighths a_seas_known o_hasImage o_walkIsOld w_4 told_pieceCount told_dragCount told_settings told_fars w_5) := hD.sub [3, 0, 1, 2, 4, 5] (by decide +kernel) rfl
      clear hPc hDc hFc
      refine lv_goto (tgt := 77) hx hb dX6_set_70 (by decide) ?_
      refine lv_iload_n hx hb dX6_set_77 rfl (lv_at hl 2 rfl) ?_
      rw [hQ]
      exact W.iret (v := v3) hx hb hr (fun t ht hW => ⟨⟨v3, (o_walkIsOld, w_4, told_settings, told_fars, w_5), rfl, okS hw, by rw [ht]; exact hP, va_K.moved hW.alike hK, hD⟩, hS.F ht⟩) hS.2.2 dX6_set_78
  unfold f_X6_set at hw
  have hP : va_P (dC, dI) vwCl (W_X6_set cyI cyJ cyO h_o h_told h_seas h_kept h_walk h_trial h_ends h_otherEnds h_tape a_sheets a_told_settings a_told_howFar a_told_tones a_told_currents a_told_warmths a_told_depths a_told_fars a_told_pieceCells a_told_pieceMonths a_told_pieceHighs a_told_pieceAges a_told_pieceNeeds a_told_dragCells a_told_dragEighths a_seas_known o_hasImage o_walkIsOld o_endsAreOld told_pieceCount told_dragCount told_settings told_fars seas_known) s.heap := hP
  obtain ⟨H, hH⟩ : ∃ H, H = s.heap := ⟨_, rfl⟩
  obtain ⟨locs, hlo⟩ : ∃ x : List Loc, x = [] := ⟨_, rfl⟩
  have hP : va_P (dC, dI) vwCl (W_X6_set cyI cyJ cyO h_o h_told h_seas h_kept h_walk h_trial h_ends h_otherEnds h_tape a_sheets a_told_settings a_told_howFar a_told_tones a_told_currents a_told_warmths a_told_depths a_told_fars a_told_pieceCells a_told_pieceMonths a_told_pieceHighs a_told_pieceAges a_told_pieceNeeds a_told_dragCells a_told_dragEighths a_seas_known o_hasImage o_walkIsOld o_endsAreOld told_pieceCount told_dragCount told_settings told_fars seas_known) H := by rw [hH]; exact hP
  have hS : va_S A s.heap H locs := by rw [hH, hlo]; exact hS
  refine kH hH hlo ?_
  clear hH hlo
  refine lv_iload_n hx hb dX6_set_0 rfl (lv_at hl 1 rfl) ?_
  refine lv_iconst (v := 0) hx hb dX6_set_1 (by decide) ?_
  refine lv_bipush (v := 7) hx hb dX6_set_2 (by decide) ?_
  have hFc := va_free (wc := []) hD hS hA [] rfl
  refine kp_i (va_runS (As := [.int x1, .int 0, .int 7]) (rest := []) ⟨hx, hb, hml, hown, hts⟩ (c_X6_within l dC dI cyI cyJ cyO H.size x1 0 7 _ (okb1 hw)) (va_cwS 3 hts (gdS (fun w h => List.mem_cons_of_mem _ h) q_311 q_312 q_1 q_313) rfl rfl rfl (by decide +kernel) ⟨Nat.le_of_ble_eq_true rfl, Nat.le_of_ble_eq_true rfl⟩) (kpre zN_ok hK va_P0 va_D0 trivial hS hFc) rfl rfl hl.1 rfl (lv_room (Nat.le_of_ble_eq_true rfl)) dX6_set_4 ⟨Nat.le_of_ble_eq_true rfl, Nat.le_of_ble_eq_true rfl⟩) hP hD hS hFc (fun r_6 H locs hw hP hS => ?_)
  try dsimp only at hw
  clear hFc
  refine lv_if_eq (tgt := 27) hx hb dX6_set_7 (by decide) (fun c_7 => ?_) (fun c_7 => ?_)
  · replace hw := okT hw c_7
    clear c_7
    refine lv_iconst (v := (-1)) hx hb dX6_set_27 (by decide) ?_
    rw [hQ]
    exact W.iret (v := (-1)) hx hb hr (fun t ht hW => ⟨⟨(-1), (o_walkIsOld, o_endsAreOld, told_settings, told_fars, seas_known), rfl, okS hw, by rw [ht]; exact hP, va_K.moved hW.alike hK, hD⟩, hS.F ht⟩) hS.2.2 dX6_set_28
  · replace hw := okF hw c_7
    clear c_7
    refine lv_iload_n hx hb dX6_set_10 rfl (lv_at hl 2 rfl) ?_
    refine va_gets (v := .ref tL) hx hb hZ.2.2.2.2.1 hS hown hq0 (fun _ h9 => h9) dX6_set_11 ?_
    refine lv_iload_n hx hb dX6_set_14 rfl (lv_at hl 1 rfl) ?_
    obtain ⟨h_8, hw⟩ := okC hw
    refine va_ti (v := .int (tabL x1.toNatClampNeg)) hx hb hZ.2.2.2.2.2.1 hS h_8 rfl dX6_set_15 ?_
    refine va_gets (v := .ref tM) hx hb hZ.2.2.2.2.2.2.1 hS hown hq1 (fun _ h9 => h9) dX6_set_16 ?_
    refine lv_iload_n hx hb dX6_set_19 rfl (lv_at hl 1 rfl) ?_
    obtain ⟨h_9, hw⟩ := okC hw
    refine va_ti (v := .int (tabM x1.toNatClampNeg)) hx hb hZ.2.2.2.2.2.2.2.1 hS h_9 rfl dX6_set_20 ?_
    have hFc := va_free (wc := []) hD hS hA [] rfl
    refine kp_i (va_runS (As := [.int x2, .int (tabL x1.toNatClampNeg), .int (tabM x1.toNatClampNeg)]) (rest := []) ⟨hx, hb, hml, hown, hts⟩ (c_X6_within l dC dI cyI cyJ cyO H.size x2 (tabL x1.toNatClampNeg) (tabM x1.toNatClampNeg) _ (okb1 hw)) (va_cwS 3 hts (gdS (fun w h => List.mem_cons_of_mem _ h) q_311 q_312 q_1 q_313) rfl rfl rfl (by decide +kernel) ⟨Nat.le_of_ble_eq_true rfl, Nat.le_of_ble_eq_true rfl⟩) (kpre zN_ok hK va_P0 va_D0 trivial hS hFc) rfl rfl hl.1 rfl (lv_room (Nat.le_of_ble_eq_true rfl)) dX6_set_21 ⟨Nat.le_of_ble_eq_true rfl, Nat.le_of_ble_eq_true rfl⟩) hP hD hS hFc (fun r_10 H locs hw hP hS => ?_)
    try dsimp only at hw
    clear hFc
    refine lv_if_ne (tgt := 29) hx hb dX6_set_24 (by decide) (fun c_11 => ?_) (fun c_11 => ?_)
    · replace hw := okF hw c_11
      clear c_11
      refine lv_aload_n hx hb dX6_set_29 rfl (lv_at hl 0 rfl) ?_
      refine va_get (D := (dC, dI)) (ci := 6) (v := .ref h_told) (C := RX6) (T := TX6) (N := 12) hx hb hts hi6 hown hK hP 0 rfl rfl 0 (by decide) hq2 (fun _ h9 => h9) rfl dX6_set_30 ?_
      refine va_get (D := (dC, dI)) (ci := 4) (v := .ref a_told_settings) (C := RX4) (T := TX4) (N := 16) hx hb hts hi4 hown hK hP 1 rfl rfl 0 (by decide) hq4 (fun _ h9 => h9) rfl dX6_set_33 ?_
      refine lv_iload_n hx hb dX6_set_36 rfl (lv_at hl 1 rfl) ?_
      obtain ⟨h_12, hw⟩ := okC hw
      refine va_iald (i := x1) hx hb hK hP 2 0 rfl rfl h_12 dX6_set_37 ?_
      refine lv_topi (fun x_13 ex_13 => ?_)
      replace hw := okN ex_13 hw
      clear ex_13
      refine lv_istore_n (lv' := [(3, .int x_13), (0, .ref h_o), (1, .int x1), (2, .int x2)]) hx hb dX6_set_38 rfl hl (by decide) rfl (fun ls hl => ?_)
      refine lv_aload_n hx hb dX6_set_39 rfl (lv_at hl 1 rfl) ?_
      refine va_get (D := (dC, dI)) (ci := 6) (v := .ref h_told) (C := RX6) (T := TX6) (N := 12) hx hb hts hi6 hown hK hP 0 rfl rfl 0 (by decide) hq2 (fun _ h9 => h9) rfl dX6_set_40 ?_
      refine va_get (D := (dC, dI)) (ci := 4) (v := .ref a_told_settings) (C := RX4) (T := TX4) (N := 16) hx hb hts hi4 hown hK hP 1 rfl rfl 0 (by decide) hq4 (fun _ h9 => h9) rfl dX6_set_43 ?_
      refine lv_iload_n hx hb dX6_set_46 rfl (lv_at hl 2 rfl) ?_
      refine lv_iload_n hx hb dX6_set_47 rfl (lv_at hl 3 rfl) ?_
      obtain ⟨h_14, hw⟩ := okC hw
      refine va_iast (i := x1) (x := x2) hx hb hK hP hD hS 2 0 rfl rfl h_14 dX6_set_48 (fun H locs hP hD hS => ?_)
      have hP : va_P (dC, dI) vwCl (W_X6_set cyI cyJ cyO h_o h_told h_seas h_kept h_walk h_trial h_ends h_otherEnds h_tape a_sheets a_told_settings a_told_howFar a_told_tones a_told_currents a_told_warmths a_told_depths a_told_fars a_told_pieceCells a_told_pieceMonths a_told_pieceHighs a_told_pieceAges a_told_pieceNeeds a_told_dragCells a_told_dragEighths a_seas_known o_hasImage o_walkIsOld o_endsAreOld told_pieceCount told_dragCount (upd told_settings x1.toNatClampNeg x2) told_fars seas_known) H := hP
      have hD : va_D A (W_X6_set cyI cyJ cyO h_o h_told h_seas h_kept h_walk h_trial h_ends h_otherEnds h_tape a_sheets a_told_settings a_told_howFar a_told_tones a_told_currents a_told_warmths a_told_depths a_told_fars a_told_pieceCells a_told_pieceMonths a_told_pieceHighs a_told_pieceAges a_told_pieceNeeds a_told_dragCells a_told_dragEighths a_seas_known o_hasImage o_walkIsOld o_endsAreOld told_pieceCount told_dragCount (upd told_settings x1.toNatClampNeg x2) told_fars seas_known) := hD
      refine lv_iload_n hx hb dX6_set_49 rfl (lv_at hl 2 rfl) ?_
      refine lv_if_ne (tgt := 60) hx hb dX6_set_50 (by decide) (fun c_15 => ?_) (fun c_15 => ?_)
      · replace hw := okF hw c_15
        clear c_15
        exact w60 x1 x_13 o_walkIsOld o_endsAreOld (upd told_settings x1.toNatClampNeg x2) told_fars seas_known _ _ hP hD hS _ (lv_sub hl [1, 2, 0] rfl) hw
      · replace hw := okT hw c_15
        clear c_15
        refine lv_aload_n hx hb dX6_set_53 rfl (lv_at hl 1 rfl) ?_
        refine va_get (D := (dC, dI)) (ci := 6) (v := .ref h_told) (C := RX6) (T := TX6) (N := 12) hx hb hts hi6 hown hK hP 0 rfl rfl 0 (by decide) hq2 (fun _ h9 => h9) rfl dX6_set_54 ?_
        have hPc := hP.sub (ws' := (W_X4_look cyI cyJ cyO h_told a_told_settings a_told_howFar a_told_tones a_told_currents a_told_warmths a_told_depths a_told_fars a_told_pieceCells a_told_pieceMonths a_told_pieceHighs a_told_pieceAges a_told_pieceNeeds a_told_dragCells a_told_dragEighths told_pieceCount told_dragCount (upd told_settings x1.toNatClampNeg x2) told_fars)) [1, 2, 3] rfl
        have hDc := hD.sub (ws' := (W_X4_look cyI cyJ cyO h_told a_told_settings a_told_howFar a_told_tones a_told_currents a_told_warmths a_told_depths a_told_fars a_told_pieceCells a_told_pieceMonths a_told_pieceHighs a_told_pieceAges a_told_pieceNeeds a_told_dragCells a_told_dragEighths told_pieceCount told_dragCount (upd told_settings x1.toNatClampNeg x2) told_fars)) [1, 2, 3] (by decide +kernel) rfl
        have hFc := va_free (wc := (W_X4_look cyI cyJ cyO h_told a_told_settings a_told_howFar a_told_tones a_told_currents a_told_warmths a_told_depths a_told_fars a_told_pieceCells a_told_pieceMonths a_told_pieceHighs a_told_pieceAges a_told_pieceNeeds a_told_dragCells a_told_dragEighths told_pieceCount told_dragCount (upd told_settings x1.toNatClampNeg x2) told_fars)) hD hS hA [1, 2, 3] rfl
        refine kc_v (wr := [(h_o, .inr (6, [.ref h_told, .ref h_kept, .ref h_walk, .ref h_trial, .ref h_seas, .ref h_ends, .ref h_otherEnds, .ref h_tape, .ref a_sheets, .int o_hasImage, .int o_walkIsOld, .int o_endsAreOld])), (h_seas, .inr (1, [.ref h_told, .ref a_seas_known])), (a_seas_known, .inl (cyI, 400, .inl seas_known))]) (va_runV (As := []) (rest := []) ⟨hx, hb, hml, hown, hts⟩ (c_X4_look l dC dI cyI cyJ cyO H.size h_told a_told_settings a_told_howFar a_told_tones a_told_currents a_told_warmths a_told_depths a_told_fars a_told_pieceCells a_told_pieceMonths a_told_pieceHighs a_told_pieceAges a_told_pieceNeeds a_told_dragCells a_told_dragEighths told_pieceCount told_dragCount (upd told_settings x1.toNatClampNeg x2) told_fars _ (okb1 hw)) (cwV 0 hts (gdV (fun w h => List.mem_cons_of_mem _ h) q_318 q_26 q_27 q_2 q_28) rfl rfl rfl (by decide +kernel) ⟨Nat.le_of_ble_eq_true rfl, Nat.le_of_ble_eq_true rfl⟩) ⟨(kpre zN_ok hK hPc hDc trivial hS hFc).1, va_recv hK hP (ci := 4) (q0 := 1) rfl rfl, (kpre zN_ok hK hPc hDc trivial hS hFc).2⟩ rfl rfl hl.1 rfl (lv_room (Nat.le_of_ble_eq_true rfl)) dX6_set_57 ⟨Nat.le_of_ble_eq_true rfl, Nat.le_of_ble_eq_true rfl⟩) hP hD hS hFc [1, 2, 3] [0, 4, 5] rfl rfl (by decide +kernel) (by decide +kernel) (fun w_16 H locs hw hP hD hS => ?_)
        try dsimp only at hw
        have hP : va_P (dC, dI) vwCl (W_X6_set cyI cyJ cyO h_o h_told h_seas h_kept h_walk h_trial h_ends h_otherEnds h_tape a_sheets a_told_settings a_told_howFar a_told_tones a_told_currents a_told_warmths a_told_depths a_told_fars a_told_pieceCells a_told_pieceMonths a_told_pieceHighs a_told_pieceAges a_told_pieceNeeds a_told_dragCells a_told_dragEighths a_seas_known o_hasImage o_walkIsOld o_endsAreOld told_pieceCount told_dragCount (upd told_settings x1.toNatClampNeg x2) w_16 seas_known) H := hP.sub [0, 3, 4, 5, 1, 2] rfl
        have hD : va_D A (W_X6_set cyI cyJ cyO h_o h_told h_seas h_kept h_walk h_trial h_ends h_otherEnds h_tape a_sheets a_told_settings a_told_howFar a_told_tones a_told_currents a_told_warmths a_told_depths a_told_fars a_told_pieceCells a_told_pieceMonths a_told_pieceHighs a_told_pieceAges a_told_pieceNeeds a_told_dragCells a_told_dragEighths a_seas_known o_hasImage o_walkIsOld o_endsAreOld told_pieceCount told_dragCount (upd told_settings x1.toNatClampNeg x2) w_16 seas_known) := hD.sub [0, 3, 4, 5, 1, 2] (by decide +kernel) rfl
        clear hPc hDc hFc
        exact w60 x1 x_13 o_walkIsOld o_endsAreOld (upd told_settings x1.toNatClampNeg x2) w_16 seas_known _ _ hP hD hS _ (lv_sub hl [1, 2, 0] rfl) hw
    · replace hw := okT hw c_11
      clear c_11
      refine lv_iconst (v := (-1)) hx hb dX6_set_27 (by decide) ?_
      rw [hQ]
      exact W.iret (v := (-1)) hx hb hr (fun t ht hW => ⟨⟨(-1), (o_walkIsOld, o_endsAreOld, told_settings, told_fars, seas_known), rfl, okS hw, by rw [ht]; exact hP, va_K.moved hW.alike hK, hD⟩, hS.F ht⟩) hS.2.2 dX6_set_28
/-! ===== X6_far ===== -/
theorem dX6_far_0 : decode cX6_far 0 = .ok (.iload_n 1, 1) := by decide +kernel
theorem dX6_far_1 : decode cX6_far 1 = .ok (.invokestatic 97, 3) := by decide +kernel
theorem dX6_far_4 : decode cX6_far 4 = .ok (.ifCond .eq 15, 3) := by decide +kernel
theorem dX6_far_7 : decode cX6_far 7 = .ok (.aload_n 0, 1) := by decide +kernel
theorem dX6_far_8 : decode cX6_far 8 = .ok (.getfield 10, 3) := by decide +kernel
theorem dX6_far_11 : decode cX6_far 11 = .ok (.getfield 101, 3) := by decide +kernel
theorem dX6_far_14 : decode cX6_far 14 = .ok (.iload_n 1, 1) := by decide +kernel
theorem dX6_far_15 : decode cX6_far 15 = .ok (.iaload, 1) := by decide +kernel
theorem dX6_far_16 : decode cX6_far 16 = .ok (.goto 4, 3) := by decide +kernel
theorem dX6_far_19 : decode cX6_far 19 = .ok (.iconst (-1), 1) := by decide +kernel
theorem dX6_far_20 : decode cX6_far 20 = .ok (.ireturn, 1) := by decide +kernel
abbrev W_X6_far (cyI cyJ cyO : ClassId) (h_o h_told h_kept h_walk h_trial h_seas h_ends h_otherEnds h_tape a_sheets a_told_settings a_told_howFar a_told_tones a_told_currents a_told_warmths a_told_depths a_told_fars a_told_pieceCells a_told_pieceMonths a_told_pieceHighs a_told_pieceAges a_told_pieceNeeds a_told_dragCells a_told_dragEighths : Nat) (o_hasImage : Int32) (o_walkIsOld : Int32) (o_endsAreOld : Int32) (told_pieceCount : Int32) (told_dragCount : Int32) (told_fars : Nat → Int32) : va_W := [(h_o, .inr (6, [.ref h_told, .ref h_kept, .ref h_walk, .ref h_trial, .ref h_seas, .ref h_ends, .ref h_otherEnds, .ref h_tape, .ref a_sheets, .int o_hasImage, .int o_walkIsOld, .int o_endsAreOld])), (h_told, .inr (4, [.ref a_told_settings, .ref a_told_howFar, .ref a_told_tones, .ref a_told_currents, .ref a_told_warmths, .ref a_told_depths, .ref a_told_fars, .ref a_told_pieceCells, .ref a_told_pieceMonths, .ref a_told_pieceHighs, .ref a_told_pieceAges, .ref a_told_pieceNeeds, .ref a_told_dragCells, .ref a_told_dragEighths, .int told_pieceCount, .int told_dragCount])), (a_told_fars, .inl (cyI, 100, .inl told_fars))]
def f_X6_far (x1 : Int32) (told_fars : Nat → Int32) : Option (Int32) :=
  bd1 (f_X6_isCell x1) fun r_1 =>
  if r_1 = 0 then
    some (-1)
  else
    chk (¬ (x1 < 0 ∨ 100 ≤ x1.toNatClampNeg)) <|
    some (told_fars x1.toNatClampNeg)
abbrev rm_X6_far : Room := { frames := 1, cells := 0, slots := 0, locals := 20 }
set_option maxRecDepth 100000 in
set_option maxHeartbeats 4000000 in
theorem c_X6_far (l : Launch) (dC : Nat → ClassId) (dI : Nat → Nat → Nat) (cyI cyJ cyO : ClassId) (sz : Nat) (h_o h_told h_kept h_walk h_trial h_seas h_ends h_otherEnds h_tape a_sheets a_told_settings a_told_howFar a_told_tones a_told_currents a_told_warmths a_told_depths a_told_fars a_told_pieceCells a_told_pieceMonths a_told_pieceHighs a_told_pieceAges a_told_pieceNeeds a_told_dragCells a_told_dragEighths : Nat) (o_hasImage : Int32) (o_walkIsOld : Int32) (o_endsAreOld : Int32) (told_pieceCount : Int32) (told_dragCount : Int32) (told_fars : Nat → Int32) (x1 : Int32) (post : Int32 → Prop) (hf : okP (f_X6_far x1 told_fars) post) : Ci l (dC, dI) (tyL cyI cyJ cyO) yX6_far wsX6_far rm_X6_far [.ref h_o, .int x1] sz (W_X6_far cyI cyJ cyO h_o h_told h_kept h_walk h_trial h_seas h_ends h_otherEnds h_tape a_sheets a_told_settings a_told_howFar a_told_tones a_told_currents a_told_warmths a_told_depths a_told_fars a_told_pieceCells a_told_pieceMonths a_told_pieceHighs a_told_pieceAges a_told_pieceNeeds a_told_dragCells a_told_dragEighths o_hasImage o_walkIsOld o_endsAreOld told_pieceCount told_dragCount told_fars) zN (fun r (_ : Unit) => post r) (fun _ => (W_X6_far cyI cyJ cyO h_o h_told h_kept h_walk h_trial h_seas h_ends h_otherEnds h_tape a_sheets a_told_settings a_told_howFar a_told_tones a_told_currents a_told_warmths a_told_depths a_told_fars a_told_pieceCells a_told_pieceMonths a_told_pieceHighs a_told_pieceAges a_told_pieceNeeds a_told_dragCells a_told_dragEighths o_hasImage o_walkIsOld o_endsAreOld told_pieceCount told_dragCount told_fars)) := by
  refine Met.ofW (cc := cX6_far) (maxL := 2) (ret := (some .int)) (by decide) rfl ?_
  intro p e s m args below meth c s₁ B hml hv
  obtain ⟨rfl, hsz, hP, hK, hD0, hZ⟩ := hv
  have hx := B.exec
  have hb := B.bytes
  have hr := B.returns
  have hts := atoms_spec (ws := wsX6_far) B.pre
  have hown : s.vm.findClass RX6 = some m.cls := findClass_of_methodNamed B.named
  have hlocks := B.notSynchronized
  subst hsz
  have hD := hD0.self (sz := s.heap.size)
  generalize hAe : va_A (W_X6_far cyI cyJ cyO h_o h_told h_kept h_walk h_trial h_seas h_ends h_otherEnds h_tape a_sheets a_told_settings a_told_howFar a_told_tones a_told_currents a_told_warmths a_told_depths a_told_fars a_told_pieceCells a_told_pieceMonths a_told_pieceHighs a_told_pieceAges a_told_pieceNeeds a_told_dragCells a_told_dragEighths o_hasImage o_walkIsOld o_endsAreOld told_pieceCount told_dragCount told_fars) s.heap.size = A at hD hZ ⊢
  have hA : ∀ q : Nat, s.heap.size ≤ q → A q := fun q h => by rw [← hAe]; exact Or.inr h
  clear hAe hD0
  have hS : va_S A s.heap s.heap [] := va_S.rf
  have hl := lv_entry ([.ref h_o, .int x1]) (n := 2) (Nat.le_of_ble_eq_true rfl)
  rw [lg_entry_eq]
  generalize (lg_sl ([.ref h_o, .int x1]) ++ List.replicate (2 - (lg_sl ([.ref h_o, .int x1])).length) Slot.unset).toArray = ls at hl ⊢
  have hl : lv_has ls 2 [(0, .ref h_o), (1, .int x1)] := hl
  refine kW (fun Q hQ => ?_)
  have hq0 := hts _ (List.mem_cons_of_mem _ q_270)
  have hi6 : ∀ w ∈ u_ws RX6 TX6 12, w ∈ wsX6_far := fun w h => List.mem_cons_of_mem _ (inX6 w h)
  have hq2 := hts _ (List.mem_cons_of_mem _ q_52)
  have hi4 : ∀ w ∈ u_ws RX4 TX4 16, w ∈ wsX6_far := fun w h => List.mem_cons_of_mem _ (inX4 w h)
  have hw := hf
  unfold f_X6_far at hw
  have hP : va_P (dC, dI) vwCl (W_X6_far cyI cyJ cyO h_o h_told h_kept h_walk h_trial h_seas h_ends h_otherEnds h_tape a_sheets a_told_settings a_told_howFar a_told_tones a_told_currents a_told_warmths a_told_depths a_told_fars a_told_pieceCells a_told_pieceMonths a_told_pieceHighs a_told_pieceAges a_told_pieceNeeds a_told_dragCells a_told_dragEighths o_hasImage o_walkIsOld o_endsAreOld told_pieceCount told_dragCount told_fars) s.heap := hP
  obtain ⟨H, hH⟩ : ∃ H, H = s.heap := ⟨_, rfl⟩
  obtain ⟨locs, hlo⟩ : ∃ x : List Loc, x = [] := ⟨_, rfl⟩
  have hP : va_P (dC, dI) vwCl (W_X6_far cyI cyJ cyO h_o h_told h_kept h_walk h_trial h_seas h_ends h_otherEnds h_tape a_sheets a_told_settings a_told_howFar a_told_tones a_told_currents a_told_warmths a_told_depths a_told_fars a_told_pieceCells a_told_pieceMonths a_told_pieceHighs a_told_pieceAges a_told_pieceNeeds a_told_dragCells a_told_dragEighths o_hasImage o_walkIsOld o_endsAreOld told_pieceCount told_dragCount told_fars) H := by rw [hH]; exact hP
  have hS : va_S A s.heap H locs := by rw [hH, hlo]; exact hS
  refine kH hH hlo ?_
  clear hH hlo
  refine lv_iload_n hx hb dX6_far_0 rfl (lv_at hl 1 rfl) ?_
  have hFc := va_free (wc := []) hD hS hA [] rfl
  refine kp_i (va_runS (As := [.int x1]) (rest := []) ⟨hx, hb, hml, hown, hts⟩ (c_X6_isCell l dC dI cyI cyJ cyO H.size x1 _ (okb1 hw)) (va_cwS 1 hts (gdS (fun w h => List.mem_cons_of_mem _ h) q_332 q_333 q_1 q_334) rfl rfl rfl (by decide +kernel) ⟨Nat.le_of_ble_eq_true rfl, Nat.le_of_ble_eq_true rfl⟩) (kpre zN_ok hK va_P0 va_D0 trivial hS hFc) rfl rfl hl.1 rfl (lv_room (Nat.le_of_ble_eq_true rfl)) dX6_far_1 ⟨Nat.le_of_ble_eq_true rfl, Nat.le_of_ble_eq_true rfl⟩) hP hD hS hFc (fun r_1 H locs hw hP hS => ?_)
  try dsimp only at hw
  clear hFc
  refine lv_if_eq (tgt := 19) hx hb dX6_far_4 (by decide) (fun c_2 => ?_) (fun c_2 => ?_)
  · replace hw := okT hw c_2
    clear c_2
    refine lv_iconst (v := (-1)) hx hb dX6_far_19 (by decide) ?_
    rw [hQ]
    exact W.iret (v := (-1)) hx hb hr (fun t ht hW => ⟨⟨(-1), (), rfl, okS hw, by rw [ht]; exact hP, va_K.moved hW.alike hK, hD⟩, hS.F ht⟩) hS.2.2 dX6_far_20
  · replace hw := okF hw c_2
    clear c_2
    refine lv_aload_n hx hb dX6_far_7 rfl (lv_at hl 0 rfl) ?_
    refine va_get (D := (dC, dI)) (ci := 6) (v := .ref h_told) (C := RX6) (T := TX6) (N := 12) hx hb hts hi6 hown hK hP 0 rfl rfl 0 (by decide) hq0 (fun _ h9 => h9) rfl dX6_far_8 ?_
    refine va_get (D := (dC, dI)) (ci := 4) (v := .ref a_told_fars) (C := RX4) (T := TX4) (N := 16) hx hb hts hi4 hown hK hP 1 rfl rfl 6 (by decide) hq2 (fun _ h9 => h9) rfl dX6_far_11 ?_
    refine lv_iload_n hx hb dX6_far_14 rfl (lv_at hl 1 rfl) ?_
    obtain ⟨h_3, hw⟩ := okC hw
    refine va_iald (i := x1) hx hb hK hP 2 0 rfl rfl h_3 dX6_far_15 ?_
    refine lv_goto (tgt := 20) hx hb dX6_far_16 (by decide) ?_
    rw [hQ]
    exact W.iret (v := told_fars x1.toNatClampNeg) hx hb hr (fun t ht hW => ⟨⟨told_fars x1.toNatClampNeg, (), rfl, okS hw, by rw [ht]; exact hP, va_K.moved hW.alike hK, hD⟩, hS.F ht⟩) hS.2.2 dX6_far_20
/-! ===== X6_ring ===== -/
theorem dX6_ring_0 : decode cX6_ring 0 = .ok (.iload_n 1, 1) := by decide +kernel
theorem dX6_ring_1 : decode cX6_ring 1 = .ok (.iconst 1, 1) := by decide +kernel
theorem dX6_ring_2 : decode cX6_ring 2 = .ok (.bipush 6, 2) := by decide +kernel
theorem dX6_ring_4 : decode cX6_ring 4 = .ok (.invokestatic 74, 3) := by decide +kernel
theorem dX6_ring_7 : decode cX6_ring 7 = .ok (.ifCond .eq 12, 3) := by decide +kernel
theorem dX6_ring_10 : decode cX6_ring 10 = .ok (.iload_n 2, 1) := by decide +kernel
theorem dX6_ring_11 : decode cX6_ring 11 = .ok (.iconst 0, 1) := by decide +kernel
theorem dX6_ring_12 : decode cX6_ring 12 = .ok (.iconst 1, 1) := by decide +kernel
theorem dX6_ring_13 : decode cX6_ring 13 = .ok (.invokestatic 74, 3) := by decide +kernel
theorem dX6_ring_16 : decode cX6_ring 16 = .ok (.ifCond .ne 5, 3) := by decide +kernel
theorem dX6_ring_19 : decode cX6_ring 19 = .ok (.iconst (-1), 1) := by decide +kernel
theorem dX6_ring_20 : decode cX6_ring 20 = .ok (.ireturn, 1) := by decide +kernel
theorem dX6_ring_21 : decode cX6_ring 21 = .ok (.iload_n 2, 1) := by decide +kernel
theorem dX6_ring_22 : decode cX6_ring 22 = .ok (.ifCond .ne 16, 3) := by decide +kernel
theorem dX6_ring_25 : decode cX6_ring 25 = .ok (.iload_n 3, 1) := by decide +kernel
theorem dX6_ring_26 : decode cX6_ring 26 = .ok (.iconst (-1), 1) := by decide +kernel
theorem dX6_ring_27 : decode cX6_ring 27 = .ok (.bipush 40, 2) := by decide +kernel
theorem dX6_ring_29 : decode cX6_ring 29 = .ok (.invokestatic 74, 3) := by decide +kernel
theorem dX6_ring_32 : decode cX6_ring 32 = .ok (.ifCond .ne 17, 3) := by decide +kernel
theorem dX6_ring_35 : decode cX6_ring 35 = .ok (.goto 12, 3) := by decide +kernel
theorem dX6_ring_38 : decode cX6_ring 38 = .ok (.iload_n 3, 1) := by decide +kernel
theorem dX6_ring_39 : decode cX6_ring 39 = .ok (.iconst 0, 1) := by decide +kernel
theorem dX6_ring_40 : decode cX6_ring 40 = .ok (.iconst 2, 1) := by decide +kernel
theorem dX6_ring_41 : decode cX6_ring 41 = .ok (.invokestatic 74, 3) := by decide +kernel
theorem dX6_ring_44 : decode cX6_ring 44 = .ok (.ifCond .ne 5, 3) := by decide +kernel
theorem dX6_ring_47 : decode cX6_ring 47 = .ok (.iconst (-1), 1) := by decide +kernel
theorem dX6_ring_48 : decode cX6_ring 48 = .ok (.ireturn, 1) := by decide +kernel
theorem dX6_ring_49 : decode cX6_ring 49 = .ok (.iload_n 2, 1) := by decide +kernel
theorem dX6_ring_50 : decode cX6_ring 50 = .ok (.ifCond .ne 13, 3) := by decide +kernel
theorem dX6_ring_53 : decode cX6_ring 53 = .ok (.aload_n 0, 1) := by decide +kernel
theorem dX6_ring_54 : decode cX6_ring 54 = .ok (.getfield 10, 3) := by decide +kernel
theorem dX6_ring_57 : decode cX6_ring 57 = .ok (.getfield 104, 3) := by decide +kernel
theorem dX6_ring_60 : decode cX6_ring 60 = .ok (.goto 10, 3) := by decide +kernel
theorem dX6_ring_63 : decode cX6_ring 63 = .ok (.aload_n 0, 1) := by decide +kernel
theorem dX6_ring_64 : decode cX6_ring 64 = .ok (.getfield 10, 3) := by decide +kernel
theorem dX6_ring_67 : decode cX6_ring 67 = .ok (.getfield 107, 3) := by decide +kernel
theorem dX6_ring_70 : decode cX6_ring 70 = .ok (.astore 4, 2) := by decide +kernel
theorem dX6_ring_72 : decode cX6_ring 72 = .ok (.aload 4, 2) := by decide +kernel
theorem dX6_ring_74 : decode cX6_ring 74 = .ok (.iload_n 1, 1) := by decide +kernel
theorem dX6_ring_75 : decode cX6_ring 75 = .ok (.iaload, 1) := by decide +kernel
theorem dX6_ring_76 : decode cX6_ring 76 = .ok (.istore 5, 2) := by decide +kernel
theorem dX6_ring_78 : decode cX6_ring 78 = .ok (.aload 4, 2) := by decide +kernel
theorem dX6_ring_80 : decode cX6_ring 80 = .ok (.iload_n 1, 1) := by decide +kernel
theorem dX6_ring_81 : decode cX6_ring 81 = .ok (.iload_n 3, 1) := by decide +kernel
theorem dX6_ring_82 : decode cX6_ring 82 = .ok (.iastore, 1) := by decide +kernel
theorem dX6_ring_83 : decode cX6_ring 83 = .ok (.aload_n 0, 1) := by decide +kernel
theorem dX6_ring_84 : decode cX6_ring 84 = .ok (.invokevirtual 94, 3) := by decide +kernel
theorem dX6_ring_87 : decode cX6_ring 87 = .ok (.bipush 100, 2) := by decide +kernel
theorem dX6_ring_89 : decode cX6_ring 89 = .ok (.iload 5, 2) := by decide +kernel
theorem dX6_ring_91 : decode cX6_ring 91 = .ok (.iadd, 1) := by decide +kernel
theorem dX6_ring_92 : decode cX6_ring 92 = .ok (.ireturn, 1) := by decide +kernel
abbrev W_X6_ring (cyI cyJ cyO : ClassId) (h_o h_told h_kept h_walk h_trial h_seas h_ends h_otherEnds h_tape a_sheets a_told_settings a_told_howFar a_told_tones a_told_currents a_told_warmths a_told_depths a_told_fars a_told_pieceCells a_told_pieceMonths a_told_pieceHighs a_told_pieceAges a_told_pieceNeeds a_told_dragCells a_told_dragEighths : Nat) (o_hasImage : Int32) (o_walkIsOld : Int32) (o_endsAreOld : Int32) (told_pieceCount : Int32) (told_dragCount : Int32) (told_howFar : Nat → Int32) (told_tones : Nat → Int32) : va_W := [(h_o, .inr (6, [.ref h_told, .ref h_kept, .ref h_walk, .ref h_trial, .ref h_seas, .ref h_ends, .ref h_otherEnds, .ref h_tape, .ref a_sheets, .int o_hasImage, .int o_walkIsOld, .int o_endsAreOld])), (h_told, .inr (4, [.ref a_told_settings, .ref a_told_howFar, .ref a_told_tones, .ref a_told_currents, .ref a_told_warmths, .ref a_told_depths, .ref a_told_fars, .ref a_told_pieceCells, .ref a_told_pieceMonths, .ref a_told_pieceHighs, .ref a_told_pieceAges, .ref a_told_pieceNeeds, .ref a_told_dragCells, .ref a_told_dragEighths, .int told_pieceCount, .int told_dragCount])), (a_told_howFar, .inl (cyI, 7, .inl told_howFar)), (a_told_tones, .inl (cyI, 7, .inl told_tones))]
def f_X6_ring_B49 (v1 : Int32) (v2 : Int32) (v3 : Int32) (o_walkIsOld : Int32) (o_endsAreOld : Int32) (told_howFar : Nat → Int32) (told_tones : Nat → Int32) : Option (Int32 × Int32 × Int32 × (Nat → Int32) × (Nat → Int32)) :=
  if v2 = 0 then
    chk (¬ (v1 < 0 ∨ 7 ≤ v1.toNatClampNeg)) <|
    nm (told_howFar v1.toNatClampNeg) fun x_4 =>
    chk (¬ (v1 < 0 ∨ 7 ≤ v1.toNatClampNeg)) <|
    bd2 (f_X6_waysChanged o_walkIsOld o_endsAreOld) fun w_5 w_6 =>
    some (100 + x_4, w_5, w_6, upd told_howFar v1.toNatClampNeg v3, told_tones)
  else
    chk (¬ (v1 < 0 ∨ 7 ≤ v1.toNatClampNeg)) <|
    nm (told_tones v1.toNatClampNeg) fun x_1 =>
    chk (¬ (v1 < 0 ∨ 7 ≤ v1.toNatClampNeg)) <|
    bd2 (f_X6_waysChanged o_walkIsOld o_endsAreOld) fun w_2 w_3 =>
    some (100 + x_1, w_2, w_3, told_howFar, upd told_tones v1.toNatClampNeg v3)
def f_X6_ring (x1 : Int32) (x2 : Int32) (x3 : Int32) (o_walkIsOld : Int32) (o_endsAreOld : Int32) (told_howFar : Nat → Int32) (told_tones : Nat → Int32) : Option (Int32 × Int32 × Int32 × (Nat → Int32) × (Nat → Int32)) :=
  bd1 (f_X6_within x1 1 6) fun r_7 =>
  if r_7 = 0 then
    some ((-1), o_walkIsOld, o_endsAreOld, told_howFar, told_tones)
  else
    bd1 (f_X6_within x2 0 1) fun r_8 =>
    if r_8 = 0 then
      some ((-1), o_walkIsOld, o_endsAreOld, told_howFar, told_tones)
    else
      if x2 = 0 then
        bd1 (f_X6_within x3 (-1) 40) fun r_10 =>
        if r_10 = 0 then
          some ((-1), o_walkIsOld, o_endsAreOld, told_howFar, told_tones)
        else
          f_X6_ring_B49 x1 x2 x3 o_walkIsOld o_endsAreOld told_howFar told_tones
      else
        bd1 (f_X6_within x3 0 2) fun r_9 =>
        if r_9 = 0 then
          some ((-1), o_walkIsOld, o_endsAreOld, told_howFar, told_tones)
        else
          f_X6_ring_B49 x1 x2 x3 o_walkIsOld o_endsAreOld told_howFar told_tones
abbrev rm_X6_ring : Room := { frames := 1, cells := 0, slots := 0, locals := 22 }
set_option maxRecDepth 100000 in
set_option maxHeartbeats 4000000 in
theorem c_X6_ring (l : Launch) (dC : Nat → ClassId) (dI : Nat → Nat → Nat) (cyI cyJ cyO : ClassId) (sz : Nat) (h_o h_told h_kept h_walk h_trial h_seas h_ends h_otherEnds h_tape a_sheets a_told_settings a_told_howFar a_told_tones a_told_currents a_told_warmths a_told_depths a_told_fars a_told_pieceCells a_told_pieceMonths a_told_pieceHighs a_told_pieceAges a_told_pieceNeeds a_told_dragCells a_told_dragEighths : Nat) (o_hasImage : Int32) (o_walkIsOld : Int32) (o_endsAreOld : Int32) (told_pieceCount : Int32) (told_dragCount : Int32) (told_howFar : Nat → Int32) (told_tones : Nat → Int32) (x1 : Int32) (x2 : Int32) (x3 : Int32) (post : (Int32 × Int32 × Int32 × (Nat → Int32) × (Nat → Int32)) → Prop) (hf : okP (f_X6_ring x1 x2 x3 o_walkIsOld o_endsAreOld told_howFar told_tones) post) : Ci l (dC, dI) (tyL cyI cyJ cyO) yX6_ring wsX6_ring rm_X6_ring [.ref h_o, .int x1, .int x2, .int x3] sz (W_X6_ring cyI cyJ cyO h_o h_told h_kept h_walk h_trial h_seas h_ends h_otherEnds h_tape a_sheets a_told_settings a_told_howFar a_told_tones a_told_currents a_told_warmths a_told_depths a_told_fars a_told_pieceCells a_told_pieceMonths a_told_pieceHighs a_told_pieceAges a_told_pieceNeeds a_told_dragCells a_told_dragEighths o_hasImage o_walkIsOld o_endsAreOld told_pieceCount told_dragCount told_howFar told_tones) zN (fun r u => post (r, u)) (fun u => (W_X6_ring cyI cyJ cyO h_o h_told h_kept h_walk h_trial h_seas h_ends h_otherEnds h_tape a_sheets a_told_settings a_told_howFar a_told_tones a_told_currents a_told_warmths a_told_depths a_told_fars a_told_pieceCells a_told_pieceMonths a_told_pieceHighs a_told_pieceAges a_told_pieceNeeds a_told_dragCells a_told_dragEighths o_hasImage u.1 u.2.1 told_pieceCount told_dragCount u.2.2.1 u.2.2.2)) := by
  refine Met.ofW (cc := cX6_ring) (maxL := 6) (ret := (some .int)) (by decide) rfl ?_
  intro p e s m args below meth c s₁ B hml hv
  obtain ⟨rfl, hsz, hP, hK, hD0, hZ⟩ := hv
  have hx := B.exec
  have hb := B.bytes
  have hr := B.returns
  have hts := atoms_spec (ws := wsX6_ring) B.pre
  have hown : s.vm.findClass RX6 = some m.cls := findClass_of_methodNamed B.named
  have hlocks := B.notSynchronized
  subst hsz
  have hD := hD0.self (sz := s.heap.size)
  generalize hAe : va_A (W_X6_ring cyI cyJ cyO h_o h_told h_kept h_walk h_trial h_seas h_ends h_otherEnds h_tape a_sheets a_told_settings a_told_howFar a_told_tones a_told_currents a_told_warmths a_told_depths a_told_fars a_told_pieceCells a_told_pieceMonths a_told_pieceHighs a_told_pieceAges a_told_pieceNeeds a_told_dragCells a_told_dragEighths o_hasImage o_walkIsOld o_endsAreOld told_pieceCount told_dragCount told_howFar told_tones) s.heap.size = A at hD hZ ⊢
  have hA : ∀ q : Nat, s.heap.size ≤ q → A q := fun q h => by rw [← hAe]; exact Or.inr h
  clear hAe hD0
  have hS : va_S A s.heap s.heap [] := va_S.rf
  have hl := lv_entry ([.ref h_o, .int x1, .int x2, .int x3]) (n := 6) (Nat.le_of_ble_eq_true rfl)
  rw [lg_entry_eq]
  generalize (lg_sl ([.ref h_o, .int x1, .int x2, .int x3]) ++ List.replicate (6 - (lg_sl ([.ref h_o, .int x1, .int x2, .int x3])).length) Slot.unset).toArray = ls at hl ⊢
  have hl : lv_has ls 6 [(0, .ref h_o), (1, .int x1), (2, .int x2), (3, .int x3)] := hl
  refine kW (fun Q hQ => ?_)
  have hq0 := hts _ (List.mem_cons_of_mem _ q_270)
  have hi6 : ∀ w ∈ u_ws RX6 TX6 12, w ∈ wsX6_ring := fun w h => List.mem_cons_of_mem _ (inX6 w h)
  have hq2 := hts _ (List.mem_cons_of_mem _ q_41)
  have hi4 : ∀ w ∈ u_ws RX4 TX4 16, w ∈ wsX6_ring := fun w h => List.mem_cons_of_mem _ (inX4 w h)
  have hq4 := hts _ (List.mem_cons_of_mem _ q_38)
  have hw := hf
  have w49 : ∀ (v1 : Int32) (v2 : Int32) (v3 : Int32) (o_walkIsOld : Int32) (o_endsAreOld : Int32) (told_howFar : Nat → Int32) (told_tones : Nat → Int32) (H : Heap) (locs : List Loc), va_P (dC, dI) vwCl (W_X6_ring cyI cyJ cyO h_o h_told h_kept h_walk h_trial h_seas h_ends h_otherEnds h_tape a_sheets a_told_settings a_told_howFar a_told_tones a_told_currents a_told_warmths a_told_depths a_told_fars a_told_pieceCells a_told_pieceMonths a_told_pieceHighs a_told_pieceAges a_told_pieceNeeds a_told_dragCells a_told_dragEighths o_hasImage o_walkIsOld o_endsAreOld told_pieceCount told_dragCount told_howFar told_tones) H → va_D A (W_X6_ring cyI cyJ cyO h_o h_told h_kept h_walk h_trial h_seas h_ends h_otherEnds h_tape a_sheets a_told_settings a_told_howFar a_told_tones a_told_currents a_told_warmths a_told_depths a_told_fars a_told_pieceCells a_told_pieceMonths a_told_pieceHighs a_told_pieceAges a_told_pieceNeeds a_told_dragCells a_told_dragEighths o_hasImage o_walkIsOld o_endsAreOld told_pieceCount told_dragCount told_howFar told_tones) → va_S A s.heap H locs → ∀ (ls : Array Slot), lv_has ls 6 [(0, .ref h_o), (1, .int v1), (2, .int v2), (3, .int v3)] → okP (f_X6_ring_B49 v1 v2 v3 o_walkIsOld o_endsAreOld told_howFar told_tones) post → W p l e (headSpec wsX6_ring rm_X6_ring).room s m ([.ref h_o, .int x1, .int x2, .int x3] : List Value).toArray below meth c H locs 0 0 Q (F0 m 49 ls []) := by
    intro v1 v2 v3 o_walkIsOld o_endsAreOld told_howFar told_tones H locs hP hD hS ls hl hw
    unfold f_X6_ring_B49 at hw
    refine lv_iload_n hx hb dX6_ring_49 rfl (lv_at hl 2 rfl) ?_
    refine lv_if_ne (tgt := 63) hx hb dX6_ring_50 (by decide) (fun c_1 => ?_) (fun c_1 => ?_)
    · replace hw := okF hw c_1
      clear c_1
      refine lv_aload_n hx hb dX6_ring_63 rfl (lv_at hl 0 rfl) ?_
      refine va_get (D := (dC, dI)) (ci := 6) (v := .ref h_told) (C := RX6) (T := TX6) (N := 12) hx hb hts hi6 hown hK hP 0 rfl rfl 0 (by decide) hq0 (fun _ h9 => h9) rfl dX6_ring_64 ?_
      refine va_get (D := (dC, dI)) (ci := 4) (v := .ref a_told_tones) (C := RX4) (T := TX4) (N := 16) hx hb hts hi4 hown hK hP 1 rfl rfl 2 (by decide) hq2 (fun _ h9 => h9) rfl dX6_ring_67 ?_
      refine lv_astore (lv' := [(4, .ref a_told_tones), (0, .ref h_o), (1, .int v1), (2, .int v2), (3, .int v3)]) hx hb dX6_ring_70 hl (by decide) rfl (fun ls hl => ?_)
      refine lv_aload hx hb dX6_ring_72 (lv_at hl 0 rfl) ?_
      refine lv_iload_n hx hb dX6_ring_74 rfl (lv_at hl 2 rfl) ?_
      obtain ⟨h_2, hw⟩ := okC hw
      refine va_iald (i := v1) hx hb hK hP 3 0 rfl rfl h_2 dX6_ring_75 ?_
      refine lv_topi (fun x_3 ex_3 => ?_)
      replace hw := okN ex_3 hw
      clear ex_3
      refine lv_istore (lv' := [(5, .int x_3), (4, .ref a_told_tones), (0, .ref h_o), (1, .int v1), (2, .int v2), (3, .int v3)]) hx hb dX6_ring_76 hl (by decide) rfl (fun ls hl => ?_)
      refine lv_aload hx hb dX6_ring_78 (lv_at hl 1 rfl) ?_
      refine lv_iload_n hx hb dX6_ring_80 rfl (lv_at hl 3 rfl) ?_
      refine lv_iload_n hx hb dX6_ring_81 rfl (lv_at hl 5 rfl) ?_
      obtain ⟨h_4, hw⟩ := okC hw
      refine va_iast (i := v1) (x := v3) hx hb hK hP hD hS 3 0 rfl rfl h_4 dX6_ring_82 (fun H locs hP hD hS => ?_)
      have hP : va_P (dC, dI) vwCl (W_X6_ring cyI cyJ cyO h_o h_told h_kept h_walk h_trial h_seas h_ends h_otherEnds h_tape a_sheets a_told_settings a_told_howFar a_told_tones a_told_currents a_told_warmths a_told_depths a_told_fars a_told_pieceCells a_told_pieceMonths a_told_pieceHighs a_told_pieceAges a_told_pieceNeeds a_told_dragCells a_told_dragEighths o_hasImage o_walkIsOld o_endsAreOld told_pieceCount told_dragCount told_howFar (upd told_tones v1.toNatClampNeg v3)) H := hP
      have hD : va_D A (W_X6_ring cyI cyJ cyO h_o h_told h_kept h_walk h_trial h_seas h_ends h_otherEnds h_tape a_sheets a_told_settings a_told_howFar a_told_tones a_told_currents a_told_warmths a_told_depths a_told_fars a_told_pieceCells a_told_pieceMonths a_told_pieceHighs a_told_pieceAges a_told_pieceNeeds a_told_dragCells a_told_dragEighths o_hasImage o_walkIsOld o_endsAreOld told_pieceCount told_dragCount told_howFar (upd told_tones v1.toNatClampNeg v3)) := hD
      refine lv_aload_n hx hb dX6_ring_83 rfl (lv_at hl 2 rfl) ?_
      have hPc := hP.sub (ws' := (W_X6_waysChanged cyI cyJ cyO h_o h_told h_kept h_walk h_trial h_seas h_ends h_otherEnds h_tape a_sheets o_hasImage o_walkIsOld o_endsAreOld)) [0] rfl
      have hDc := hD.sub (ws' := (W_X6_waysChanged cyI cyJ cyO h_o h_told h_kept h_walk h_trial h_seas h_ends h_otherEnds h_tape a_sheets o_hasImage o_walkIsOld o_endsAreOld)) [0] (by decide +kernel) rfl
      have hFc := va_free (wc := (W_X6_waysChanged cyI cyJ cyO h_o h_told h_kept h_walk h_trial h_seas h_ends h_otherEnds h_tape a_sheets o_hasImage o_walkIsOld o_endsAreOld)) hD hS hA [0] rfl
      refine kc_v (wr := [(h_told, .inr (4, [.ref a_told_settings, .ref a_told_howFar, .ref a_told_tones, .ref a_told_currents, .ref a_told_warmths, .ref a_told_depths, .ref a_told_fars, .ref a_told_pieceCells, .ref a_told_pieceMonths, .ref a_told_pieceHighs, .ref a_told_pieceAges, .ref a_told_pieceNeeds, .ref a_told_dragCells, .ref a_told_dragEighths, .int told_pieceCount, .int told_dragCount])), (a_told_howFar, .inl (cyI, 7, .inl told_howFar)), (a_told_tones, .inl (cyI, 7, .inl (upd told_tones v1.toNatClampNeg v3)))]) (va_runV (As := []) (rest := []) ⟨hx, hb, hml, hown, hts⟩ (c_X6_waysChanged l dC dI cyI cyJ cyO H.size h_o h_told h_kept h_walk h_trial h_seas h_ends h_otherEnds h_tape a_sheets o_hasImage o_walkIsOld o_endsAreOld _ (okb2 hw)) (cwV 0 hts (gdV (fun w h => List.mem_cons_of_mem _ h) q_324 q_326 qs_1 q_1 q_327) rfl rfl rfl (by decide +kernel) ⟨Nat.le_of_ble_eq_true rfl, Nat.le_of_ble_eq_true rfl⟩) ⟨(kpre zN_ok hK hPc hDc trivial hS hFc).1, va_recv hK hP (ci := 6) (q0 := 0) rfl rfl, (kpre zN_ok hK hPc hDc trivial hS hFc).2⟩ rfl rfl hl.1 rfl (lv_room (Nat.le_of_ble_eq_true rfl)) dX6_ring_84 ⟨Nat.le_of_ble_eq_true rfl, Nat.le_of_ble_eq_true rfl⟩) hP hD hS hFc [0] [1, 2, 3] rfl rfl (by decide +kernel) (by decide +kernel) (fun u H locs hw hP hD hS => ?_)
      obtain ⟨w_5, w_6⟩ := u
      try dsimp only at hw
      have hP : va_P (dC, dI) vwCl (W_X6_ring cyI cyJ cyO h_o h_told h_kept h_walk h_trial h_seas h_ends h_otherEnds h_tape a_sheets a_told_settings a_told_howFar a_told_tones a_told_currents a_told_warmths a_told_depths a_told_fars a_told_pieceCells a_told_pieceMonths a_told_pieceHighs a_told_pieceAges a_told_pieceNeeds a_told_dragCells a_told_dragEighths o_hasImage w_5 w_6 told_pieceCount told_dragCount told_howFar (upd told_tones v1.toNatClampNeg v3)) H := hP.sub [3, 0, 1, 2] rfl
      have hD : va_D A (W_X6_ring cyI cyJ cyO h_o h_told h_kept h_walk h_trial h_seas h_ends h_otherEnds h_tape a_sheets a_told_settings a_told_howFar a_told_tones a_told_currents a_told_warmths a_told_depths a_told_fars a_told_pieceCells a_told_pieceMonths a_told_pieceHighs a_told_pieceAges a_told_pieceNeeds a_told_dragCells a_told_dragEighths o_hasImage w_5 w_6 told_pieceCount told_dragCount told_howFar (upd told_tones v1.toNatClampNeg v3)) := hD.sub [3, 0, 1, 2] (by decide +kernel) rfl
      clear hPc hDc hFc
      refine lv_bipush (v := 100) hx hb dX6_ring_87 (by decide) ?_
      refine lv_iload hx hb dX6_ring_89 (lv_at hl 0 rfl) ?_
      refine lv_iadd hx hb dX6_ring_91 ?_
      rw [hQ]
      exact W.iret (v := 100 + x_3) hx hb hr (fun t ht hW => ⟨⟨100 + x_3, (w_5, w_6, told_howFar, upd told_tones v1.toNatClampNeg v3), rfl, okS hw, by rw [ht]; exact hP, va_K.moved hW.alike hK, hD⟩, hS.F ht⟩) hS.2.2 dX6_ring_92
    · replace hw := okT hw c_1
      clear c_1
      refine lv_aload_n hx hb dX6_ring_53 rfl (lv_at hl 0 rfl) ?_
      refine va_get (D := (dC, dI)) (ci := 6) (v := .ref h_told) (C := RX6) (T := TX6) (N := 12) hx hb hts hi6 hown hK hP 0 rfl rfl 0 (by decide) hq0 (fun _ h9 => h9) rfl dX6_ring_54 ?_
      refine va_get (D := (dC, dI)) (ci := 4) (v := .ref a_told_howFar) (C := RX4) (T := TX4) (N := 16) hx hb hts hi4 hown hK hP 1 rfl rfl 1 (by decide) hq4 (fun _ h9 => h9) rfl dX6_ring_57 ?_
      refine lv_goto (tgt := 70) hx hb dX6_ring_60 (by decide) ?_
      refine lv_astore (lv' := [(4, .ref a_told_howFar), (0, .ref h_o), (1, .int v1), (2, .int v2), (3, .int v3)]) hx hb dX6_ring_70 hl (by decide) rfl (fun ls hl => ?_)
      refine lv_aload hx hb dX6_ring_72 (lv_at hl 0 rfl) ?_
      refine lv_iload_n hx hb dX6_ring_74 rfl (lv_at hl 2 rfl) ?_
      obtain ⟨h_7, hw⟩ := okC hw
      refine va_iald (i := v1) hx hb hK hP 2 0 rfl rfl h_7 dX6_ring_75 ?_
      refine lv_topi (fun x_8 ex_8 => ?_)
      replace hw := okN ex_8 hw
      clear ex_8
      refine lv_istore (lv' := [(5, .int x_8), (4, .ref a_told_howFar), (0, .ref h_o), (1, .int v1), (2, .int v2), (3, .int v3)]) hx hb dX6_ring_76 hl (by decide) rfl (fun ls hl => ?_)
      refine lv_aload hx hb dX6_ring_78 (lv_at hl 1 rfl) ?_
      refine lv_iload_n hx hb dX6_ring_80 rfl (lv_at hl 3 rfl) ?_
      refine lv_iload_n hx hb dX6_ring_81 rfl (lv_at hl 5 rfl) ?_
      obtain ⟨h_9, hw⟩ := okC hw
      refine va_iast (i := v1) (x := v3) hx hb hK hP hD hS 2 0 rfl rfl h_9 dX6_ring_82 (fun H locs hP hD hS => ?_)
      have hP : va_P (dC, dI) vwCl (W_X6_ring cyI cyJ cyO h_o h_told h_kept h_walk h_trial h_seas h_ends h_otherEnds h_tape a_sheets a_told_settings a_told_howFar a_told_tones a_told_currents a_told_warmths a_told_depths a_told_fars a_told_pieceCells a_told_pieceMonths a_told_pieceHighs a_told_pieceAges a_told_pieceNeeds a_told_dragCells a_told_dragEighths o_hasImage o_walkIsOld o_endsAreOld told_pieceCount told_dragCount (upd told_howFar v1.toNatClampNeg v3) told_tones) H := hP
      have hD : va_D A (W_X6_ring cyI cyJ cyO h_o h_told h_kept h_walk h_trial h_seas h_ends h_otherEnds h_tape a_sheets a_told_settings a_told_howFar a_told_tones a_told_currents a_told_warmths a_told_depths a_told_fars a_told_pieceCells a_told_pieceMonths a_told_pieceHighs a_told_pieceAges a_told_pieceNeeds a_told_dragCells a_told_dragEighths o_hasImage o_walkIsOld o_endsAreOld told_pieceCount told_dragCount (upd told_howFar v1.toNatClampNeg v3) told_tones) := hD
      refine lv_aload_n hx hb dX6_ring_83 rfl (lv_at hl 2 rfl) ?_
      have hPc := hP.sub (ws' := (W_X6_waysChanged cyI cyJ cyO h_o h_told h_kept h_walk h_trial h_seas h_ends h_otherEnds h_tape a_sheets o_hasImage o_walkIsOld o_endsAreOld)) [0] rfl
      have hDc := hD.sub (ws' := (W_X6_waysChanged cyI cyJ cyO h_o h_told h_kept h_walk h_trial h_seas h_ends h_otherEnds h_tape a_sheets o_hasImage o_walkIsOld o_endsAreOld)) [0] (by decide +kernel) rfl
      have hFc := va_free (wc := (W_X6_waysChanged cyI cyJ cyO h_o h_told h_kept h_walk h_trial h_seas h_ends h_otherEnds h_tape a_sheets o_hasImage o_walkIsOld o_endsAreOld)) hD hS hA [0] rfl
      refine kc_v (wr := [(h_told, .inr (4, [.ref a_told_settings, .ref a_told_howFar, .ref a_told_tones, .ref a_told_currents, .ref a_told_warmths, .ref a_told_depths, .ref a_told_fars, .ref a_told_pieceCells, .ref a_told_pieceMonths, .ref a_told_pieceHighs, .ref a_told_pieceAges, .ref a_told_pieceNeeds, .ref a_told_dragCells, .ref a_told_dragEighths, .int told_pieceCount, .int told_dragCount])), (a_told_howFar, .inl (cyI, 7, .inl (upd told_howFar v1.toNatClampNeg v3))), (a_told_tones, .inl (cyI, 7, .inl told_tones))]) (va_runV (As := []) (rest := []) ⟨hx, hb, hml, hown, hts⟩ (c_X6_waysChanged l dC dI cyI cyJ cyO H.size h_o h_told h_kept h_walk h_trial h_seas h_ends h_otherEnds h_tape a_sheets o_hasImage o_walkIsOld o_endsAreOld _ (okb2 hw)) (cwV 0 hts (gdV (fun w h => List.mem_cons_of_mem _ h) q_324 q_326 qs_1 q_1 q_327) rfl rfl rfl (by decide +kernel) ⟨Nat.le_of_ble_eq_true rfl, Nat.le_of_ble_eq_true rfl⟩) ⟨(kpre zN_ok hK hPc hDc trivial hS hFc).1, va_recv hK hP (ci := 6) (q0 := 0) rfl rfl, (kpre zN_ok hK hPc hDc trivial hS hFc).2⟩ rfl rfl hl.1 rfl (lv_room (Nat.le_of_ble_eq_true rfl)) dX6_ring_84 ⟨Nat.le_of_ble_eq_true rfl, Nat.le_of_ble_eq_true rfl⟩) hP hD hS hFc [0] [1, 2, 3] rfl rfl (by decide +kernel) (by decide +kernel) (fun u H locs hw hP hD hS => ?_)
      obtain ⟨w_10, w_11⟩ := u
      try dsimp only at hw
      have hP : va_P (dC, dI) vwCl (W_X6_ring cyI cyJ cyO h_o h_told h_kept h_walk h_trial h_seas h_ends h_otherEnds h_tape a_sheets a_told_settings a_told_howFar a_told_tones a_told_currents a_told_warmths a_told_depths a_told_fars a_told_pieceCells a_told_pieceMonths a_told_pieceHighs a_told_pieceAges a_told_pieceNeeds a_told_dragCells a_told_dragEighths o_hasImage w_10 w_11 told_pieceCount told_dragCount (upd told_howFar v1.toNatClampNeg v3) told_tones) H := hP.sub [3, 0, 1, 2] rfl
      have hD : va_D A (W_X6_ring cyI cyJ cyO h_o h_told h_kept h_walk h_trial h_seas h_ends h_otherEnds h_tape a_sheets a_told_settings a_told_howFar a_told_tones a_told_currents a_told_warmths a_told_depths a_told_fars a_told_pieceCells a_told_pieceMonths a_told_pieceHighs a_told_pieceAges a_told_pieceNeeds a_told_dragCells a_told_dragEighths o_hasImage w_10 w_11 told_pieceCount told_dragCount (upd told_howFar v1.toNatClampNeg v3) told_tones) := hD.sub [3, 0, 1, 2] (by decide +kernel) rfl
      clear hPc hDc hFc
      refine lv_bipush (v := 100) hx hb dX6_ring_87 (by decide) ?_
      refine lv_iload hx hb dX6_ring_89 (lv_at hl 0 rfl) ?_
      refine lv_iadd hx hb dX6_ring_91 ?_
      rw [hQ]
      exact W.iret (v := 100 + x_8) hx hb hr (fun t ht hW => ⟨⟨100 + x_8, (w_10, w_11, upd told_howFar v1.toNatClampNeg v3, told_tones), rfl, okS hw, by rw [ht]; exact hP, va_K.moved hW.alike hK, hD⟩, hS.F ht⟩) hS.2.2 dX6_ring_92
  unfold f_X6_ring at hw
  have hP : va_P (dC, dI) vwCl (W_X6_ring cyI cyJ cyO h_o h_told h_kept h_walk h_trial h_seas h_ends h_otherEnds h_tape a_sheets a_told_settings a_told_howFar a_told_tones a_told_currents a_told_warmths a_told_depths a_told_fars a_told_pieceCells a_told_pieceMonths a_told_pieceHighs a_told_pieceAges a_told_pieceNeeds a_told_dragCells a_told_dragEighths o_hasImage o_walkIsOld o_endsAreOld told_pieceCount told_dragCount told_howFar told_tones) s.heap := hP
  obtain ⟨H, hH⟩ : ∃ H, H = s.heap := ⟨_, rfl⟩
  obtain ⟨locs, hlo⟩ : ∃ x : List Loc, x = [] := ⟨_, rfl⟩
  have hP : va_P (dC, dI) vwCl (W_X6_ring cyI cyJ cyO h_o h_told h_kept h_walk h_trial h_seas h_ends h_otherEnds h_tape a_sheets a_told_settings a_told_howFar a_told_tones a_told_currents a_told_warmths a_told_depths a_told_fars a_told_pieceCells a_told_pieceMonths a_told_pieceHighs a_told_pieceAges a_told_pieceNeeds a_told_dragCells a_told_dragEighths o_hasImage o_walkIsOld o_endsAreOld told_pieceCount told_dragCount told_howFar told_tones) H := by rw [hH]; exact hP
  have hS : va_S A s.heap H locs := by rw [hH, hlo]; exact hS
  refine kH hH hlo ?_
  clear hH hlo
  refine lv_iload_n hx hb dX6_ring_0 rfl (lv_at hl 1 rfl) ?_
  refine lv_iconst (v := 1) hx hb dX6_ring_1 (by decide) ?_
  refine lv_bipush (v := 6) hx hb dX6_ring_2 (by decide) ?_
  have hFc := va_free (wc := []) hD hS hA [] rfl
  refine kp_i (va_runS (As := [.int x1, .int 1, .int 6]) (rest := []) ⟨hx, hb, hml, hown, hts⟩ (c_X6_within l dC dI cyI cyJ cyO H.size x1 1 6 _ (okb1 hw)) (va_cwS 3 hts (gdS (fun w h => List.mem_cons_of_mem _ h) q_311 q_312 q_1 q_313) rfl rfl rfl (by decide +kernel) ⟨Nat.le_of_ble_eq_true rfl, Nat.le_of_ble_eq_true rfl⟩) (kpre zN_ok hK va_P0 va_D0 trivial hS hFc) rfl rfl hl.1 rfl (lv_room (Nat.le_of_ble_eq_true rfl)) dX6_ring_4 ⟨Nat.le_of_ble_eq_true rfl, Nat.le_of_ble_eq_true rfl⟩) hP hD hS hFc (fun r_12 H locs hw hP hS => ?_)
  try dsimp only at hw
  clear hFc
  refine lv_if_eq (tgt := 19) hx hb dX6_ring_7 (by decide) (fun c_13 => ?_) (fun c_13 => ?_)
  · replace hw := okT hw c_13
    clear c_13
    refine lv_iconst (v := (-1)) hx hb dX6_ring_19 (by decide) ?_
    rw [hQ]
    exact W.iret (v := (-1)) hx hb hr (fun t ht hW => ⟨⟨(-1), (o_walkIsOld, o_endsAreOld, told_howFar, told_tones), rfl, okS hw, by rw [ht]; exact hP, va_K.moved hW.alike hK, hD⟩, hS.F ht⟩) hS.2.2 dX6_ring_20
  · replace hw := okF hw c_13
    clear c_13
    refine lv_iload_n hx hb dX6_ring_10 rfl (lv_at hl 2 rfl) ?_
    refine lv_iconst (v := 0) hx hb dX6_ring_11 (by decide) ?_
    refine lv_iconst (v := 1) hx hb dX6_ring_12 (by decide) ?_
    have hFc := va_free (wc := []) hD hS hA [] rfl
    refine kp_i (va_runS (As := [.int x2, .int 0, .int 1]) (rest := []) ⟨hx, hb, hml, hown, hts⟩ (c_X6_within l dC dI cyI cyJ cyO H.size x2 0 1 _ (okb1 hw)) (va_cwS 3 hts (gdS (fun w h => List.mem_cons_of_mem _ h) q_311 q_312 q_1 q_313) rfl rfl rfl (by decide +kernel) ⟨Nat.le_of_ble_eq_true rfl, Nat.le_of_ble_eq_true rfl⟩) (kpre zN_ok hK va_P0 va_D0 trivial hS hFc) rfl rfl hl.1 rfl (lv_room (Nat.le_of_ble_eq_true rfl)) dX6_ring_13 ⟨Nat.le_of_ble_eq_true rfl, Nat.le_of_ble_eq_true rfl⟩) hP hD hS hFc (fun r_14 H locs hw hP hS => ?_)
    try dsimp only at hw
    clear hFc
    refine lv_if_ne (tgt := 21) hx hb dX6_ring_16 (by decide) (fun c_15 => ?_) (fun c_15 => ?_)
    · replace hw := okF hw c_15
      clear c_15
      refine lv_iload_n hx hb dX6_ring_21 rfl (lv_at hl 2 rfl) ?_
      refine lv_if_ne (tgt := 38) hx hb dX6_ring_22 (by decide) (fun c_16 => ?_) (fun c_16 => ?_)
      · replace hw := okF hw c_16
        clear c_16
        refine lv_iload_n hx hb dX6_ring_38 rfl (lv_at hl 3 rfl) ?_
        refine lv_iconst (v := 0) hx hb dX6_ring_39 (by decide) ?_
        refine lv_iconst (v := 2) hx hb dX6_ring_40 (by decide) ?_
        have hFc := va_free (wc := []) hD hS hA [] rfl
        refine kp_i (va_runS (As := [.int x3, .int 0, .int 2]) (rest := []) ⟨hx, hb, hml, hown, hts⟩ (c_X6_within l dC dI cyI cyJ cyO H.size x3 0 2 _ (okb1 hw)) (va_cwS 3 hts (gdS (fun w h => List.mem_cons_of_mem _ h) q_311 q_312 q_1 q_313) rfl rfl rfl (by decide +kernel) ⟨Nat.le_of_ble_eq_true rfl, Nat.le_of_ble_eq_true rfl⟩) (kpre zN_ok hK va_P0 va_D0 trivial hS hFc) rfl rfl hl.1 rfl (lv_room (Nat.le_of_ble_eq_true rfl)) dX6_ring_41 ⟨Nat.le_of_ble_eq_true rfl, Nat.le_of_ble_eq_true rfl⟩) hP hD hS hFc (fun r_17 H locs hw hP hS => ?_)
        try dsimp only at hw
        clear hFc
        refine lv_if_ne (tgt := 49) hx hb dX6_ring_44 (by decide) (fun c_18 => ?_) (fun c_18 => ?_)
        · replace hw := okF hw c_18
          clear c_18
          exact w49 x1 x2 x3 o_walkIsOld o_endsAreOld told_howFar told_tones _ _ hP hD hS _ (lv_sub hl [0, 1, 2, 3] rfl) hw
        · replace hw := okT hw c_18
          clear c_18
          refine lv_iconst (v := (-1)) hx hb dX6_ring_47 (by decide) ?_
          rw [hQ]
          exact W.iret (v := (-1)) hx hb hr (fun t ht hW => ⟨⟨(-1), (o_walkIsOld, o_endsAreOld, told_howFar, told_tones), rfl, okS hw, by rw [ht]; exact hP, va_K.moved hW.alike hK, hD⟩, hS.F ht⟩) hS.2.2 dX6_ring_48
      · replace hw := okT hw c_16
        clear c_16
        refine lv_iload_n hx hb dX6_ring_25 rfl (lv_at hl 3 rfl) ?_
        refine lv_iconst (v := (-1)) hx hb dX6_ring_26 (by decide) ?_
        refine lv_bipush (v := 40) hx hb dX6_ring_27 (by decide) ?_
        have hFc := va_free (wc := []) hD hS hA [] rfl
        refine kp_i (va_runS (As := [.int x3, .int (-1), .int 40]) (rest := []) ⟨hx, hb, hml, hown, hts⟩ (c_X6_within l dC dI cyI cyJ cyO H.size x3 (-1) 40 _ (okb1 hw)) (va_cwS 3 hts (gdS (fun w h => List.mem_cons_of_mem _ h) q_311 q_312 q_1 q_313) rfl rfl rfl (by decide +kernel) ⟨Nat.le_of_ble_eq_true rfl, Nat.le_of_ble_eq_true rfl⟩) (kpre zN_ok hK va_P0 va_D0 trivial hS hFc) rfl rfl hl.1 rfl (lv_room (Nat.le_of_ble_eq_true rfl)) dX6_ring_29 ⟨Nat.le_of_ble_eq_true rfl, Nat.le_of_ble_eq_true rfl⟩) hP hD hS hFc (fun r_19 H locs hw hP hS => ?_)
        try dsimp only at hw
        clear hFc
        refine lv_if_ne (tgt := 49) hx hb dX6_ring_32 (by decide) (fun c_20 => ?_) (fun c_20 => ?_)
        · replace hw := okF hw c_20
          clear c_20
          exact w49 x1 x2 x3 o_walkIsOld o_endsAreOld told_howFar told_tones _ _ hP hD hS _ (lv_sub hl [0, 1, 2, 3] rfl) hw
        · replace hw := okT hw c_20
          clear c_20
          refine lv_goto (tgt := 47) hx hb dX6_ring_35 (by decide) ?_
          refine lv_iconst (v := (-1)) hx hb dX6_ring_47 (by decide) ?_
          rw [hQ]
          exact W.iret (v := (-1)) hx hb hr (fun t ht hW => ⟨⟨(-1), (o_walkIsOld, o_endsAreOld, told_howFar, told_tones), rfl, okS hw, by rw [ht]; exact hP, va_K.moved hW.alike hK, hD⟩, hS.F ht⟩) hS.2.2 dX6_ring_48
    · replace hw := okT hw c_15
      clear c_15
      refine lv_iconst (v := (-1)) hx hb dX6_ring_19 (by decide) ?_
      rw [hQ]
      exact W.iret (v := (-1)) hx hb hr (fun t ht hW => ⟨⟨(-1), (o_walkIsOld, o_endsAreOld, told_howFar, told_tones), rfl, okS hw, by rw [ht]; exact hP, va_K.moved hW.alike hK, hD⟩, hS.F ht⟩) hS.2.2 dX6_ring_20
/-! ===== X6_type ===== -/
theorem dX6_type_0 : decode cX6_type 0 = .ok (.aload_n 0, 1) := by decide +kernel
theorem dX6_type_1 : decode cX6_type 1 = .ok (.getfield 53, 3) := by decide +kernel
theorem dX6_type_4 : decode cX6_type 4 = .ok (.lload_n 1, 1) := by decide +kernel
theorem dX6_type_5 : decode cX6_type 5 = .ok (.iload_n 3, 1) := by decide +kernel
theorem dX6_type_6 : decode cX6_type 6 = .ok (.invokevirtual 110, 3) := by decide +kernel
theorem dX6_type_9 : decode cX6_type 9 = .ok (.ireturn, 1) := by decide +kernel
abbrev W_X6_type (cyI cyJ cyO : ClassId) (h_o h_tape h_told h_kept h_walk h_trial h_seas h_ends h_otherEnds a_sheets a_tape_bytes a_tape_newFar a_tape_newTones a_tape_newCurrents : Nat) (o_hasImage : Int32) (o_walkIsOld : Int32) (o_endsAreOld : Int32) (tape_length : Int32) (tape_place : Int32) (tape_bytes : Nat → Int32) : va_W := [(h_o, .inr (6, [.ref h_told, .ref h_kept, .ref h_walk, .ref h_trial, .ref h_seas, .ref h_ends, .ref h_otherEnds, .ref h_tape, .ref a_sheets, .int o_hasImage, .int o_walkIsOld, .int o_endsAreOld])), (h_tape, .inr (3, [.ref a_tape_bytes, .int tape_length, .int tape_place, .ref a_tape_newFar, .ref a_tape_newTones, .ref a_tape_newCurrents])), (a_tape_bytes, .inl (cyI, 60, .inl tape_bytes))]
def f_X6_type (x1 : Int64) (x2 : Int32) (tape_length : Int32) (tape_bytes : Nat → Int32) : Option (Int32 × Int32 × (Nat → Int32)) :=
  bd3 (f_X3_add x1 x2 tape_length tape_bytes) fun r_1 w_2 w_3 =>
  some (r_1, w_2, w_3)
abbrev rm_X6_type : Room := { frames := 2, cells := 0, slots := 0, locals := 46 }
set_option maxRecDepth 100000 in
set_option maxHeartbeats 4000000 in
theorem c_X6_type (l : Launch) (dC : Nat → ClassId) (dI : Nat → Nat → Nat) (cyI cyJ cyO : ClassId) (sz : Nat) (h_o h_tape h_told h_kept h_walk h_trial h_seas h_ends h_otherEnds a_sheets a_tape_bytes a_tape_newFar a_tape_newTones a_tape_newCurrents : Nat) (o_hasImage : Int32) (o_walkIsOld : Int32) (o_endsAreOld : Int32) (tape_length : Int32) (tape_place : Int32) (tape_bytes : Nat → Int32) (x1 : Int64) (x2 : Int32) (post : (Int32 × Int32 × (Nat → Int32)) → Prop) (hf : okP (f_X6_type x1 x2 tape_length tape_bytes) post) : Ci l (dC, dI) (tyL cyI cyJ cyO) yX6_type wsX6_type rm_X6_type [.ref h_o, .long x1, .int x2] sz (W_X6_type cyI cyJ cyO h_o h_tape h_told h_kept h_walk h_trial h_seas h_ends h_otherEnds a_sheets a_tape_bytes a_tape_newFar a_tape_newTones a_tape_newCurrents o_hasImage o_walkIsOld o_endsAreOld tape_length tape_place tape_bytes) zN (fun r u => post (r, u)) (fun u => (W_X6_type cyI cyJ cyO h_o h_tape h_told h_kept h_walk h_trial h_seas h_ends h_otherEnds a_sheets a_tape_bytes a_tape_newFar a_tape_newTones a_tape_newCurrents o_hasImage o_walkIsOld o_endsAreOld u.1 tape_place u.2)) := by
  refine Met.ofW (cc := cX6_type) (maxL := 4) (ret := (some .int)) (by decide) rfl ?_
  intro p e s m args below meth c s₁ B hml hv
  obtain ⟨rfl, hsz, hP, hK, hD0, hZ⟩ := hv
  have hx := B.exec
  have hb := B.bytes
  have hr := B.returns
  have hts := atoms_spec (ws := wsX6_type) B.pre
  have hown : s.vm.findClass RX6 = some m.cls := findClass_of_methodNamed B.named
  have hlocks := B.notSynchronized
  subst hsz
  have hD := hD0.self (sz := s.heap.size)
  generalize hAe : va_A (W_X6_type cyI cyJ cyO h_o h_tape h_told h_kept h_walk h_trial h_seas h_ends h_otherEnds a_sheets a_tape_bytes a_tape_newFar a_tape_newTones a_tape_newCurrents o_hasImage o_walkIsOld o_endsAreOld tape_length tape_place tape_bytes) s.heap.size = A at hD hZ ⊢
  have hA : ∀ q : Nat, s.heap.size ≤ q → A q := fun q h => by rw [← hAe]; exact Or.inr h
  clear hAe hD0
  have hS : va_S A s.heap s.heap [] := va_S.rf
  have hl := lv_entry ([.ref h_o, .long x1, .int x2]) (n := 4) (Nat.le_of_ble_eq_true rfl)
  rw [lg_entry_eq]
  generalize (lg_sl ([.ref h_o, .long x1, .int x2]) ++ List.replicate (4 - (lg_sl ([.ref h_o, .long x1, .int x2])).length) Slot.unset).toArray = ls at hl ⊢
  have hl : lv_has ls 4 [(0, .ref h_o), (1, .long x1), (3, .int x2)] := hl
  refine kW (fun Q hQ => ?_)
  have hq0 := hts _ (List.mem_cons_of_mem _ q_277)
  have hi6 : ∀ w ∈ u_ws RX6 TX6 12, w ∈ wsX6_type := fun w h => List.mem_cons_of_mem _ (inX6 w h)
  have hw := hf
  unfold f_X6_type at hw
  have hP : va_P (dC, dI) vwCl (W_X6_type cyI cyJ cyO h_o h_tape h_told h_kept h_walk h_trial h_seas h_ends h_otherEnds a_sheets a_tape_bytes a_tape_newFar a_tape_newTones a_tape_newCurrents o_hasImage o_walkIsOld o_endsAreOld tape_length tape_place tape_bytes) s.heap := hP
  obtain ⟨H, hH⟩ : ∃ H, H = s.heap := ⟨_, rfl⟩
  obtain ⟨locs, hlo⟩ : ∃ x : List Loc, x = [] := ⟨_, rfl⟩
  have hP : va_P (dC, dI) vwCl (W_X6_type cyI cyJ cyO h_o h_tape h_told h_kept h_walk h_trial h_seas h_ends h_otherEnds a_sheets a_tape_bytes a_tape_newFar a_tape_newTones a_tape_newCurrents o_hasImage o_walkIsOld o_endsAreOld tape_length tape_place tape_bytes) H := by rw [hH]; exact hP
  have hS : va_S A s.heap H locs := by rw [hH, hlo]; exact hS
  refine kH hH hlo ?_
  clear hH hlo
  refine lv_aload_n hx hb dX6_type_0 rfl (lv_at hl 0 rfl) ?_
  refine va_get (D := (dC, dI)) (ci := 6) (v := .ref h_tape) (C := RX6) (T := TX6) (N := 12) hx hb hts hi6 hown hK hP 0 rfl rfl 7 (by decide) hq0 (fun _ h9 => h9) rfl dX6_type_1 ?_
  refine lv_lload_n hx hb dX6_type_4 rfl (lv_at hl 1 rfl) ?_
  refine lv_iload_n hx hb dX6_type_5 rfl (lv_at hl 2 rfl) ?_
  have hPc := hP.sub (ws' := (W_X3_add cyI cyJ cyO h_tape a_tape_bytes a_tape_newFar a_tape_newTones a_tape_newCurrents tape_length tape_place tape_bytes)) [1, 2] rfl
  have hDc := hD.sub (ws' := (W_X3_add cyI cyJ cyO h_tape a_tape_bytes a_tape_newFar a_tape_newTones a_tape_newCurrents tape_length tape_place tape_bytes)) [1, 2] (by decide +kernel) rfl
  have hFc := va_free (wc := (W_X3_add cyI cyJ cyO h_tape a_tape_bytes a_tape_newFar a_tape_newTones a_tape_newCurrents tape_length tape_place tape_bytes)) hD hS hA [1, 2] rfl
  refine kc_i (wr := [(h_o, .inr (6, [.ref h_told, .ref h_kept, .ref h_walk, .ref h_trial, .ref h_seas, .ref h_ends, .ref h_otherEnds, .ref h_tape, .ref a_sheets, .int o_hasImage, .int o_walkIsOld, .int o_endsAreOld]))]) (va_runV (As := [.long x1, .int x2]) (rest := []) ⟨hx, hb, hml, hown, hts⟩ (c_X3_add l dC dI cyI cyJ cyO H.size h_tape a_tape_bytes a_tape_newFar a_tape_newTones a_tape_newCurrents tape_length tape_place tape_bytes x1 x2 _ (okb3 hw)) (cwV 2 hts (gdV (fun w h => List.mem_cons_of_mem _ h) q_343 q_344 q_345 q_6 q_346) rfl rfl rfl (by decide +kernel) ⟨Nat.le_of_ble_eq_true rfl, Nat.le_of_ble_eq_true rfl⟩) ⟨(kpre zN_ok hK hPc hDc trivial hS hFc).1, va_recv hK hP (ci := 3) (q0 := 1) rfl rfl, (kpre zN_ok hK hPc hDc trivial hS hFc).2⟩ rfl rfl hl.1 rfl (lv_room (Nat.le_of_ble_eq_true rfl)) dX6_type_6 ⟨Nat.le_of_ble_eq_true rfl, Nat.le_of_ble_eq_true rfl⟩) hP hD hS hFc [1, 2] [0] rfl rfl (by decide +kernel) (by decide +kernel) (fun r_1 u H locs hw hP hD hS => ?_)
  obtain ⟨w_2, w_3⟩ := u
  try dsimp only at hw
  have hP : va_P (dC, dI) vwCl (W_X6_type cyI cyJ cyO h_o h_tape h_told h_kept h_walk h_trial h_seas h_ends h_otherEnds a_sheets a_tape_bytes a_tape_newFar a_tape_newTones a_tape_newCurrents o_hasImage o_walkIsOld o_endsAreOld w_2 tape_place w_3) H := hP.sub [0, 1, 2] rfl
  have hD : va_D A (W_X6_type cyI cyJ cyO h_o h_tape h_told h_kept h_walk h_trial h_seas h_ends h_otherEnds a_sheets a_tape_bytes a_tape_newFar a_tape_newTones a_tape_newCurrents o_hasImage o_walkIsOld o_endsAreOld w_2 tape_place w_3) := hD.sub [0, 1, 2] (by decide +kernel) rfl
  clear hPc hDc hFc
  rw [hQ]
  exact W.iret (v := r_1) hx hb hr (fun t ht hW => ⟨⟨r_1, (w_2, w_3), rfl, okS hw, by rw [ht]; exact hP, va_K.moved hW.alike hK, hD⟩, hS.F ht⟩) hS.2.2 dX6_type_9
/-! ===== X6_rings ===== -/
theorem dX6_rings_0 : decode cX6_rings 0 = .ok (.aload_n 0, 1) := by decide +kernel
theorem dX6_rings_1 : decode cX6_rings 1 = .ok (.getfield 53, 3) := by decide +kernel
theorem dX6_rings_4 : decode cX6_rings 4 = .ok (.aload_n 0, 1) := by decide +kernel
theorem dX6_rings_5 : decode cX6_rings 5 = .ok (.getfield 10, 3) := by decide +kernel
theorem dX6_rings_8 : decode cX6_rings 8 = .ok (.getfield 104, 3) := by decide +kernel
theorem dX6_rings_11 : decode cX6_rings 11 = .ok (.aload_n 0, 1) := by decide +kernel
theorem dX6_rings_12 : decode cX6_rings 12 = .ok (.getfield 10, 3) := by decide +kernel
theorem dX6_rings_15 : decode cX6_rings 15 = .ok (.getfield 107, 3) := by decide +kernel
theorem dX6_rings_18 : decode cX6_rings 18 = .ok (.invokevirtual 114, 3) := by decide +kernel
theorem dX6_rings_21 : decode cX6_rings 21 = .ok (.istore_n 1, 1) := by decide +kernel
theorem dX6_rings_22 : decode cX6_rings 22 = .ok (.aload_n 0, 1) := by decide +kernel
theorem dX6_rings_23 : decode cX6_rings 23 = .ok (.getfield 53, 3) := by decide +kernel
theorem dX6_rings_26 : decode cX6_rings 26 = .ok (.invokevirtual 118, 3) := by decide +kernel
theorem dX6_rings_29 : decode cX6_rings 29 = .ok (.aload_n 0, 1) := by decide +kernel
theorem dX6_rings_30 : decode cX6_rings 30 = .ok (.invokevirtual 94, 3) := by decide +kernel
theorem dX6_rings_33 : decode cX6_rings 33 = .ok (.iload_n 1, 1) := by decide +kernel
theorem dX6_rings_34 : decode cX6_rings 34 = .ok (.ireturn, 1) := by decide +kernel
abbrev W_X6_rings (cyI cyJ cyO : ClassId) (h_o h_told h_tape h_kept h_walk h_trial h_seas h_ends h_otherEnds a_sheets a_told_settings a_told_howFar a_told_tones a_told_currents a_told_warmths a_told_depths a_told_fars a_told_pieceCells a_told_pieceMonths a_told_pieceHighs a_told_pieceAges a_told_pieceNeeds a_told_dragCells a_told_dragEighths a_tape_bytes a_tape_newFar a_tape_newTones a_tape_newCurrents : Nat) (o_hasImage : Int32) (o_walkIsOld : Int32) (o_endsAreOld : Int32) (told_pieceCount : Int32) (told_dragCount : Int32) (told_howFar : Nat → Int32) (told_tones : Nat → Int32) (tape_length : Int32) (tape_place : Int32) (tape_bytes : Nat → Int32) (tape_newFar : Nat → Int32) (tape_newTones : Nat → Int32) : va_W := [(h_o, .inr (6, [.ref h_told, .ref h_kept, .ref h_walk, .ref h_trial, .ref h_seas, .ref h_ends, .ref h_otherEnds, .ref h_tape, .ref a_sheets, .int o_hasImage, .int o_walkIsOld, .int o_endsAreOld])), (h_told, .inr (4, [.ref a_told_settings, .ref a_told_howFar, .ref a_told_tones, .ref a_told_currents, .ref a_told_warmths, .ref a_told_depths, .ref a_told_fars, .ref a_told_pieceCells, .ref a_told_pieceMonths, .ref a_told_pieceHighs, .ref a_told_pieceAges, .ref a_told_pieceNeeds, .ref a_told_dragCells, .ref a_told_dragEighths, .int told_pieceCount, .int told_dragCount])), (a_told_howFar, .inl (cyI, 7, .inl told_howFar)), (a_told_tones, .inl (cyI, 7, .inl told_tones)), (h_tape, .inr (3, [.ref a_tape_bytes, .int tape_length, .int tape_place, .ref a_tape_newFar, .ref a_tape_newTones, .ref a_tape_newCurrents])), (a_tape_bytes, .inl (cyI, 60, .inl tape_bytes)), (a_tape_newFar, .inl (cyI, 7, .inl tape_newFar)), (a_tape_newTones, .inl (cyI, 7, .inl tape_newTones))]
def f_X6_rings (o_walkIsOld : Int32) (o_endsAreOld : Int32) (told_howFar : Nat → Int32) (told_tones : Nat → Int32) (tape_length : Int32) (tape_place : Int32) (tape_bytes : Nat → Int32) (tape_newFar : Nat → Int32) (tape_newTones : Nat → Int32) : Option (Int32 × Int32 × Int32 × (Nat → Int32) × (Nat → Int32) × Int32 × Int32 × (Nat → Int32) × (Nat → Int32)) :=
  bd6 (f_X3_readRings 7 7 tape_length tape_place tape_bytes tape_newFar tape_newTones told_howFar told_tones) fun r_1 w_2 w_3 w_4 w_5 w_6 =>
  bd1 (f_X3_empty tape_length) fun w_7 =>
  bd2 (f_X6_waysChanged o_walkIsOld o_endsAreOld) fun w_8 w_9 =>
  some (r_1, w_8, w_9, w_5, w_6, w_7, w_2, w_3, w_4)
abbrev rm_X6_rings : Room := { frames := 6, cells := 0, slots := 0, locals := 129 }
set_option maxRecDepth 100000 in
set_option maxHeartbeats 4000000 in
theorem c_X6_rings (l : Launch) (dC : Nat → ClassId) (dI : Nat → Nat → Nat) (cyI cyJ cyO : ClassId) (sz : Nat) (h_o h_told h_tape h_kept h_walk h_trial h_seas h_ends h_otherEnds a_sheets a_told_settings a_told_howFar a_told_tones a_told_currents a_told_warmths a_told_depths a_told_fars a_told_pieceCells a_told_pieceMonths a_told_pieceHighs a_told_pieceAges a_told_pieceNeeds a_told_dragCells a_told_dragEighths a_tape_bytes a_tape_newFar a_tape_newTones a_tape_newCurrents : Nat) (o_hasImage : Int32) (o_walkIsOld : Int32) (o_endsAreOld : Int32) (told_pieceCount : Int32) (told_dragCount : Int32) (told_howFar : Nat → Int32) (told_tones : Nat → Int32) (tape_length : Int32) (tape_place : Int32) (tape_bytes : Nat → Int32) (tape_newFar : Nat → Int32) (tape_newTones : Nat → Int32) (post : (Int32 × Int32 × Int32 × (Nat → Int32) × (Nat → Int32) × Int32 × Int32 × (Nat → Int32) × (Nat → Int32)) → Prop) (hf : okP (f_X6_rings o_walkIsOld o_endsAreOld told_howFar told_tones tape_length tape_place tape_bytes tape_newFar tape_newTones) post) : Ci l (dC, dI) (tyL cyI cyJ cyO) yX6_rings wsX6_rings rm_X6_rings [.ref h_o] sz (W_X6_rings cyI cyJ cyO h_o h_told h_tape h_kept h_walk h_trial h_seas h_ends h_otherEnds a_sheets a_told_settings a_told_howFar a_told_tones a_told_currents a_told_warmths a_told_depths a_told_fars a_told_pieceCells a_told_pieceMonths a_told_pieceHighs a_told_pieceAges a_told_pieceNeeds a_told_dragCells a_told_dragEighths a_tape_bytes a_tape_newFar a_tape_newTones a_tape_newCurrents o_hasImage o_walkIsOld o_endsAreOld told_pieceCount told_dragCount told_howFar told_tones tape_length tape_place tape_bytes tape_newFar tape_newTones) zN (fun r u => post (r, u)) (fun u => (W_X6_rings cyI cyJ cyO h_o h_told h_tape h_kept h_walk h_trial h_seas h_ends h_otherEnds a_sheets a_told_settings a_told_howFar a_told_tones a_told_currents a_told_warmths a_told_depths a_told_fars a_told_pieceCells a_told_pieceMonths a_told_pieceHighs a_told_pieceAges a_told_pieceNeeds a_told_dragCells a_told_dragEighths a_tape_bytes a_tape_newFar a_tape_newTones a_tape_newCurrents o_hasImage u.1 u.2.1 told_pieceCount told_dragCount u.2.2.1 u.2.2.2.1 u.2.2.2.2.1 u.2.2.2.2.2.1 tape_bytes u.2.2.2.2.2.2.1 u.2.2.2.2.2.2.2)) := by
  refine Met.ofW (cc := cX6_rings) (maxL := 2) (ret := (some .int)) (by decide) rfl ?_
  intro p e s m args below meth c s₁ B hml hv
  obtain ⟨rfl, hsz, hP, hK, hD0, hZ⟩ := hv
  have hx := B.exec
  have hb := B.bytes
  have hr := B.returns
  have hts := atoms_spec (ws := wsX6_rings) B.pre
  have hown : s.vm.findClass RX6 = some m.cls := findClass_of_methodNamed B.named
  have hlocks := B.notSynchronized
  subst hsz
  have hD := hD0.self (sz := s.heap.size)
  generalize hAe : va_A (W_X6_rings cyI cyJ cyO h_o h_told h_tape h_kept h_walk h_trial h_seas h_ends h_otherEnds a_sheets a_told_settings a_told_howFar a_told_tones a_told_currents a_told_warmths a_told_depths a_told_fars a_told_pieceCells a_told_pieceMonths a_told_pieceHighs a_told_pieceAges a_told_pieceNeeds a_told_dragCells a_told_dragEighths a_tape_bytes a_tape_newFar a_tape_newTones a_tape_newCurrents o_hasImage o_walkIsOld o_endsAreOld told_pieceCount told_dragCount told_howFar told_tones tape_length tape_place tape_bytes tape_newFar tape_newTones) s.heap.size = A at hD hZ ⊢
  have hA : ∀ q : Nat, s.heap.size ≤ q → A q := fun q h => by rw [← hAe]; exact Or.inr h
  clear hAe hD0
  have hS : va_S A s.heap s.heap [] := va_S.rf
  have hl := lv_entry ([.ref h_o]) (n := 2) (Nat.le_of_ble_eq_true rfl)
  rw [lg_entry_eq]
  generalize (lg_sl ([.ref h_o]) ++ List.replicate (2 - (lg_sl ([.ref h_o])).length) Slot.unset).toArray = ls at hl ⊢
  have hl : lv_has ls 2 [(0, .ref h_o)] := hl
  refine kW (fun Q hQ => ?_)
  have hq0 := hts _ (List.mem_cons_of_mem _ q_277)
  have hi6 : ∀ w ∈ u_ws RX6 TX6 12, w ∈ wsX6_rings := fun w h => List.mem_cons_of_mem _ (inX6 w h)
  have hq2 := hts _ (List.mem_cons_of_mem _ q_270)
  have hq3 := hts _ (List.mem_cons_of_mem _ q_38)
  have hi4 : ∀ w ∈ u_ws RX4 TX4 16, w ∈ wsX6_rings := fun w h => List.mem_cons_of_mem _ (inX4 w h)
  have hq5 := hts _ (List.mem_cons_of_mem _ q_41)
  have hw := hf
  unfold f_X6_rings at hw
  have hP : va_P (dC, dI) vwCl (W_X6_rings cyI cyJ cyO h_o h_told h_tape h_kept h_walk h_trial h_seas h_ends h_otherEnds a_sheets a_told_settings a_told_howFar a_told_tones a_told_currents a_told_warmths a_told_depths a_told_fars a_told_pieceCells a_told_pieceMonths a_told_pieceHighs a_told_pieceAges a_told_pieceNeeds a_told_dragCells a_told_dragEighths a_tape_bytes a_tape_newFar a_tape_newTones a_tape_newCurrents o_hasImage o_walkIsOld o_endsAreOld told_pieceCount told_dragCount told_howFar told_tones tape_length tape_place tape_bytes tape_newFar tape_newTones) s.heap := hP
  obtain ⟨H, hH⟩ : ∃ H, H = s.heap := ⟨_, rfl⟩
  obtain ⟨locs, hlo⟩ : ∃ x : List Loc, x = [] := ⟨_, rfl⟩
  have hP : va_P (dC, dI) vwCl (W_X6_rings cyI cyJ cyO h_o h_told h_tape h_kept h_walk h_trial h_seas h_ends h_otherEnds a_sheets a_told_settings a_told_howFar a_told_tones a_told_currents a_told_warmths a_told_depths a_told_fars a_told_pieceCells a_told_pieceMonths a_told_pieceHighs a_told_pieceAges a_told_pieceNeeds a_told_dragCells a_told_dragEighths a_tape_bytes a_tape_newFar a_tape_newTones a_tape_newCurrents o_hasImage o_walkIsOld o_endsAreOld told_pieceCount told_dragCount told_howFar told_tones tape_length tape_place tape_bytes tape_newFar tape_newTones) H := by rw [hH]; exact hP
  have hS : va_S A s.heap H locs := by rw [hH, hlo]; exact hS
  refine kH hH hlo ?_
  clear hH hlo
  refine lv_aload_n hx hb dX6_rings_0 rfl (lv_at hl 0 rfl) ?_
  refine va_get (D := (dC, dI)) (ci := 6) (v := .ref h_tape) (C := RX6) (T := TX6) (N := 12) hx hb hts hi6 hown hK hP 0 rfl rfl 7 (by decide) hq0 (fun _ h9 => h9) rfl dX6_rings_1 ?_
  refine lv_aload_n hx hb dX6_rings_4 rfl (lv_at hl 0 rfl) ?_
  refine va_get (D := (dC, dI)) (ci := 6) (v := .ref h_told) (C := RX6) (T := TX6) (N := 12) hx hb hts hi6 hown hK hP 0 rfl rfl 0 (by decide) hq2 (fun _ h9 => h9) rfl dX6_rings_5 ?_
  refine va_get (D := (dC, dI)) (ci := 4) (v := .ref a_told_howFar) (C := RX4) (T := TX4) (N := 16) hx hb hts hi4 hown hK hP 1 rfl rfl 1 (by decide) hq3 (fun _ h9 => h9) rfl dX6_rings_8 ?_
  refine lv_aload_n hx hb dX6_rings_11 rfl (lv_at hl 0 rfl) ?_
  refine va_get (D := (dC, dI)) (ci := 6) (v := .ref h_told) (C := RX6) (T := TX6) (N := 12) hx hb hts hi6 hown hK hP 0 rfl rfl 0 (by decide) hq2 (fun _ h9 => h9) rfl dX6_rings_12 ?_
  refine va_get (D := (dC, dI)) (ci := 4) (v := .ref a_told_tones) (C := RX4) (T := TX4) (N := 16) hx hb hts hi4 hown hK hP 1 rfl rfl 2 (by decide) hq5 (fun _ h9 => h9) rfl dX6_rings_15 ?_
  have hPc := hP.sub (ws' := (W_X3_readRings cyI cyJ cyO 7 7 h_tape a_tape_bytes a_tape_newFar a_tape_newTones a_tape_newCurrents a_told_howFar a_told_tones tape_length tape_place tape_bytes tape_newFar tape_newTones told_howFar told_tones)) [4, 5, 6, 7, 2, 3] rfl
  have hDc := hD.sub (ws' := (W_X3_readRings cyI cyJ cyO 7 7 h_tape a_tape_bytes a_tape_newFar a_tape_newTones a_tape_newCurrents a_told_howFar a_told_tones tape_length tape_place tape_bytes tape_newFar tape_newTones told_howFar told_tones)) [4, 5, 6, 7, 2, 3] (by decide +kernel) rfl
  have hFc := va_free (wc := (W_X3_readRings cyI cyJ cyO 7 7 h_tape a_tape_bytes a_tape_newFar a_tape_newTones a_tape_newCurrents a_told_howFar a_told_tones tape_length tape_place tape_bytes tape_newFar tape_newTones told_howFar told_tones)) hD hS hA [4, 5, 6, 7, 2, 3] rfl
  refine kc_i (wr := [(h_o, .inr (6, [.ref h_told, .ref h_kept, .ref h_walk, .ref h_trial, .ref h_seas, .ref h_ends, .ref h_otherEnds, .ref h_tape, .ref a_sheets, .int o_hasImage, .int o_walkIsOld, .int o_endsAreOld])), (h_told, .inr (4, [.ref a_told_settings, .ref a_told_howFar, .ref a_told_tones, .ref a_told_currents, .ref a_told_warmths, .ref a_told_depths, .ref a_told_fars, .ref a_told_pieceCells, .ref a_told_pieceMonths, .ref a_told_pieceHighs, .ref a_told_pieceAges, .ref a_told_pieceNeeds, .ref a_told_dragCells, .ref a_told_dragEighths, .int told_pieceCount, .int told_dragCount]))]) (va_runV (As := [.ref a_told_howFar, .ref a_told_tones]) (rest := []) ⟨hx, hb, hml, hown, hts⟩ (c_X3_readRings l dC dI cyI cyJ cyO H.size 7 7 h_tape a_tape_bytes a_tape_newFar a_tape_newTones a_tape_newCurrents a_told_howFar a_told_tones tape_length tape_place tape_bytes tape_newFar tape_newTones told_howFar told_tones _ (okb6 hw)) (cwV 2 hts (gdV (fun w h => List.mem_cons_of_mem _ h) q_354 q_355 q_356 q_6 q_357) rfl rfl rfl (by decide +kernel) ⟨Nat.le_of_ble_eq_true rfl, Nat.le_of_ble_eq_true rfl⟩) ⟨(kpre zN_ok hK hPc hDc trivial hS hFc).1, va_recv hK hP (ci := 3) (q0 := 4) rfl rfl, (kpre zN_ok hK hPc hDc trivial hS hFc).2⟩ rfl rfl hl.1 rfl (lv_room (Nat.le_of_ble_eq_true rfl)) dX6_rings_18 ⟨Nat.le_of_ble_eq_true rfl, Nat.le_of_ble_eq_true rfl⟩) hP hD hS hFc [4, 5, 6, 7, 2, 3] [0, 1] rfl rfl (by decide +kernel) (by decide +kernel) (fun r_1 u H locs hw hP hD hS => ?_)
  obtain ⟨w_2, w_3, w_4, w_5, w_6⟩ := u
  try dsimp only at hw
  have hP : va_P (dC, dI) vwCl (W_X6_rings cyI cyJ cyO h_o h_told h_tape h_kept h_walk h_trial h_seas h_ends h_otherEnds a_sheets a_told_settings a_told_howFar a_told_tones a_told_currents a_told_warmths a_told_depths a_told_fars a_told_pieceCells a_told_pieceMonths a_told_pieceHighs a_told_pieceAges a_told_pieceNeeds a_told_dragCells a_told_dragEighths a_tape_bytes a_tape_newFar a_tape_newTones a_tape_newCurrents o_hasImage o_walkIsOld o_endsAreOld told_pieceCount told_dragCount w_5 w_6 tape_length w_2 tape_bytes w_3 w_4) H := hP.sub [0, 1, 6, 7, 2, 3, 4, 5] rfl
  have hD : va_D A (W_X6_rings cyI cyJ cyO h_o h_told h_tape h_kept h_walk h_trial h_seas h_ends h_otherEnds a_sheets a_told_settings a_told_howFar a_told_tones a_told_currents a_told_warmths a_told_depths a_told_fars a_told_pieceCells a_told_pieceMonths a_told_pieceHighs a_told_pieceAges a_told_pieceNeeds a_told_dragCells a_told_dragEighths a_tape_bytes a_tape_newFar a_tape_newTones a_tape_newCurrents o_hasImage o_walkIsOld o_endsAreOld told_pieceCount told_dragCount w_5 w_6 tape_length w_2 tape_bytes w_3 w_4) := hD.sub [0, 1, 6, 7, 2, 3, 4, 5] (by decide +kernel) rfl
  clear hPc hDc hFc
  refine lv_istore_n (lv' := [(1, .int r_1), (0, .ref h_o)]) hx hb dX6_rings_21 rfl hl (by decide) rfl (fun ls hl => ?_)
  refine lv_aload_n hx hb dX6_rings_22 rfl (lv_at hl 1 rfl) ?_
  refine va_get (D := (dC, dI)) (ci := 6) (v := .ref h_tape) (C := RX6) (T := TX6) (N := 12) hx hb hts hi6 hown hK hP 0 rfl rfl 7 (by decide) hq0 (fun _ h9 => h9) rfl dX6_rings_23 ?_
  have hPc := hP.sub (ws' := (W_X3_empty cyI cyJ cyO h_tape a_tape_bytes a_tape_newFar a_tape_newTones a_tape_newCurrents tape_length w_2)) [4] rfl
  have hDc := hD.sub (ws' := (W_X3_empty cyI cyJ cyO h_tape a_tape_bytes a_tape_newFar a_tape_newTones a_tape_newCurrents tape_length w_2)) [4] (by decide +kernel) rfl
  have hFc := va_free (wc := (W_X3_empty cyI cyJ cyO h_tape a_tape_bytes a_tape_newFar a_tape_newTones a_tape_newCurrents tape_length w_2)) hD hS hA [4] rfl
  refine kc_v (wr := [(h_o, .inr (6, [.ref h_told, .ref h_kept, .ref h_walk, .ref h_trial, .ref h_seas, .ref h_ends, .ref h_otherEnds, .ref h_tape, .ref a_sheets, .int o_hasImage, .int o_walkIsOld, .int o_endsAreOld])), (h_told, .inr (4, [.ref a_told_settings, .ref a_told_howFar, .ref a_told_tones, .ref a_told_currents, .ref a_told_warmths, .ref a_told_depths, .ref a_told_fars, .ref a_told_pieceCells, .ref a_told_pieceMonths, .ref a_told_pieceHighs, .ref a_told_pieceAges, .ref a_told_pieceNeeds, .ref a_told_dragCells, .ref a_told_dragEighths, .int told_pieceCount, .int told_dragCount])), (a_told_howFar, .inl (cyI, 7, .inl w_5)), (a_told_tones, .inl (cyI, 7, .inl w_6)), (a_tape_bytes, .inl (cyI, 60, .inl tape_bytes)), (a_tape_newFar, .inl (cyI, 7, .inl w_3)), (a_tape_newTones, .inl (cyI, 7, .inl w_4))]) (va_runV (As := []) (rest := []) ⟨hx, hb, hml, hown, hts⟩ (c_X3_empty l dC dI cyI cyJ cyO H.size h_tape a_tape_bytes a_tape_newFar a_tape_newTones a_tape_newCurrents tape_length w_2 _ (okb1 hw)) (cwV 0 hts (gdV (fun w h => List.mem_cons_of_mem _ h) q_389 q_390 q_391 q_6 q_392) rfl rfl rfl (by decide +kernel) ⟨Nat.le_of_ble_eq_true rfl, Nat.le_of_ble_eq_true rfl⟩) ⟨(kpre zN_ok hK hPc hDc trivial hS hFc).1, va_recv hK hP (ci := 3) (q0 := 4) rfl rfl, (kpre zN_ok hK hPc hDc trivial hS hFc).2⟩ rfl rfl hl.1 rfl (lv_room (Nat.le_of_ble_eq_true rfl)) dX6_rings_26 ⟨Nat.le_of_ble_eq_true rfl, Nat.le_of_ble_eq_true rfl⟩) hP hD hS hFc [4] [0, 1, 2, 3, 5, 6, 7] rfl rfl (by decide +kernel) (by decide +kernel) (fun w_7 H locs hw hP hD hS => ?_)
  try dsimp only at hw
  have hP : va_P (dC, dI) vwCl (W_X6_rings cyI cyJ cyO h_o h_told h_tape h_kept h_walk h_trial h_seas h_ends h_otherEnds a_sheets a_told_settings a_told_howFar a_told_tones a_told_currents a_told_warmths a_told_depths a_told_fars a_told_pieceCells a_told_pieceMonths a_told_pieceHighs a_told_pieceAges a_told_pieceNeeds a_told_dragCells a_told_dragEighths a_tape_bytes a_tape_newFar a_tape_newTones a_tape_newCurrents o_hasImage o_walkIsOld o_endsAreOld told_pieceCount told_dragCount w_5 w_6 w_7 w_2 tape_bytes w_3 w_4) H := hP.sub [0, 1, 2, 3, 7, 4, 5, 6] rfl
  have hD : va_D A (W_X6_rings cyI cyJ cyO h_o h_told h_tape h_kept h_walk h_trial h_seas h_ends h_otherEnds a_sheets a_told_settings a_told_howFar a_told_tones a_told_currents a_told_warmths a_told_depths a_told_fars a_told_pieceCells a_told_pieceMonths a_told_pieceHighs a_told_pieceAges a_told_pieceNeeds a_told_dragCells a_told_dragEighths a_tape_bytes a_tape_newFar a_tape_newTones a_tape_newCurrents o_hasImage o_walkIsOld o_endsAreOld told_pieceCount told_dragCount w_5 w_6 w_7 w_2 tape_bytes w_3 w_4) := hD.sub [0, 1, 2, 3, 7, 4, 5, 6] (by decide +kernel) rfl
  clear hPc hDc hFc
  refine lv_aload_n hx hb dX6_rings_29 rfl (lv_at hl 1 rfl) ?_
  have hPc := hP.sub (ws' := (W_X6_waysChanged cyI cyJ cyO h_o h_told h_kept h_walk h_trial h_seas h_ends h_otherEnds h_tape a_sheets o_hasImage o_walkIsOld o_endsAreOld)) [0] rfl
  have hDc := hD.sub (ws' := (W_X6_waysChanged cyI cyJ cyO h_o h_told h_kept h_walk h_trial h_seas h_ends h_otherEnds h_tape a_sheets o_hasImage o_walkIsOld o_endsAreOld)) [0] (by decide +kernel) rfl
  have hFc := va_free (wc := (W_X6_waysChanged cyI cyJ cyO h_o h_told h_kept h_walk h_trial h_seas h_ends h_otherEnds h_tape a_sheets o_hasImage o_walkIsOld o_endsAreOld)) hD hS hA [0] rfl
  refine kc_v (wr := [(h_told, .inr (4, [.ref a_told_settings, .ref a_told_howFar, .ref a_told_tones, .ref a_told_currents, .ref a_told_warmths, .ref a_told_depths, .ref a_told_fars, .ref a_told_pieceCells, .ref a_told_pieceMonths, .ref a_told_pieceHighs, .ref a_told_pieceAges, .ref a_told_pieceNeeds, .ref a_told_dragCells, .ref a_told_dragEighths, .int told_pieceCount, .int told_dragCount])), (a_told_howFar, .inl (cyI, 7, .inl w_5)), (a_told_tones, .inl (cyI, 7, .inl w_6)), (h_tape, .inr (3, [.ref a_tape_bytes, .int w_7, .int w_2, .ref a_tape_newFar, .ref a_tape_newTones, .ref a_tape_newCurrents])), (a_tape_bytes, .inl (cyI, 60, .inl tape_bytes)), (a_tape_newFar, .inl (cyI, 7, .inl w_3)), (a_tape_newTones, .inl (cyI, 7, .inl w_4))]) (va_runV (As := []) (rest := []) ⟨hx, hb, hml, hown, hts⟩ (c_X6_waysChanged l dC dI cyI cyJ cyO H.size h_o h_told h_kept h_walk h_trial h_seas h_ends h_otherEnds h_tape a_sheets o_hasImage o_walkIsOld o_endsAreOld _ (okb2 hw)) (cwV 0 hts (gdV (fun w h => List.mem_cons_of_mem _ h) q_324 q_326 qs_1 q_1 q_327) rfl rfl rfl (by decide +kernel) ⟨Nat.le_of_ble_eq_true rfl, Nat.le_of_ble_eq_true rfl⟩) ⟨(kpre zN_ok hK hPc hDc trivial hS hFc).1, va_recv hK hP (ci := 6) (q0 := 0) rfl rfl, (kpre zN_ok hK hPc hDc trivial hS hFc).2⟩ rfl rfl hl.1 rfl (lv_room (Nat.le_of_ble_eq_true rfl)) dX6_rings_30 ⟨Nat.le_of_ble_eq_true rfl, Nat.le_of_ble_eq_true rfl⟩) hP hD hS hFc [0] [1, 2, 3, 4, 5, 6, 7] rfl rfl (by decide +kernel) (by decide +kernel) (fun u H locs hw hP hD hS => ?_)
  obtain ⟨w_8, w_9⟩ := u
  try dsimp only at hw
  have hP : va_P (dC, dI) vwCl (W_X6_rings cyI cyJ cyO h_o h_told h_tape h_kept h_walk h_trial h_seas h_ends h_otherEnds a_sheets a_told_settings a_told_howFar a_told_tones a_told_currents a_told_warmths a_told_depths a_told_fars a_told_pieceCells a_told_pieceMonths a_told_pieceHighs a_told_pieceAges a_told_pieceNeeds a_told_dragCells a_told_dragEighths a_tape_bytes a_tape_newFar a_tape_newTones a_tape_newCurrents o_hasImage w_8 w_9 told_pieceCount told_dragCount w_5 w_6 w_7 w_2 tape_bytes w_3 w_4) H := hP.sub [7, 0, 1, 2, 3, 4, 5, 6] rfl
  have hD : va_D A (W_X6_rings cyI cyJ cyO h_o h_told h_tape h_kept h_walk h_trial h_seas h_ends h_otherEnds a_sheets a_told_settings a_told_howFar a_told_tones a_told_currents a_told_warmths a_told_depths a_told_fars a_told_pieceCells a_told_pieceMonths a_told_pieceHighs a_told_pieceAges a_told_pieceNeeds a_told_dragCells a_told_dragEighths a_tape_bytes a_tape_newFar a_tape_newTones a_tape_newCurrents o_hasImage w_8 w_9 told_pieceCount told_dragCount w_5 w_6 w_7 w_2 tape_bytes w_3 w_4) := hD.sub [7, 0, 1, 2, 3, 4, 5, 6] (by decide +kernel) rfl
  clear hPc hDc hFc
  refine lv_iload_n hx hb dX6_rings_33 rfl (lv_at hl 0 rfl) ?_
  rw [hQ]
  exact W.iret (v := r_1) hx hb hr (fun t ht hW => ⟨⟨r_1, (w_8, w_9, w_5, w_6, w_7, w_2, w_3, w_4), rfl, okS hw, by rw [ht]; exact hP, va_K.moved hW.alike hK, hD⟩, hS.F ht⟩) hS.2.2 dX6_rings_34
/-! ===== X6_ways ===== -/
theorem dX6_ways_0 : decode cX6_ways 0 = .ok (.aload_n 0, 1) := by decide +kernel
theorem dX6_ways_1 : decode cX6_ways 1 = .ok (.invokevirtual 121, 3) := by decide +kernel
theorem dX6_ways_4 : decode cX6_ways 4 = .ok (.getfield 125, 3) := by decide +kernel
theorem dX6_ways_7 : decode cX6_ways 7 = .ok (.ireturn, 1) := by decide +kernel
abbrev W_X6_ways (cyI cyJ cyO : ClassId) (h_o h_told h_walk h_kept h_trial h_seas h_ends h_otherEnds h_tape a_sheets a_told_settings a_told_howFar a_told_tones a_told_currents a_told_warmths a_told_depths a_told_fars a_told_pieceCells a_told_pieceMonths a_told_pieceHighs a_told_pieceAges a_told_pieceNeeds a_told_dragCells a_told_dragEighths a_walk_howFar a_walk_tones a_walk_only a_walk_fars a_walk_cellAt a_walk_ends a_walk_seen a_walk_begun : Nat) (o_hasImage : Int32) (o_walkIsOld : Int32) (o_endsAreOld : Int32) (told_pieceCount : Int32) (told_dragCount : Int32) (told_settings : Nat → Int32) (told_howFar : Nat → Int32) (told_tones : Nat → Int32) (told_fars : Nat → Int32) (walk_last : Int32) (walk_turnsLet : Int32) (walk_slowsLet : Int32) (walk_fuel : Int32) (walk_glide : Int32) (walk_count : Int32) (walk_weightSum : Int64) (walk_toPass : Int32) (walk_foundNumber : Int32) (walk_foundWeight : Int32) (walk_foundTurns : Int32) (walk_foundSlowed : Int32) (walk_howFar : Nat → Int32) (walk_tones : Nat → Int32) (walk_only : Nat → Int32) (walk_fars : Nat → Int32) (walk_cellAt : Nat → Int32) (walk_ends : Nat → Int64) (walk_seen : Nat → Int32) (walk_begun : Nat → Int32) : va_W := [(h_o, .inr (6, [.ref h_told, .ref h_kept, .ref h_walk, .ref h_trial, .ref h_seas, .ref h_ends, .ref h_otherEnds, .ref h_tape, .ref a_sheets, .int o_hasImage, .int o_walkIsOld, .int o_endsAreOld])), (h_told, .inr (4, [.ref a_told_settings, .ref a_told_howFar, .ref a_told_tones, .ref a_told_currents, .ref a_told_warmths, .ref a_told_depths, .ref a_told_fars, .ref a_told_pieceCells, .ref a_told_pieceMonths, .ref a_told_pieceHighs, .ref a_told_pieceAges, .ref a_told_pieceNeeds, .ref a_told_dragCells, .ref a_told_dragEighths, .int told_pieceCount, .int told_dragCount])), (a_told_settings, .inl (cyI, 8, .inl told_settings)), (a_told_howFar, .inl (cyI, 7, .inl told_howFar)), (a_told_tones, .inl (cyI, 7, .inl told_tones)), (a_told_fars, .inl (cyI, 100, .inl told_fars)), (h_walk, .inr (5, [.ref a_walk_howFar, .ref a_walk_tones, .ref a_walk_only, .ref a_walk_fars, .int walk_last, .int walk_turnsLet, .int walk_slowsLet, .int walk_fuel, .int walk_glide, .ref a_walk_cellAt, .ref a_walk_ends, .ref a_walk_seen, .ref a_walk_begun, .int walk_count, .long walk_weightSum, .int walk_toPass, .int walk_foundNumber, .int walk_foundWeight, .int walk_foundTurns, .int walk_foundSlowed])), (a_walk_howFar, .inl (cyI, 7, .inl walk_howFar)), (a_walk_tones, .inl (cyI, 7, .inl walk_tones)), (a_walk_only, .inl (cyI, 7, .inl walk_only)), (a_walk_fars, .inl (cyI, 100, .inl walk_fars)), (a_walk_cellAt, .inl (cyI, 7, .inl walk_cellAt)), (a_walk_ends, .inl (cyJ, 100, .inr (.inl walk_ends))), (a_walk_seen, .inl (cyI, 70, .inl walk_seen)), (a_walk_begun, .inl (cyI, 24, .inl walk_begun))]
def f_X6_ways (o_walkIsOld : Int32) (told_settings : Nat → Int32) (told_howFar : Nat → Int32) (told_tones : Nat → Int32) (told_fars : Nat → Int32) (walk_last : Int32) (walk_turnsLet : Int32) (walk_slowsLet : Int32) (walk_fuel : Int32) (walk_glide : Int32) (walk_count : Int32) (walk_weightSum : Int64) (walk_toPass : Int32) (walk_foundNumber : Int32) (walk_foundWeight : Int32) (walk_foundTurns : Int32) (walk_foundSlowed : Int32) (walk_howFar : Nat → Int32) (walk_tones : Nat → Int32) (walk_only : Nat → Int32) (walk_fars : Nat → Int32) (walk_cellAt : Nat → Int32) (walk_ends : Nat → Int64) (walk_seen : Nat → Int32) (walk_begun : Nat → Int32) : Option (Int32 × Int32 × Int32 × Int32 × Int32 × Int32 × Int32 × Int32 × Int64 × Int32 × Int32 × Int32 × Int32 × Int32 × (Nat → Int32) × (Nat → Int32) × (Nat → Int32) × (Nat → Int32) × (Nat → Int32) × (Nat → Int64) × (Nat → Int32) × (Nat → Int32)) :=
  bd21 (f_X6_walked o_walkIsOld told_settings told_howFar told_tones told_fars walk_last walk_turnsLet walk_slowsLet walk_fuel walk_glide walk_count walk_weightSum walk_toPass walk_foundNumber walk_foundWeight walk_foundTurns walk_foundSlowed walk_howFar walk_tones walk_only walk_fars walk_cellAt walk_ends walk_seen walk_begun) fun w_1 w_2 w_3 w_4 w_5 w_6 w_7 w_8 w_9 w_10 w_11 w_12 w_13 w_14 w_15 w_16 w_17 w_18 w_19 w_20 w_21 =>
  some (w_7, w_1, w_2, w_3, w_4, w_5, w_6, w_7, w_8, w_9, w_10, w_11, w_12, w_13, w_14, w_15, w_16, w_17, w_18, w_19, w_20, w_21)
abbrev rm_X6_ways : Room := { frames := 43, cells := 0, slots := 0, locals := 1074 }
set_option maxRecDepth 100000 in
set_option maxHeartbeats 4000000 in
theorem c_X6_ways (l : Launch) (dC : Nat → ClassId) (dI : Nat → Nat → Nat) (cyI cyJ cyO : ClassId) (sz : Nat) (tD tR tL tM : Nat) (h_o h_told h_walk h_kept h_trial h_seas h_ends h_otherEnds h_tape a_sheets a_told_settings a_told_howFar a_told_tones a_told_currents a_told_warmths a_told_depths a_told_fars a_told_pieceCells a_told_pieceMonths a_told_pieceHighs a_told_pieceAges a_told_pieceNeeds a_told_dragCells a_told_dragEighths a_walk_howFar a_walk_tones a_walk_only a_walk_fars a_walk_cellAt a_walk_ends a_walk_seen a_walk_begun : Nat) (o_hasImage : Int32) (o_walkIsOld : Int32) (o_endsAreOld : Int32) (told_pieceCount : Int32) (told_dragCount : Int32) (told_settings : Nat → Int32) (told_howFar : Nat → Int32) (told_tones : Nat → Int32) (told_fars : Nat → Int32) (walk_last : Int32) (walk_turnsLet : Int32) (walk_slowsLet : Int32) (walk_fuel : Int32) (walk_glide : Int32) (walk_count : Int32) (walk_weightSum : Int64) (walk_toPass : Int32) (walk_foundNumber : Int32) (walk_foundWeight : Int32) (walk_foundTurns : Int32) (walk_foundSlowed : Int32) (walk_howFar : Nat → Int32) (walk_tones : Nat → Int32) (walk_only : Nat → Int32) (walk_fars : Nat → Int32) (walk_cellAt : Nat → Int32) (walk_ends : Nat → Int64) (walk_seen : Nat → Int32) (walk_begun : Nat → Int32) (post : (Int32 × Int32 × Int32 × Int32 × Int32 × Int32 × Int32 × Int32 × Int64 × Int32 × Int32 × Int32 × Int32 × Int32 × (Nat → Int32) × (Nat → Int32) × (Nat → Int32) × (Nat → Int32) × (Nat → Int32) × (Nat → Int64) × (Nat → Int32) × (Nat → Int32)) → Prop) (hf : okP (f_X6_ways o_walkIsOld told_settings told_howFar told_tones told_fars walk_last walk_turnsLet walk_slowsLet walk_fuel walk_glide walk_count walk_weightSum walk_toPass walk_foundNumber walk_foundWeight walk_foundTurns walk_foundSlowed walk_howFar walk_tones walk_only walk_fars walk_cellAt walk_ends walk_seen walk_begun) post) : Ci l (dC, dI) (tyL cyI cyJ cyO) yX6_ways wsX6_ways rm_X6_ways [.ref h_o] sz (W_X6_ways cyI cyJ cyO h_o h_told h_walk h_kept h_trial h_seas h_ends h_otherEnds h_tape a_sheets a_told_settings a_told_howFar a_told_tones a_told_currents a_told_warmths a_told_depths a_told_fars a_told_pieceCells a_told_pieceMonths a_told_pieceHighs a_told_pieceAges a_told_pieceNeeds a_told_dragCells a_told_dragEighths a_walk_howFar a_walk_tones a_walk_only a_walk_fars a_walk_cellAt a_walk_ends a_walk_seen a_walk_begun o_hasImage o_walkIsOld o_endsAreOld told_pieceCount told_dragCount told_settings told_howFar told_tones told_fars walk_last walk_turnsLet walk_slowsLet walk_fuel walk_glide walk_count walk_weightSum walk_toPass walk_foundNumber walk_foundWeight walk_foundTurns walk_foundSlowed walk_howFar walk_tones walk_only walk_fars walk_cellAt walk_ends walk_seen walk_begun) (zX tD tR tL tM) (fun r u => post (r, u)) (fun u => (W_X6_ways cyI cyJ cyO h_o h_told h_walk h_kept h_trial h_seas h_ends h_otherEnds h_tape a_sheets a_told_settings a_told_howFar a_told_tones a_told_currents a_told_warmths a_told_depths a_told_fars a_told_pieceCells a_told_pieceMonths a_told_pieceHighs a_told_pieceAges a_told_pieceNeeds a_told_dragCells a_told_dragEighths a_walk_howFar a_walk_tones a_walk_only a_walk_fars a_walk_cellAt a_walk_ends a_walk_seen a_walk_begun o_hasImage u.1 o_endsAreOld told_pieceCount told_dragCount told_settings told_howFar told_tones told_fars u.2.1 u.2.2.1 u.2.2.2.1 u.2.2.2.2.1 u.2.2.2.2.2.1 u.2.2.2.2.2.2.1 u.2.2.2.2.2.2.2.1 u.2.2.2.2.2.2.2.2.1 u.2.2.2.2.2.2.2.2.2.1 u.2.2.2.2.2.2.2.2.2.2.1 u.2.2.2.2.2.2.2.2.2.2.2.1 u.2.2.2.2.2.2.2.2.2.2.2.2.1 u.2.2.2.2.2.2.2.2.2.2.2.2.2.1 u.2.2.2.2.2.2.2.2.2.2.2.2.2.2.1 u.2.2.2.2.2.2.2.2.2.2.2.2.2.2.2.1 u.2.2.2.2.2.2.2.2.2.2.2.2.2.2.2.2.1 u.2.2.2.2.2.2.2.2.2.2.2.2.2.2.2.2.2.1 u.2.2.2.2.2.2.2.2.2.2.2.2.2.2.2.2.2.2.1 u.2.2.2.2.2.2.2.2.2.2.2.2.2.2.2.2.2.2.2.1 u.2.2.2.2.2.2.2.2.2.2.2.2.2.2.2.2.2.2.2.2)) := by
  refine Met.ofW (cc := cX6_ways) (maxL := 1) (ret := (some .int)) (by decide) rfl ?_
  intro p e s m args below meth c s₁ B hml hv
  obtain ⟨rfl, hsz, hP, hK, hD0, hZ⟩ := hv
  have hx := B.exec
  have hb := B.bytes
  have hr := B.returns
  have hts := atoms_spec (ws := wsX6_ways) B.pre
  have hown : s.vm.findClass RX6 = some m.cls := findClass_of_methodNamed B.named
  have hlocks := B.notSynchronized
  subst hsz
  have hD := hD0.self (sz := s.heap.size)
  generalize hAe : va_A (W_X6_ways cyI cyJ cyO h_o h_told h_walk h_kept h_trial h_seas h_ends h_otherEnds h_tape a_sheets a_told_settings a_told_howFar a_told_tones a_told_currents a_told_warmths a_told_depths a_told_fars a_told_pieceCells a_told_pieceMonths a_told_pieceHighs a_told_pieceAges a_told_pieceNeeds a_told_dragCells a_told_dragEighths a_walk_howFar a_walk_tones a_walk_only a_walk_fars a_walk_cellAt a_walk_ends a_walk_seen a_walk_begun o_hasImage o_walkIsOld o_endsAreOld told_pieceCount told_dragCount told_settings told_howFar told_tones told_fars walk_last walk_turnsLet walk_slowsLet walk_fuel walk_glide walk_count walk_weightSum walk_toPass walk_foundNumber walk_foundWeight walk_foundTurns walk_foundSlowed walk_howFar walk_tones walk_only walk_fars walk_cellAt walk_ends walk_seen walk_begun) s.heap.size = A at hD hZ ⊢
  have hA : ∀ q : Nat, s.heap.size ≤ q → A q := fun q h => by rw [← hAe]; exact Or.inr h
  clear hAe hD0
  have hS : va_S A s.heap s.heap [] := va_S.rf
  have hl := lv_entry ([.ref h_o]) (n := 1) (Nat.le_of_ble_eq_true rfl)
  rw [lg_entry_eq]
  generalize (lg_sl ([.ref h_o]) ++ List.replicate (1 - (lg_sl ([.ref h_o])).length) Slot.unset).toArray = ls at hl ⊢
  have hl : lv_has ls 1 [(0, .ref h_o)] := hl
  refine kW (fun Q hQ => ?_)
  have hq0 := hts _ (List.mem_cons_of_mem _ q_134)
  have hi5 : ∀ w ∈ u_ws RX5 TX5 20, w ∈ wsX6_ways := fun w h => List.mem_cons_of_mem _ (inX5 w h)
  have hw := hf
  unfold f_X6_ways at hw
  have hP : va_P (dC, dI) vwCl (W_X6_ways cyI cyJ cyO h_o h_told h_walk h_kept h_trial h_seas h_ends h_otherEnds h_tape a_sheets a_told_settings a_told_howFar a_told_tones a_told_currents a_told_warmths a_told_depths a_told_fars a_told_pieceCells a_told_pieceMonths a_told_pieceHighs a_told_pieceAges a_told_pieceNeeds a_told_dragCells a_told_dragEighths a_walk_howFar a_walk_tones a_walk_only a_walk_fars a_walk_cellAt a_walk_ends a_walk_seen a_walk_begun o_hasImage o_walkIsOld o_endsAreOld told_pieceCount told_dragCount told_settings told_howFar told_tones told_fars walk_last walk_turnsLet walk_slowsLet walk_fuel walk_glide walk_count walk_weightSum walk_toPass walk_foundNumber walk_foundWeight walk_foundTurns walk_foundSlowed walk_howFar walk_tones walk_only walk_fars walk_cellAt walk_ends walk_seen walk_begun) s.heap := hP
  obtain ⟨H, hH⟩ : ∃ H, H = s.heap := ⟨_, rfl⟩
  obtain ⟨locs, hlo⟩ : ∃ x : List Loc, x = [] := ⟨_, rfl⟩
  have hP : va_P (dC, dI) vwCl (W_X6_ways cyI cyJ cyO h_o h_told h_walk h_kept h_trial h_seas h_ends h_otherEnds h_tape a_sheets a_told_settings a_told_howFar a_told_tones a_told_currents a_told_warmths a_told_depths a_told_fars a_told_pieceCells a_told_pieceMonths a_told_pieceHighs a_told_pieceAges a_told_pieceNeeds a_told_dragCells a_told_dragEighths a_walk_howFar a_walk_tones a_walk_only a_walk_fars a_walk_cellAt a_walk_ends a_walk_seen a_walk_begun o_hasImage o_walkIsOld o_endsAreOld told_pieceCount told_dragCount told_settings told_howFar told_tones told_fars walk_last walk_turnsLet walk_slowsLet walk_fuel walk_glide walk_count walk_weightSum walk_toPass walk_foundNumber walk_foundWeight walk_foundTurns walk_foundSlowed walk_howFar walk_tones walk_only walk_fars walk_cellAt walk_ends walk_seen walk_begun) H := by rw [hH]; exact hP
  have hS : va_S A s.heap H locs := by rw [hH, hlo]; exact hS
  refine kH hH hlo ?_
  clear hH hlo
  refine lv_aload_n hx hb dX6_ways_0 rfl (lv_at hl 0 rfl) ?_
  have hPc := hP.sub (ws' := (W_X6_walked cyI cyJ cyO h_o h_told h_walk h_kept h_trial h_seas h_ends h_otherEnds h_tape a_sheets a_told_settings a_told_howFar a_told_tones a_told_currents a_told_warmths a_told_depths a_told_fars a_told_pieceCells a_told_pieceMonths a_told_pieceHighs a_told_pieceAges a_told_pieceNeeds a_told_dragCells a_told_dragEighths a_walk_howFar a_walk_tones a_walk_only a_walk_fars a_walk_cellAt a_walk_ends a_walk_seen a_walk_begun o_hasImage o_walkIsOld o_endsAreOld told_pieceCount told_dragCount told_settings told_howFar told_tones told_fars walk_last walk_turnsLet walk_slowsLet walk_fuel walk_glide walk_count walk_weightSum walk_toPass walk_foundNumber walk_foundWeight walk_foundTurns walk_foundSlowed walk_howFar walk_tones walk_only walk_fars walk_cellAt walk_ends walk_seen walk_begun)) [0, 1, 2, 3, 4, 5, 6, 7, 8, 9, 10, 11, 12, 13, 14] rfl
  have hDc := hD.sub (ws' := (W_X6_walked cyI cyJ cyO h_o h_told h_walk h_kept h_trial h_seas h_ends h_otherEnds h_tape a_sheets a_told_settings a_told_howFar a_told_tones a_told_currents a_told_warmths a_told_depths a_told_fars a_told_pieceCells a_told_pieceMonths a_told_pieceHighs a_told_pieceAges a_told_pieceNeeds a_told_dragCells a_told_dragEighths a_walk_howFar a_walk_tones a_walk_only a_walk_fars a_walk_cellAt a_walk_ends a_walk_seen a_walk_begun o_hasImage o_walkIsOld o_endsAreOld told_pieceCount told_dragCount told_settings told_howFar told_tones told_fars walk_last walk_turnsLet walk_slowsLet walk_fuel walk_glide walk_count walk_weightSum walk_toPass walk_foundNumber walk_foundWeight walk_foundTurns walk_foundSlowed walk_howFar walk_tones walk_only walk_fars walk_cellAt walk_ends walk_seen walk_begun)) [0, 1, 2, 3, 4, 5, 6, 7, 8, 9, 10, 11, 12, 13, 14] (by decide +kernel) rfl
  have hFc := va_free (wc := (W_X6_walked cyI cyJ cyO h_o h_told h_walk h_kept h_trial h_seas h_ends h_otherEnds h_tape a_sheets a_told_settings a_told_howFar a_told_tones a_told_currents a_told_warmths a_told_depths a_told_fars a_told_pieceCells a_told_pieceMonths a_told_pieceHighs a_told_pieceAges a_told_pieceNeeds a_told_dragCells a_told_dragEighths a_walk_howFar a_walk_tones a_walk_only a_walk_fars a_walk_cellAt a_walk_ends a_walk_seen a_walk_begun o_hasImage o_walkIsOld o_endsAreOld told_pieceCount told_dragCount told_settings told_howFar told_tones told_fars walk_last walk_turnsLet walk_slowsLet walk_fuel walk_glide walk_count walk_weightSum walk_toPass walk_foundNumber walk_foundWeight walk_foundTurns walk_foundSlowed walk_howFar walk_tones walk_only walk_fars walk_cellAt walk_ends walk_seen walk_begun)) hD hS hA [0, 1, 2, 3, 4, 5, 6, 7, 8, 9, 10, 11, 12, 13, 14] rfl
  refine kc_r (wr := []) (va_runV (As := []) (rest := []) ⟨hx, hb, hml, hown, hts⟩ (c_X6_walked l dC dI cyI cyJ cyO H.size tD tR tL tM h_o h_told h_walk h_kept h_trial h_seas h_ends h_otherEnds h_tape a_sheets a_told_settings a_told_howFar a_told_tones a_told_currents a_told_warmths a_told_depths a_told_fars a_told_pieceCells a_told_pieceMonths a_told_pieceHighs a_told_pieceAges a_told_pieceNeeds a_told_dragCells a_told_dragEighths a_walk_howFar a_walk_tones a_walk_only a_walk_fars a_walk_cellAt a_walk_ends a_walk_seen a_walk_begun o_hasImage o_walkIsOld o_endsAreOld told_pieceCount told_dragCount told_settings told_howFar told_tones told_fars walk_last walk_turnsLet walk_slowsLet walk_fuel walk_glide walk_count walk_weightSum walk_toPass walk_foundNumber walk_foundWeight walk_foundTurns walk_foundSlowed walk_howFar walk_tones walk_only walk_fars walk_cellAt walk_ends walk_seen walk_begun _ (okb21 hw)) (cwV 0 hts (gdV (fun w h => List.mem_cons_of_mem _ h) q_397 q_399 qs_9 q_1 q_400) rfl rfl rfl (by decide +kernel) ⟨Nat.le_of_ble_eq_true rfl, Nat.le_of_ble_eq_true rfl⟩) ⟨(kpre zX_ok hK hPc hDc hZ hS hFc).1, va_recv hK hP (ci := 6) (q0 := 0) rfl rfl, (kpre zX_ok hK hPc hDc hZ hS hFc).2⟩ rfl rfl hl.1 rfl (lv_room (Nat.le_of_ble_eq_true rfl)) dX6_ways_1 ⟨Nat.le_of_ble_eq_true rfl, Nat.le_of_ble_eq_true rfl⟩) hP hD hS hFc [0, 1, 2, 3, 4, 5, 6, 7, 8, 9, 10, 11, 12, 13, 14] [] rfl rfl (by decide +kernel) (by decide +kernel) (fun u H locs hw hP hD hS => ?_)
  obtain ⟨w_1, w_2, w_3, w_4, w_5, w_6, w_7, w_8, w_9, w_10, w_11, w_12, w_13, w_14, w_15, w_16, w_17, w_18, w_19, w_20, w_21⟩ := u
  try dsimp only at hw
  have hP : va_P (dC, dI) vwCl (W_X6_ways cyI cyJ cyO h_o h_told h_walk h_kept h_trial h_seas h_ends h_otherEnds h_tape a_sheets a_told_settings a_told_howFar a_told_tones a_told_currents a_told_warmths a_told_depths a_told_fars a_told_pieceCells a_told_pieceMonths a_told_pieceHighs a_told_pieceAges a_told_pieceNeeds a_told_dragCells a_told_dragEighths a_walk_howFar a_walk_tones a_walk_only a_walk_fars a_walk_cellAt a_walk_ends a_walk_seen a_walk_begun o_hasImage w_1 o_endsAreOld told_pieceCount told_dragCount told_settings told_howFar told_tones told_fars w_2 w_3 w_4 w_5 w_6 w_7 w_8 w_9 w_10 w_11 w_12 w_13 w_14 w_15 w_16 w_17 w_18 w_19 w_20 w_21) H := hP.sub [0, 1, 2, 3, 4, 5, 6, 7, 8, 9, 10, 11, 12, 13, 14] rfl
  have hD : va_D A (W_X6_ways cyI cyJ cyO h_o h_told h_walk h_kept h_trial h_seas h_ends h_otherEnds h_tape a_sheets a_told_settings a_told_howFar a_told_tones a_told_currents a_told_warmths a_told_depths a_told_fars a_told_pieceCells a_told_pieceMonths a_told_pieceHighs a_told_pieceAges a_told_pieceNeeds a_told_dragCells a_told_dragEighths a_walk_howFar a_walk_tones a_walk_only a_walk_fars a_walk_cellAt a_walk_ends a_walk_seen a_walk_begun o_hasImage w_1 o_endsAreOld told_pieceCount told_dragCount told_settings told_howFar told_tones told_fars w_2 w_3 w_4 w_5 w_6 w_7 w_8 w_9 w_10 w_11 w_12 w_13 w_14 w_15 w_16 w_17 w_18 w_19 w_20 w_21) := hD.sub [0, 1, 2, 3, 4, 5, 6, 7, 8, 9, 10, 11, 12, 13, 14] (by decide +kernel) rfl
  clear hPc hDc hFc
  refine va_get (D := (dC, dI)) (ci := 5) (v := .int w_7) (C := RX5) (T := TX5) (N := 20) hx hb hts hi5 hown hK hP 6 rfl rfl 13 (by decide) hq0 (fun _ h9 => h9) rfl dX6_ways_4 ?_
  rw [hQ]
  exact W.iret (v := w_7) hx hb hr (fun t ht hW => ⟨⟨w_7, (w_1, w_2, w_3, w_4, w_5, w_6, w_7, w_8, w_9, w_10, w_11, w_12, w_13, w_14, w_15, w_16, w_17, w_18, w_19, w_20, w_21), rfl, okS hw, by rw [ht]; exact hP, va_K.moved hW.alike hK, hD⟩, hS.F ht⟩) hS.2.2 dX6_ways_7
/-! ===== X6_weight ===== -/
theorem dX6_weight_0 : decode cX6_weight 0 = .ok (.aload_n 0, 1) := by decide +kernel
theorem dX6_weight_1 : decode cX6_weight 1 = .ok (.invokevirtual 121, 3) := by decide +kernel
theorem dX6_weight_4 : decode cX6_weight 4 = .ok (.getfield 129, 3) := by decide +kernel
theorem dX6_weight_7 : decode cX6_weight 7 = .ok (.lreturn, 1) := by decide +kernel
abbrev W_X6_weight (cyI cyJ cyO : ClassId) (h_o h_told h_walk h_kept h_trial h_seas h_ends h_otherEnds h_tape a_sheets a_told_settings a_told_howFar a_told_tones a_told_currents a_told_warmths a_told_depths a_told_fars a_told_pieceCells a_told_pieceMonths a_told_pieceHighs a_told_pieceAges a_told_pieceNeeds a_told_dragCells a_told_dragEighths a_walk_howFar a_walk_tones a_walk_only a_walk_fars a_walk_cellAt a_walk_ends a_walk_seen a_walk_begun : Nat) (o_hasImage : Int32) (o_walkIsOld : Int32) (o_endsAreOld : Int32) (told_pieceCount : Int32) (told_dragCount : Int32) (told_settings : Nat → Int32) (told_howFar : Nat → Int32) (told_tones : Nat → Int32) (told_fars : Nat → Int32) (walk_last : Int32) (walk_turnsLet : Int32) (walk_slowsLet : Int32) (walk_fuel : Int32) (walk_glide : Int32) (walk_count : Int32) (walk_weightSum : Int64) (walk_toPass : Int32) (walk_foundNumber : Int32) (walk_foundWeight : Int32) (walk_foundTurns : Int32) (walk_foundSlowed : Int32) (walk_howFar : Nat → Int32) (walk_tones : Nat → Int32) (walk_only : Nat → Int32) (walk_fars : Nat → Int32) (walk_cellAt : Nat → Int32) (walk_ends : Nat → Int64) (walk_seen : Nat → Int32) (walk_begun : Nat → Int32) : va_W := [(h_o, .inr (6, [.ref h_told, .ref h_kept, .ref h_walk, .ref h_trial, .ref h_seas, .ref h_ends, .ref h_otherEnds, .ref h_tape, .ref a_sheets, .int o_hasImage, .int o_walkIsOld, .int o_endsAreOld])), (h_told, .inr (4, [.ref a_told_settings, .ref a_told_howFar, .ref a_told_tones, .ref a_told_currents, .ref a_told_warmths, .ref a_told_depths, .ref a_told_fars, .ref a_told_pieceCells, .ref a_told_pieceMonths, .ref a_told_pieceHighs, .ref a_told_pieceAges, .ref a_told_pieceNeeds, .ref a_told_dragCells, .ref a_told_dragEighths, .int told_pieceCount, .int told_dragCount])), (a_told_settings, .inl (cyI, 8, .inl told_settings)), (a_told_howFar, .inl (cyI, 7, .inl told_howFar)), (a_told_tones, .inl (cyI, 7, .inl told_tones)), (a_told_fars, .inl (cyI, 100, .inl told_fars)), (h_walk, .inr (5, [.ref a_walk_howFar, .ref a_walk_tones, .ref a_walk_only, .ref a_walk_fars, .int walk_last, .int walk_turnsLet, .int walk_slowsLet, .int walk_fuel, .int walk_glide, .ref a_walk_cellAt, .ref a_walk_ends, .ref a_walk_seen, .ref a_walk_begun, .int walk_count, .long walk_weightSum, .int walk_toPass, .int walk_foundNumber, .int walk_foundWeight, .int walk_foundTurns, .int walk_foundSlowed])), (a_walk_howFar, .inl (cyI, 7, .inl walk_howFar)), (a_walk_tones, .inl (cyI, 7, .inl walk_tones)), (a_walk_only, .inl (cyI, 7, .inl walk_only)), (a_walk_fars, .inl (cyI, 100, .inl walk_fars)), (a_walk_cellAt, .inl (cyI, 7, .inl walk_cellAt)), (a_walk_ends, .inl (cyJ, 100, .inr (.inl walk_ends))), (a_walk_seen, .inl (cyI, 70, .inl walk_seen)), (a_walk_begun, .inl (cyI, 24, .inl walk_begun))]
def f_X6_weight (o_walkIsOld : Int32) (told_settings : Nat → Int32) (told_howFar : Nat → Int32) (told_tones : Nat → Int32) (told_fars : Nat → Int32) (walk_last : Int32) (walk_turnsLet : Int32) (walk_slowsLet : Int32) (walk_fuel : Int32) (walk_glide : Int32) (walk_count : Int32) (walk_weightSum : Int64) (walk_toPass : Int32) (walk_foundNumber : Int32) (walk_foundWeight : Int32) (walk_foundTurns : Int32) (walk_foundSlowed : Int32) (walk_howFar : Nat → Int32) (walk_tones : Nat → Int32) (walk_only : Nat → Int32) (walk_fars : Nat → Int32) (walk_cellAt : Nat → Int32) (walk_ends : Nat → Int64) (walk_seen : Nat → Int32) (walk_begun : Nat → Int32) : Option (Int64 × Int32 × Int32 × Int32 × Int32 × Int32 × Int32 × Int32 × Int64 × Int32 × Int32 × Int32 × Int32 × Int32 × (Nat → Int32) × (Nat → Int32) × (Nat → Int32) × (Nat → Int32) × (Nat → Int32) × (Nat → Int64) × (Nat → Int32) × (Nat → Int32)) :=
  bd21 (f_X6_walked o_walkIsOld told_settings told_howFar told_tones told_fars walk_last walk_turnsLet walk_slowsLet walk_fuel walk_glide walk_count walk_weightSum walk_toPass walk_foundNumber walk_foundWeight walk_foundTurns walk_foundSlowed walk_howFar walk_tones walk_only walk_fars walk_cellAt walk_ends walk_seen walk_begun) fun w_1 w_2 w_3 w_4 w_5 w_6 w_7 w_8 w_9 w_10 w_11 w_12 w_13 w_14 w_15 w_16 w_17 w_18 w_19 w_20 w_21 =>
  some (w_8, w_1, w_2, w_3, w_4, w_5, w_6, w_7, w_8, w_9, w_10, w_11, w_12, w_13, w_14, w_15, w_16, w_17, w_18, w_19, w_20, w_21)
abbrev rm_X6_weight : Room := { frames := 43, cells := 0, slots := 0, locals := 1074 }
set_option maxRecDepth 100000 in
set_option maxHeartbeats 4000000 in
theorem c_X6_weight (l : Launch) (dC : Nat → ClassId) (dI : Nat → Nat → Nat) (cyI cyJ cyO : ClassId) (sz : Nat) (tD tR tL tM : Nat) (h_o h_told h_walk h_kept h_trial h_seas h_ends h_otherEnds h_tape a_sheets a_told_settings a_told_howFar a_told_tones a_told_currents a_told_warmths a_told_depths a_told_fars a_told_pieceCells a_told_pieceMonths a_told_pieceHighs a_told_pieceAges a_told_pieceNeeds a_told_dragCells a_told_dragEighths a_walk_howFar a_walk_tones a_walk_only a_walk_fars a_walk_cellAt a_walk_ends a_walk_seen a_walk_begun : Nat) (o_hasImage : Int32) (o_walkIsOld : Int32) (o_endsAreOld : Int32) (told_pieceCount : Int32) (told_dragCount : Int32) (told_settings : Nat → Int32) (told_howFar : Nat → Int32) (told_tones : Nat → Int32) (told_fars : Nat → Int32) (walk_last : Int32) (walk_turnsLet : Int32) (walk_slowsLet : Int32) (walk_fuel : Int32) (walk_glide : Int32) (walk_count : Int32) (walk_weightSum : Int64) (walk_toPass : Int32) (walk_foundNumber : Int32) (walk_foundWeight : Int32) (walk_foundTurns : Int32) (walk_foundSlowed : Int32) (walk_howFar : Nat → Int32) (walk_tones : Nat → Int32) (walk_only : Nat → Int32) (walk_fars : Nat → Int32) (walk_cellAt : Nat → Int32) (walk_ends : Nat → Int64) (walk_seen : Nat → Int32) (walk_begun : Nat → Int32) (post : (Int64 × Int32 × Int32 × Int32 × Int32 × Int32 × Int32 × Int32 × Int64 × Int32 × Int32 × Int32 × Int32 × Int32 × (Nat → Int32) × (Nat → Int32) × (Nat → Int32) × (Nat → Int32) × (Nat → Int32) × (Nat → Int64) × (Nat → Int32) × (Nat → Int32)) → Prop) (hf : okP (f_X6_weight o_walkIsOld told_settings told_howFar told_tones told_fars walk_last walk_turnsLet walk_slowsLet walk_fuel walk_glide walk_count walk_weightSum walk_toPass walk_foundNumber walk_foundWeight walk_foundTurns walk_foundSlowed walk_howFar walk_tones walk_only walk_fars walk_cellAt walk_ends walk_seen walk_begun) post) : Cl l (dC, dI) (tyL cyI cyJ cyO) yX6_weight wsX6_weight rm_X6_weight [.ref h_o] sz (W_X6_weight cyI cyJ cyO h_o h_told h_walk h_kept h_trial h_seas h_ends h_otherEnds h_tape a_sheets a_told_settings a_told_howFar a_told_tones a_told_currents a_told_warmths a_told_depths a_told_fars a_told_pieceCells a_told_pieceMonths a_told_pieceHighs a_told_pieceAges a_told_pieceNeeds a_told_dragCells a_told_dragEighths a_walk_howFar a_walk_tones a_walk_only a_walk_fars a_walk_cellAt a_walk_ends a_walk_seen a_walk_begun o_hasImage o_walkIsOld o_endsAreOld told_pieceCount told_dragCount told_settings told_howFar told_tones told_fars walk_last walk_turnsLet walk_slowsLet walk_fuel walk_glide walk_count walk_weightSum walk_toPass walk_foundNumber walk_foundWeight walk_foundTurns walk_foundSlowed walk_howFar walk_tones walk_only walk_fars walk_cellAt walk_ends walk_seen walk_begun) (zX tD tR tL tM) (fun r u => post (r, u)) (fun u => (W_X6_weight cyI cyJ cyO h_o h_told h_walk h_kept h_trial h_seas h_ends h_otherEnds h_tape a_sheets a_told_settings a_told_howFar a_told_tones a_told_currents a_told_warmths a_told_depths a_told_fars a_told_pieceCells a_told_pieceMonths a_told_pieceHighs a_told_pieceAges a_told_pieceNeeds a_told_dragCells a_told_dragEighths a_walk_howFar a_walk_tones a_walk_only a_walk_fars a_walk_cellAt a_walk_ends a_walk_seen a_walk_begun o_hasImage u.1 o_endsAreOld told_pieceCount told_dragCount told_settings told_howFar told_tones told_fars u.2.1 u.2.2.1 u.2.2.2.1 u.2.2.2.2.1 u.2.2.2.2.2.1 u.2.2.2.2.2.2.1 u.2.2.2.2.2.2.2.1 u.2.2.2.2.2.2.2.2.1 u.2.2.2.2.2.2.2.2.2.1 u.2.2.2.2.2.2.2.2.2.2.1 u.2.2.2.2.2.2.2.2.2.2.2.1 u.2.2.2.2.2.2.2.2.2.2.2.2.1 u.2.2.2.2.2.2.2.2.2.2.2.2.2.1 u.2.2.2.2.2.2.2.2.2.2.2.2.2.2.1 u.2.2.2.2.2.2.2.2.2.2.2.2.2.2.2.1 u.2.2.2.2.2.2.2.2.2.2.2.2.2.2.2.2.1 u.2.2.2.2.2.2.2.2.2.2.2.2.2.2.2.2.2.1 u.2.2.2.2.2.2.2.2.2.2.2.2.2.2.2.2.2.2.1 u.2.2.2.2.2.2.2.2.2.2.2.2.2.2.2.2.2.2.2.1 u.2.2.2.2.2.2.2.2.2.2.2.2.2.2.2.2.2.2.2.2)) := by
  refine Met.ofW (cc := cX6_weight) (maxL := 1) (ret := (some .long)) (by decide) rfl ?_
  intro p e s m args below meth c s₁ B hml hv
  obtain ⟨rfl, hsz, hP, hK, hD0, hZ⟩ := hv
  have hx := B.exec
  have hb := B.bytes
  have hr := B.returns
  have hts := atoms_spec (ws := wsX6_weight) B.pre
  have hown : s.vm.findClass RX6 = some m.cls := findClass_of_methodNamed B.named
  have hlocks := B.notSynchronized
  subst hsz
  have hD := hD0.self (sz := s.heap.size)
  generalize hAe : va_A (W_X6_weight cyI cyJ cyO h_o h_told h_walk h_kept h_trial h_seas h_ends h_otherEnds h_tape a_sheets a_told_settings a_told_howFar a_told_tones a_told_currents a_told_warmths a_told_depths a_told_fars a_told_pieceCells a_told_pieceMonths a_told_pieceHighs a_told_pieceAges a_told_pieceNeeds a_told_dragCells a_told_dragEighths a_walk_howFar a_walk_tones a_walk_only a_walk_fars a_walk_cellAt a_walk_ends a_walk_seen a_walk_begun o_hasImage o_walkIsOld o_endsAreOld told_pieceCount told_dragCount told_settings told_howFar told_tones told_fars walk_last walk_turnsLet walk_slowsLet walk_fuel walk_glide walk_count walk_weightSum walk_toPass walk_foundNumber walk_foundWeight walk_foundTurns walk_foundSlowed walk_howFar walk_tones walk_only walk_fars walk_cellAt walk_ends walk_seen walk_begun) s.heap.size = A at hD hZ ⊢
  have hA : ∀ q : Nat, s.heap.size ≤ q → A q := fun q h => by rw [← hAe]; exact Or.inr h
  clear hAe hD0
  have hS : va_S A s.heap s.heap [] := va_S.rf
  have hl := lv_entry ([.ref h_o]) (n := 1) (Nat.le_of_ble_eq_true rfl)
  rw [lg_entry_eq]
  generalize (lg_sl ([.ref h_o]) ++ List.replicate (1 - (lg_sl ([.ref h_o])).length) Slot.unset).toArray = ls at hl ⊢
  have hl : lv_has ls 1 [(0, .ref h_o)] := hl
  refine kW (fun Q hQ => ?_)
  have hq0 := hts _ (List.mem_cons_of_mem _ q_136)
  have hi5 : ∀ w ∈ u_ws RX5 TX5 20, w ∈ wsX6_weight := fun w h => List.mem_cons_of_mem _ (inX5 w h)
  have hw := hf
  unfold f_X6_weight at hw
  have hP : va_P (dC, dI) vwCl (W_X6_weight cyI cyJ cyO h_o h_told h_walk h_kept h_trial h_seas h_ends h_otherEnds h_tape a_sheets a_told_settings a_told_howFar a_told_tones a_told_currents a_told_warmths a_told_depths a_told_fars a_told_pieceCells a_told_pieceMonths a_told_pieceHighs a_told_pieceAges a_told_pieceNeeds a_told_dragCells a_told_dragEighths a_walk_howFar a_walk_tones a_walk_only a_walk_fars a_walk_cellAt a_walk_ends a_walk_seen a_walk_begun o_hasImage o_walkIsOld o_endsAreOld told_pieceCount told_dragCount told_settings told_howFar told_tones told_fars walk_last walk_turnsLet walk_slowsLet walk_fuel walk_glide walk_count walk_weightSum walk_toPass walk_foundNumber walk_foundWeight walk_foundTurns walk_foundSlowed walk_howFar walk_tones walk_only walk_fars walk_cellAt walk_ends walk_seen walk_begun) s.heap := hP
  obtain ⟨H, hH⟩ : ∃ H, H = s.heap := ⟨_, rfl⟩
  obtain ⟨locs, hlo⟩ : ∃ x : List Loc, x = [] := ⟨_, rfl⟩
  have hP : va_P (dC, dI) vwCl (W_X6_weight cyI cyJ cyO h_o h_told h_walk h_kept h_trial h_seas h_ends h_otherEnds h_tape a_sheets a_told_settings a_told_howFar a_told_tones a_told_currents a_told_warmths a_told_depths a_told_fars a_told_pieceCells a_told_pieceMonths a_told_pieceHighs a_told_pieceAges a_told_pieceNeeds a_told_dragCells a_told_dragEighths a_walk_howFar a_walk_tones a_walk_only a_walk_fars a_walk_cellAt a_walk_ends a_walk_seen a_walk_begun o_hasImage o_walkIsOld o_endsAreOld told_pieceCount told_dragCount told_settings told_howFar told_tones told_fars walk_last walk_turnsLet walk_slowsLet walk_fuel walk_glide walk_count walk_weightSum walk_toPass walk_foundNumber walk_foundWeight walk_foundTurns walk_foundSlowed walk_howFar walk_tones walk_only walk_fars walk_cellAt walk_ends walk_seen walk_begun) H := by rw [hH]; exact hP
  have hS : va_S A s.heap H locs := by rw [hH, hlo]; exact hS
  refine kH hH hlo ?_
  clear hH hlo
  refine lv_aload_n hx hb dX6_weight_0 rfl (lv_at hl 0 rfl) ?_
  have hPc := hP.sub (ws' := (W_X6_walked cyI cyJ cyO h_o h_told h_walk h_kept h_trial h_seas h_ends h_otherEnds h_tape a_sheets a_told_settings a_told_howFar a_told_tones a_told_currents a_told_warmths a_told_depths a_told_fars a_told_pieceCells a_told_pieceMonths a_told_pieceHighs a_told_pieceAges a_told_pieceNeeds a_told_dragCells a_told_dragEighths a_walk_howFar a_walk_tones a_walk_only a_walk_fars a_walk_cellAt a_walk_ends a_walk_seen a_walk_begun o_hasImage o_walkIsOld o_endsAreOld told_pieceCount told_dragCount told_settings told_howFar told_tones told_fars walk_last walk_turnsLet walk_slowsLet walk_fuel walk_glide walk_count walk_weightSum walk_toPass walk_foundNumber walk_foundWeight walk_foundTurns walk_foundSlowed walk_howFar walk_tones walk_only walk_fars walk_cellAt walk_ends walk_seen walk_begun)) [0, 1, 2, 3, 4, 5, 6, 7, 8, 9, 10, 11, 12, 13, 14] rfl
  have hDc := hD.sub (ws' := (W_X6_walked cyI cyJ cyO h_o h_told h_walk h_kept h_trial h_seas h_ends h_otherEnds h_tape a_sheets a_told_settings a_told_howFar a_told_tones a_told_currents a_told_warmths a_told_depths a_told_fars a_told_pieceCells a_told_pieceMonths a_told_pieceHighs a_told_pieceAges a_told_pieceNeeds a_told_dragCells a_told_dragEighths a_walk_howFar a_walk_tones a_walk_only a_walk_fars a_walk_cellAt a_walk_ends a_walk_seen a_walk_begun o_hasImage o_walkIsOld o_endsAreOld told_pieceCount told_dragCount told_settings told_howFar told_tones told_fars walk_last walk_turnsLet walk_slowsLet walk_fuel walk_glide walk_count walk_weightSum walk_toPass walk_foundNumber walk_foundWeight walk_foundTurns walk_foundSlowed walk_howFar walk_tones walk_only walk_fars walk_cellAt walk_ends walk_seen walk_begun)) [0, 1, 2, 3, 4, 5, 6, 7, 8, 9, 10, 11, 12, 13, 14] (by decide +kernel) rfl
  have hFc := va_free (wc := (W_X6_walked cyI cyJ cyO h_o h_told h_walk h_kept h_trial h_seas h_ends h_otherEnds h_tape a_sheets a_told_settings a_told_howFar a_told_tones a_told_currents a_told_warmths a_told_depths a_told_fars a_told_pieceCells a_told_pieceMonths a_told_pieceHighs a_told_pieceAges a_told_pieceNeeds a_told_dragCells a_told_dragEighths a_walk_howFar a_walk_tones a_walk_only a_walk_fars a_walk_cellAt a_walk_ends a_walk_seen a_walk_begun o_hasImage o_walkIsOld o_endsAreOld told_pieceCount told_dragCount told_settings told_howFar told_tones told_fars walk_last walk_turnsLet walk_slowsLet walk_fuel walk_glide walk_count walk_weightSum walk_toPass walk_foundNumber walk_foundWeight walk_foundTurns walk_foundSlowed walk_howFar walk_tones walk_only walk_fars walk_cellAt walk_ends walk_seen walk_begun)) hD hS hA [0, 1, 2, 3, 4, 5, 6, 7, 8, 9, 10, 11, 12, 13, 14] rfl
  refine kc_r (wr := []) (va_runV (As := []) (rest := []) ⟨hx, hb, hml, hown, hts⟩ (c_X6_walked l dC dI cyI cyJ cyO H.size tD tR tL tM h_o h_told h_walk h_kept h_trial h_seas h_ends h_otherEnds h_tape a_sheets a_told_settings a_told_howFar a_told_tones a_told_currents a_told_warmths a_told_depths a_told_fars a_told_pieceCells a_told_pieceMonths a_told_pieceHighs a_told_pieceAges a_told_pieceNeeds a_told_dragCells a_told_dragEighths a_walk_howFar a_walk_tones a_walk_only a_walk_fars a_walk_cellAt a_walk_ends a_walk_seen a_walk_begun o_hasImage o_walkIsOld o_endsAreOld told_pieceCount told_dragCount told_settings told_howFar told_tones told_fars walk_last walk_turnsLet walk_slowsLet walk_fuel walk_glide walk_count walk_weightSum walk_toPass walk_foundNumber walk_foundWeight walk_foundTurns walk_foundSlowed walk_howFar walk_tones walk_only walk_fars walk_cellAt walk_ends walk_seen walk_begun _ (okb21 hw)) (cwV 0 hts (gdV (fun w h => List.mem_cons_of_mem _ h) q_397 q_399 qs_9 q_1 q_400) rfl rfl rfl (by decide +kernel) ⟨Nat.le_of_ble_eq_true rfl, Nat.le_of_ble_eq_true rfl⟩) ⟨(kpre zX_ok hK hPc hDc hZ hS hFc).1, va_recv hK hP (ci := 6) (q0 := 0) rfl rfl, (kpre zX_ok hK hPc hDc hZ hS hFc).2⟩ rfl rfl hl.1 rfl (lv_room (Nat.le_of_ble_eq_true rfl)) dX6_weight_1 ⟨Nat.le_of_ble_eq_true rfl, Nat.le_of_ble_eq_true rfl⟩) hP hD hS hFc [0, 1, 2, 3, 4, 5, 6, 7, 8, 9, 10, 11, 12, 13, 14] [] rfl rfl (by decide +kernel) (by decide +kernel) (fun u H locs hw hP hD hS => ?_)
  obtain ⟨w_1, w_2, w_3, w_4, w_5, w_6, w_7, w_8, w_9, w_10, w_11, w_12, w_13, w_14, w_15, w_16, w_17, w_18, w_19, w_20, w_21⟩ := u
  try dsimp only at hw
  have hP : va_P (dC, dI) vwCl (W_X6_weight cyI cyJ cyO h_o h_told h_walk h_kept h_trial h_seas h_ends h_otherEnds h_tape a_sheets a_told_settings a_told_howFar a_told_tones a_told_currents a_told_warmths a_told_depths a_told_fars a_told_pieceCells a_told_pieceMonths a_told_pieceHighs a_told_pieceAges a_told_pieceNeeds a_told_dragCells a_told_dragEighths a_walk_howFar a_walk_tones a_walk_only a_walk_fars a_walk_cellAt a_walk_ends a_walk_seen a_walk_begun o_hasImage w_1 o_endsAreOld told_pieceCount told_dragCount told_settings told_howFar told_tones told_fars w_2 w_3 w_4 w_5 w_6 w_7 w_8 w_9 w_10 w_11 w_12 w_13 w_14 w_15 w_16 w_17 w_18 w_19 w_20 w_21) H := hP.sub [0, 1, 2, 3, 4, 5, 6, 7, 8, 9, 10, 11, 12, 13, 14] rfl
  have hD : va_D A (W_X6_weight cyI cyJ cyO h_o h_told h_walk h_kept h_trial h_seas h_ends h_otherEnds h_tape a_sheets a_told_settings a_told_howFar a_told_tones a_told_currents a_told_warmths a_told_depths a_told_fars a_told_pieceCells a_told_pieceMonths a_told_pieceHighs a_told_pieceAges a_told_pieceNeeds a_told_dragCells a_told_dragEighths a_walk_howFar a_walk_tones a_walk_only a_walk_fars a_walk_cellAt a_walk_ends a_walk_seen a_walk_begun o_hasImage w_1 o_endsAreOld told_pieceCount told_dragCount told_settings told_howFar told_tones told_fars w_2 w_3 w_4 w_5 w_6 w_7 w_8 w_9 w_10 w_11 w_12 w_13 w_14 w_15 w_16 w_17 w_18 w_19 w_20 w_21) := hD.sub [0, 1, 2, 3, 4, 5, 6, 7, 8, 9, 10, 11, 12, 13, 14] (by decide +kernel) rfl
  clear hPc hDc hFc
  refine va_get (D := (dC, dI)) (ci := 5) (v := .long w_8) (C := RX5) (T := TX5) (N := 20) hx hb hts hi5 hown hK hP 6 rfl rfl 14 (by decide) hq0 (fun _ h9 => h9) rfl dX6_weight_4 ?_
  rw [hQ]
  exact W.lret (v := w_8) hx hb hr (fun t ht hW => ⟨⟨w_8, (w_1, w_2, w_3, w_4, w_5, w_6, w_7, w_8, w_9, w_10, w_11, w_12, w_13, w_14, w_15, w_16, w_17, w_18, w_19, w_20, w_21), rfl, okS hw, by rw [ht]; exact hP, va_K.moved hW.alike hK, hD⟩, hS.F ht⟩) hS.2.2 dX6_weight_7
/-! ===== X6_way ===== -/
theorem dX6_way_0 : decode cX6_way 0 = .ok (.iload_n 1, 1) := by decide +kernel
theorem dX6_way_1 : decode cX6_way 1 = .ok (.ifCond .lt 21, 3) := by decide +kernel
theorem dX6_way_4 : decode cX6_way 4 = .ok (.iload_n 2, 1) := by decide +kernel
theorem dX6_way_5 : decode cX6_way 5 = .ok (.bipush (-3), 2) := by decide +kernel
theorem dX6_way_7 : decode cX6_way 7 = .ok (.aload_n 0, 1) := by decide +kernel
theorem dX6_way_8 : decode cX6_way 8 = .ok (.getfield 10, 3) := by decide +kernel
theorem dX6_way_11 : decode cX6_way 11 = .ok (.getfield 85, 3) := by decide +kernel
theorem dX6_way_14 : decode cX6_way 14 = .ok (.iconst 2, 1) := by decide +kernel
theorem dX6_way_15 : decode cX6_way 15 = .ok (.iaload, 1) := by decide +kernel
theorem dX6_way_16 : decode cX6_way 16 = .ok (.invokestatic 74, 3) := by decide +kernel
theorem dX6_way_19 : decode cX6_way 19 = .ok (.ifCond .ne 5, 3) := by decide +kernel
theorem dX6_way_22 : decode cX6_way 22 = .ok (.iconst (-1), 1) := by decide +kernel
theorem dX6_way_23 : decode cX6_way 23 = .ok (.ireturn, 1) := by decide +kernel
theorem dX6_way_24 : decode cX6_way 24 = .ok (.aload_n 0, 1) := by decide +kernel
theorem dX6_way_25 : decode cX6_way 25 = .ok (.invokevirtual 121, 3) := by decide +kernel
theorem dX6_way_28 : decode cX6_way 28 = .ok (.astore_n 3, 1) := by decide +kernel
theorem dX6_way_29 : decode cX6_way 29 = .ok (.aload_n 3, 1) := by decide +kernel
theorem dX6_way_30 : decode cX6_way 30 = .ok (.iload_n 1, 1) := by decide +kernel
theorem dX6_way_31 : decode cX6_way 31 = .ok (.invokevirtual 133, 3) := by decide +kernel
theorem dX6_way_34 : decode cX6_way 34 = .ok (.ifCond .ne 6, 3) := by decide +kernel
theorem dX6_way_37 : decode cX6_way 37 = .ok (.bipush (-4), 2) := by decide +kernel
theorem dX6_way_39 : decode cX6_way 39 = .ok (.ireturn, 1) := by decide +kernel
theorem dX6_way_40 : decode cX6_way 40 = .ok (.iload_n 2, 1) := by decide +kernel
theorem dX6_way_41 : decode cX6_way 41 = .ok (.tableswitch 42 (-3) (-1) #[37, 32, 27], 27) := by decide +kernel
theorem dX6_way_68 : decode cX6_way 68 = .ok (.aload_n 3, 1) := by decide +kernel
theorem dX6_way_69 : decode cX6_way 69 = .ok (.getfield 136, 3) := by decide +kernel
theorem dX6_way_72 : decode cX6_way 72 = .ok (.ireturn, 1) := by decide +kernel
theorem dX6_way_73 : decode cX6_way 73 = .ok (.aload_n 3, 1) := by decide +kernel
theorem dX6_way_74 : decode cX6_way 74 = .ok (.getfield 139, 3) := by decide +kernel
theorem dX6_way_77 : decode cX6_way 77 = .ok (.ireturn, 1) := by decide +kernel
theorem dX6_way_78 : decode cX6_way 78 = .ok (.aload_n 3, 1) := by decide +kernel
theorem dX6_way_79 : decode cX6_way 79 = .ok (.getfield 142, 3) := by decide +kernel
theorem dX6_way_82 : decode cX6_way 82 = .ok (.ireturn, 1) := by decide +kernel
theorem dX6_way_83 : decode cX6_way 83 = .ok (.aload_n 3, 1) := by decide +kernel
theorem dX6_way_84 : decode cX6_way 84 = .ok (.getfield 145, 3) := by decide +kernel
theorem dX6_way_87 : decode cX6_way 87 = .ok (.iload_n 2, 1) := by decide +kernel
theorem dX6_way_88 : decode cX6_way 88 = .ok (.iaload, 1) := by decide +kernel
theorem dX6_way_89 : decode cX6_way 89 = .ok (.ireturn, 1) := by decide +kernel
abbrev W_X6_way (cyI cyJ cyO : ClassId) (h_o h_told h_walk h_kept h_trial h_seas h_ends h_otherEnds h_tape a_sheets a_told_settings a_told_howFar a_told_tones a_told_currents a_told_warmths a_told_depths a_told_fars a_told_pieceCells a_told_pieceMonths a_told_pieceHighs a_told_pieceAges a_told_pieceNeeds a_told_dragCells a_told_dragEighths a_walk_howFar a_walk_tones a_walk_only a_walk_fars a_walk_cellAt a_walk_ends a_walk_seen a_walk_begun : Nat) (o_hasImage : Int32) (o_walkIsOld : Int32) (o_endsAreOld : Int32) (told_pieceCount : Int32) (told_dragCount : Int32) (told_settings : Nat → Int32) (told_howFar : Nat → Int32) (told_tones : Nat → Int32) (told_fars : Nat → Int32) (walk_last : Int32) (walk_turnsLet : Int32) (walk_slowsLet : Int32) (walk_fuel : Int32) (walk_glide : Int32) (walk_count : Int32) (walk_weightSum : Int64) (walk_toPass : Int32) (walk_foundNumber : Int32) (walk_foundWeight : Int32) (walk_foundTurns : Int32) (walk_foundSlowed : Int32) (walk_howFar : Nat → Int32) (walk_tones : Nat → Int32) (walk_only : Nat → Int32) (walk_fars : Nat → Int32) (walk_cellAt : Nat → Int32) (walk_ends : Nat → Int64) (walk_seen : Nat → Int32) (walk_begun : Nat → Int32) : va_W := [(h_o, .inr (6, [.ref h_told, .ref h_kept, .ref h_walk, .ref h_trial, .ref h_seas, .ref h_ends, .ref h_otherEnds, .ref h_tape, .ref a_sheets, .int o_hasImage, .int o_walkIsOld, .int o_endsAreOld])), (h_told, .inr (4, [.ref a_told_settings, .ref a_told_howFar, .ref a_told_tones, .ref a_told_currents, .ref a_told_warmths, .ref a_told_depths, .ref a_told_fars, .ref a_told_pieceCells, .ref a_told_pieceMonths, .ref a_told_pieceHighs, .ref a_told_pieceAges, .ref a_told_pieceNeeds, .ref a_told_dragCells, .ref a_told_dragEighths, .int told_pieceCount, .int told_dragCount])), (a_told_settings, .inl (cyI, 8, .inl told_settings)), (a_told_howFar, .inl (cyI, 7, .inl told_howFar)), (a_told_tones, .inl (cyI, 7, .inl told_tones)), (a_told_fars, .inl (cyI, 100, .inl told_fars)), (h_walk, .inr (5, [.ref a_walk_howFar, .ref a_walk_tones, .ref a_walk_only, .ref a_walk_fars, .int walk_last, .int walk_turnsLet, .int walk_slowsLet, .int walk_fuel, .int walk_glide, .ref a_walk_cellAt, .ref a_walk_ends, .ref a_walk_seen, .ref a_walk_begun, .int walk_count, .long walk_weightSum, .int walk_toPass, .int walk_foundNumber, .int walk_foundWeight, .int walk_foundTurns, .int walk_foundSlowed])), (a_walk_howFar, .inl (cyI, 7, .inl walk_howFar)), (a_walk_tones, .inl (cyI, 7, .inl walk_tones)), (a_walk_only, .inl (cyI, 7, .inl walk_only)), (a_walk_fars, .inl (cyI, 100, .inl walk_fars)), (a_walk_cellAt, .inl (cyI, 7, .inl walk_cellAt)), (a_walk_ends, .inl (cyJ, 100, .inr (.inl walk_ends))), (a_walk_seen, .inl (cyI, 70, .inl walk_seen)), (a_walk_begun, .inl (cyI, 24, .inl walk_begun))]
def f_X6_way (x1 : Int32) (x2 : Int32) (o_walkIsOld : Int32) (told_settings : Nat → Int32) (told_howFar : Nat → Int32) (told_tones : Nat → Int32) (told_fars : Nat → Int32) (walk_last : Int32) (walk_turnsLet : Int32) (walk_slowsLet : Int32) (walk_fuel : Int32) (walk_glide : Int32) (walk_count : Int32) (walk_weightSum : Int64) (walk_toPass : Int32) (walk_foundNumber : Int32) (walk_foundWeight : Int32) (walk_foundTurns : Int32) (walk_foundSlowed : Int32) (walk_howFar : Nat → Int32) (walk_tones : Nat → Int32) (walk_only : Nat → Int32) (walk_fars : Nat → Int32) (walk_cellAt : Nat → Int32) (walk_ends : Nat → Int64) (walk_seen : Nat → Int32) (walk_begun : Nat → Int32) : Option (Int32 × Int32 × Int32 × Int32 × Int32 × Int32 × Int32 × Int32 × Int64 × Int32 × Int32 × Int32 × Int32 × Int32 × (Nat → Int32) × (Nat → Int32) × (Nat → Int32) × (Nat → Int32) × (Nat → Int32) × (Nat → Int64) × (Nat → Int32) × (Nat → Int32)) :=
  if x1 < 0 then
    some ((-1), o_walkIsOld, walk_last, walk_turnsLet, walk_slowsLet, walk_fuel, walk_glide, walk_count, walk_weightSum, walk_toPass, walk_foundNumber, walk_foundWeight, walk_foundTurns, walk_foundSlowed, walk_howFar, walk_tones, walk_only, walk_fars, walk_cellAt, walk_ends, walk_seen, walk_begun)
  else
    bd1 (f_X6_within x2 (-3) (told_settings 2)) fun r_1 =>
    if r_1 = 0 then
      some ((-1), o_walkIsOld, walk_last, walk_turnsLet, walk_slowsLet, walk_fuel, walk_glide, walk_count, walk_weightSum, walk_toPass, walk_foundNumber, walk_foundWeight, walk_foundTurns, walk_foundSlowed, walk_howFar, walk_tones, walk_only, walk_fars, walk_cellAt, walk_ends, walk_seen, walk_begun)
    else
      bd21 (f_X6_walked o_walkIsOld told_settings told_howFar told_tones told_fars walk_last walk_turnsLet walk_slowsLet walk_fuel walk_glide walk_count walk_weightSum walk_toPass walk_foundNumber walk_foundWeight walk_foundTurns walk_foundSlowed walk_howFar walk_tones walk_only walk_fars walk_cellAt walk_ends walk_seen walk_begun) fun w_2 w_3 w_4 w_5 w_6 w_7 w_8 w_9 w_10 w_11 w_12 w_13 w_14 w_15 w_16 w_17 w_18 w_19 w_20 w_21 w_22 =>
      bd11 (f_X5_find x1 w_3 w_4 w_5 w_6 w_7 w_8 w_9 w_10 w_11 w_12 w_13 w_14 w_15 w_16 w_17 w_18 w_19 w_20 w_21 w_22) fun r_23 w_24 w_25 w_26 w_27 w_28 w_29 w_30 w_31 w_32 w_33 =>
      if r_23 = 0 then
        some ((-4), w_2, w_3, w_4, w_5, w_6, w_7, w_24, w_25, w_26, w_27, w_28, w_29, w_30, w_15, w_16, w_17, w_18, w_31, w_32, w_33, w_22)
      else
        if x2 = (-3) then
          some (w_30, w_2, w_3, w_4, w_5, w_6, w_7, w_24, w_25, w_26, w_27, w_28, w_29, w_30, w_15, w_16, w_17, w_18, w_31, w_32, w_33, w_22)
        else if x2 = (-2) then
          some (w_29, w_2, w_3, w_4, w_5, w_6, w_7, w_24, w_25, w_26, w_27, w_28, w_29, w_30, w_15, w_16, w_17, w_18, w_31, w_32, w_33, w_22)
        else if x2 = (-1) then
          some (w_28, w_2, w_3, w_4, w_5, w_6, w_7, w_24, w_25, w_26, w_27, w_28, w_29, w_30, w_15, w_16, w_17, w_18, w_31, w_32, w_33, w_22)
        else 
          chk (¬ (x2 < 0 ∨ 7 ≤ x2.toNatClampNeg)) <|
          some (w_31 x2.toNatClampNeg, w_2, w_3, w_4, w_5, w_6, w_7, w_24, w_25, w_26, w_27, w_28, w_29, w_30, w_15, w_16, w_17, w_18, w_31, w_32, w_33, w_22)
abbrev rm_X6_way : Room := { frames := 43, cells := 0, slots := 0, locals := 1074 }
set_option maxRecDepth 100000 in
set_option maxHeartbeats 4000000 in
theorem c_X6_way (l : Launch) (dC : Nat → ClassId) (dI : Nat → Nat → Nat) (cyI cyJ cyO : ClassId) (sz : Nat) (tD tR tL tM : Nat) (h_o h_told h_walk h_kept h_trial h_seas h_ends h_otherEnds h_tape a_sheets a_told_settings a_told_howFar a_told_tones a_told_currents a_told_warmths a_told_depths a_told_fars a_told_pieceCells a_told_pieceMonths a_told_pieceHighs a_told_pieceAges a_told_pieceNeeds a_told_dragCells a_told_dragEighths a_walk_howFar a_walk_tones a_walk_only a_walk_fars a_walk_cellAt a_walk_ends a_walk_seen a_walk_begun : Nat) (o_hasImage : Int32) (o_walkIsOld : Int32) (o_endsAreOld : Int32) (told_pieceCount : Int32) (told_dragCount : Int32) (told_settings : Nat → Int32) (told_howFar : Nat → Int32) (told_tones : Nat → Int32) (told_fars : Nat → Int32) (walk_last : Int32) (walk_turnsLet : Int32) (walk_slowsLet : Int32) (walk_fuel : Int32) (walk_glide : Int32) (walk_count : Int32) (walk_weightSum : Int64) (walk_toPass : Int32) (walk_foundNumber : Int32) (walk_foundWeight : Int32) (walk_foundTurns : Int32) (walk_foundSlowed : Int32) (walk_howFar : Nat → Int32) (walk_tones : Nat → Int32) (walk_only : Nat → Int32) (walk_fars : Nat → Int32) (walk_cellAt : Nat → Int32) (walk_ends : Nat → Int64) (walk_seen : Nat → Int32) (walk_begun : Nat → Int32) (x1 : Int32) (x2 : Int32) (post : (Int32 × Int32 × Int32 × Int32 × Int32 × Int32 × Int32 × Int32 × Int64 × Int32 × Int32 × Int32 × Int32 × Int32 × (Nat → Int32) × (Nat → Int32) × (Nat → Int32) × (Nat → Int32) × (Nat → Int32) × (Nat → Int64) × (Nat → Int32) × (Nat → Int32)) → Prop) (hf : okP (f_X6_way x1 x2 o_walkIsOld told_settings told_howFar told_tones told_fars walk_last walk_turnsLet walk_slowsLet walk_fuel walk_glide walk_count walk_weightSum walk_toPass walk_foundNumber walk_foundWeight walk_foundTurns walk_foundSlowed walk_howFar walk_tones walk_only walk_fars walk_cellAt walk_ends walk_seen walk_begun) post) : Ci l (dC, dI) (tyL cyI cyJ cyO) yX6_way wsX6_way rm_X6_way [.ref h_o, .int x1, .int x2] sz (W_X6_way cyI cyJ cyO h_o h_told h_walk h_kept h_trial h_seas h_ends h_otherEnds h_tape a_sheets a_told_settings a_told_howFar a_told_tones a_told_currents a_told_warmths a_told_depths a_told_fars a_told_pieceCells a_told_pieceMonths a_told_pieceHighs a_told_pieceAges a_told_pieceNeeds a_told_dragCells a_told_dragEighths a_walk_howFar a_walk_tones a_walk_only a_walk_fars a_walk_cellAt a_walk_ends a_walk_seen a_walk_begun o_hasImage o_walkIsOld o_endsAreOld told_pieceCount told_dragCount told_settings told_howFar told_tones told_fars walk_last walk_turnsLet walk_slowsLet walk_fuel walk_glide walk_count walk_weightSum walk_toPass walk_foundNumber walk_foundWeight walk_foundTurns walk_foundSlowed walk_howFar walk_tones walk_only walk_fars walk_cellAt walk_ends walk_seen walk_begun) (zX tD tR tL tM) (fun r u => post (r, u)) (fun u => (W_X6_way cyI cyJ cyO h_o h_told h_walk h_kept h_trial h_seas h_ends h_otherEnds h_tape a_sheets a_told_settings a_told_howFar a_told_tones a_told_currents a_told_warmths a_told_depths a_told_fars a_told_pieceCells a_told_pieceMonths a_told_pieceHighs a_told_pieceAges a_told_pieceNeeds a_told_dragCells a_told_dragEighths a_walk_howFar a_walk_tones a_walk_only a_walk_fars a_walk_cellAt a_walk_ends a_walk_seen a_walk_begun o_hasImage u.1 o_endsAreOld told_pieceCount told_dragCount told_settings told_howFar told_tones told_fars u.2.1 u.2.2.1 u.2.2.2.1 u.2.2.2.2.1 u.2.2.2.2.2.1 u.2.2.2.2.2.2.1 u.2.2.2.2.2.2.2.1 u.2.2.2.2.2.2.2.2.1 u.2.2.2.2.2.2.2.2.2.1 u.2.2.2.2.2.2.2.2.2.2.1 u.2.2.2.2.2.2.2.2.2.2.2.1 u.2.2.2.2.2.2.2.2.2.2.2.2.1 u.2.2.2.2.2.2.2.2.2.2.2.2.2.1 u.2.2.2.2.2.2.2.2.2.2.2.2.2.2.1 u.2.2.2.2.2.2.2.2.2.2.2.2.2.2.2.1 u.2.2.2.2.2.2.2.2.2.2.2.2.2.2.2.2.1 u.2.2.2.2.2.2.2.2.2.2.2.2.2.2.2.2.2.1 u.2.2.2.2.2.2.2.2.2.2.2.2.2.2.2.2.2.2.1 u.2.2.2.2.2.2.2.2.2.2.2.2.2.2.2.2.2.2.2.1 u.2.2.2.2.2.2.2.2.2.2.2.2.2.2.2.2.2.2.2.2)) := by
  refine Met.ofW (cc := cX6_way) (maxL := 4) (ret := (some .int)) (by decide) rfl ?_
  intro p e s m args below meth c s₁ B hml hv
  obtain ⟨rfl, hsz, hP, hK, hD0, hZ⟩ := hv
  have hx := B.exec
  have hb := B.bytes
  have hr := B.returns
  have hts := atoms_spec (ws := wsX6_way) B.pre
  have hown : s.vm.findClass RX6 = some m.cls := findClass_of_methodNamed B.named
  have hlocks := B.notSynchronized
  subst hsz
  have hD := hD0.self (sz := s.heap.size)
  generalize hAe : va_A (W_X6_way cyI cyJ cyO h_o h_told h_walk h_kept h_trial h_seas h_ends h_otherEnds h_tape a_sheets a_told_settings a_told_howFar a_told_tones a_told_currents a_told_warmths a_told_depths a_told_fars a_told_pieceCells a_told_pieceMonths a_told_pieceHighs a_told_pieceAges a_told_pieceNeeds a_told_dragCells a_told_dragEighths a_walk_howFar a_walk_tones a_walk_only a_walk_fars a_walk_cellAt a_walk_ends a_walk_seen a_walk_begun o_hasImage o_walkIsOld o_endsAreOld told_pieceCount told_dragCount told_settings told_howFar told_tones told_fars walk_last walk_turnsLet walk_slowsLet walk_fuel walk_glide walk_count walk_weightSum walk_toPass walk_foundNumber walk_foundWeight walk_foundTurns walk_foundSlowed walk_howFar walk_tones walk_only walk_fars walk_cellAt walk_ends walk_seen walk_begun) s.heap.size = A at hD hZ ⊢
  have hA : ∀ q : Nat, s.heap.size ≤ q → A q := fun q h => by rw [← hAe]; exact Or.inr h
  clear hAe hD0
  have hS : va_S A s.heap s.heap [] := va_S.rf
  have hl := lv_entry ([.ref h_o, .int x1, .int x2]) (n := 4) (Nat.le_of_ble_eq_true rfl)
  rw [lg_entry_eq]
  generalize (lg_sl ([.ref h_o, .int x1, .int x2]) ++ List.replicate (4 - (lg_sl ([.ref h_o, .int x1, .int x2])).length) Slot.unset).toArray = ls at hl ⊢
  have hl : lv_has ls 4 [(0, .ref h_o), (1, .int x1), (2, .int x2)] := hl
  refine kW (fun Q hQ => ?_)
  have hq0 := hts _ (List.mem_cons_of_mem _ q_270)
  have hi6 : ∀ w ∈ u_ws RX6 TX6 12, w ∈ wsX6_way := fun w h => List.mem_cons_of_mem _ (inX6 w h)
  have hq2 := hts _ (List.mem_cons_of_mem _ q_33)
  have hi4 : ∀ w ∈ u_ws RX4 TX4 16, w ∈ wsX6_way := fun w h => List.mem_cons_of_mem _ (inX4 w h)
  have hq4 := hts _ (List.mem_cons_of_mem _ q_144)
  have hi5 : ∀ w ∈ u_ws RX5 TX5 20, w ∈ wsX6_way := fun w h => List.mem_cons_of_mem _ (inX5 w h)
  have hq6 := hts _ (List.mem_cons_of_mem _ q_142)
  have hq7 := hts _ (List.mem_cons_of_mem _ q_140)
  have hq8 := hts _ (List.mem_cons_of_mem _ q_127)
  have hw := hf
  unfold f_X6_way at hw
  have hP : va_P (dC, dI) vwCl (W_X6_way cyI cyJ cyO h_o h_told h_walk h_kept h_trial h_seas h_ends h_otherEnds h_tape a_sheets a_told_settings a_told_howFar a_told_tones a_told_currents a_told_warmths a_told_depths a_told_fars a_told_pieceCells a_told_pieceMonths a_told_pieceHighs a_told_pieceAges a_told_pieceNeeds a_told_dragCells a_told_dragEighths a_walk_howFar a_walk_tones a_walk_only a_walk_fars a_walk_cellAt a_walk_ends a_walk_seen a_walk_begun o_hasImage o_walkIsOld o_endsAreOld told_pieceCount told_dragCount told_settings told_howFar told_tones told_fars walk_last walk_turnsLet walk_slowsLet walk_fuel walk_glide walk_count walk_weightSum walk_toPass walk_foundNumber walk_foundWeight walk_foundTurns walk_foundSlowed walk_howFar walk_tones walk_only walk_fars walk_cellAt walk_ends walk_seen walk_begun) s.heap := hP
  obtain ⟨H, hH⟩ : ∃ H, H = s.heap := ⟨_, rfl⟩
  obtain ⟨locs, hlo⟩ : ∃ x : List Loc, x = [] := ⟨_, rfl⟩
  have hP : va_P (dC, dI) vwCl (W_X6_way cyI cyJ cyO h_o h_told h_walk h_kept h_trial h_seas h_ends h_otherEnds h_tape a_sheets a_told_settings a_told_howFar a_told_tones a_told_currents a_told_warmths a_told_depths a_told_fars a_told_pieceCells a_told_pieceMonths a_told_pieceHighs a_told_pieceAges a_told_pieceNeeds a_told_dragCells a_told_dragEighths a_walk_howFar a_walk_tones a_walk_only a_walk_fars a_walk_cellAt a_walk_ends a_walk_seen a_walk_begun o_hasImage o_walkIsOld o_endsAreOld told_pieceCount told_dragCount told_settings told_howFar told_tones told_fars walk_last walk_turnsLet walk_slowsLet walk_fuel walk_glide walk_count walk_weightSum walk_toPass walk_foundNumber walk_foundWeight walk_foundTurns walk_foundSlowed walk_howFar walk_tones walk_only walk_fars walk_cellAt walk_ends walk_seen walk_begun) H := by rw [hH]; exact hP
  have hS : va_S A s.heap H locs := by rw [hH, hlo]; exact hS
  refine kH hH hlo ?_
  clear hH hlo
  refine lv_iload_n hx hb dX6_way_0 rfl (lv_at hl 1 rfl) ?_
  refine lv_if_lt (tgt := 22) hx hb dX6_way_1 (by decide) (fun c_1 => ?_) (fun c_1 => ?_)
  · replace hw := okT hw c_1
    clear c_1
    refine lv_iconst (v := (-1)) hx hb dX6_way_22 (by decide) ?_
    rw [hQ]
    exact W.iret (v := (-1)) hx hb hr (fun t ht hW => ⟨⟨(-1), (o_walkIsOld, walk_last, walk_turnsLet, walk_slowsLet, walk_fuel, walk_glide, walk_count, walk_weightSum, walk_toPass, walk_foundNumber, walk_foundWeight, walk_foundTurns, walk_foundSlowed, walk_howFar, walk_tones, walk_only, walk_fars, walk_cellAt, walk_ends, walk_seen, walk_begun), rfl, okS hw, by rw [ht]; exact hP, va_K.moved hW.alike hK, hD⟩, hS.F ht⟩) hS.2.2 dX6_way_23
  · replace hw := okF hw c_1
    clear c_1
    refine lv_iload_n hx hb dX6_way_4 rfl (lv_at hl 2 rfl) ?_
    refine lv_bipush (v := (-3)) hx hb dX6_way_5 (by decide) ?_
    refine lv_aload_n hx hb dX6_way_7 rfl (lv_at hl 0 rfl) ?_
    refine va_get (D := (dC, dI)) (ci := 6) (v := .ref h_told) (C := RX6) (T := TX6) (N := 12) hx hb hts hi6 hown hK hP 0 rfl rfl 0 (by decide) hq0 (fun _ h9 => h9) rfl dX6_way_8 ?_
    refine va_get (D := (dC, dI)) (ci := 4) (v := .ref a_told_settings) (C := RX4) (T := TX4) (N := 16) hx hb hts hi4 hown hK hP 1 rfl rfl 0 (by decide) hq2 (fun _ h9 => h9) rfl dX6_way_11 ?_
    refine lv_iconst (v := 2) hx hb dX6_way_14 (by decide) ?_
    refine va_iald (i := 2) hx hb hK hP 2 0 rfl rfl (show ¬ _ by decide) dX6_way_15 ?_
    have hFc := va_free (wc := []) hD hS hA [] rfl
    refine kp_i (va_runS (As := [.int x2, .int (-3), .int (told_settings 2)]) (rest := []) ⟨hx, hb, hml, hown, hts⟩ (c_X6_within l dC dI cyI cyJ cyO H.size x2 (-3) (told_settings 2) _ (okb1 hw)) (va_cwS 3 hts (gdS (fun w h => List.mem_cons_of_mem _ h) q_311 q_312 q_1 q_313) rfl rfl rfl (by decide +kernel) ⟨Nat.le_of_ble_eq_true rfl, Nat.le_of_ble_eq_true rfl⟩) (kpre zN_ok hK va_P0 va_D0 trivial hS hFc) rfl rfl hl.1 rfl (lv_room (Nat.le_of_ble_eq_true rfl)) dX6_way_16 ⟨Nat.le_of_ble_eq_true rfl, Nat.le_of_ble_eq_true rfl⟩) hP hD hS hFc (fun r_2 H locs hw hP hS => ?_)
    try dsimp only at hw
    clear hFc
    refine lv_if_ne (tgt := 24) hx hb dX6_way_19 (by decide) (fun c_3 => ?_) (fun c_3 => ?_)
    · replace hw := okF hw c_3
      clear c_3
      refine lv_aload_n hx hb dX6_way_24 rfl (lv_at hl 0 rfl) ?_
      have hPc := hP.sub (ws' := (W_X6_walked cyI cyJ cyO h_o h_told h_walk h_kept h_trial h_seas h_ends h_otherEnds h_tape a_sheets a_told_settings a_told_howFar a_told_tones a_told_currents a_told_warmths a_told_depths a_told_fars a_told_pieceCells a_told_pieceMonths a_told_pieceHighs a_told_pieceAges a_told_pieceNeeds a_told_dragCells a_told_dragEighths a_walk_howFar a_walk_tones a_walk_only a_walk_fars a_walk_cellAt a_walk_ends a_walk_seen a_walk_begun o_hasImage o_walkIsOld o_endsAreOld told_pieceCount told_dragCount told_settings told_howFar told_tones told_fars walk_last walk_turnsLet walk_slowsLet walk_fuel walk_glide walk_count walk_weightSum walk_toPass walk_foundNumber walk_foundWeight walk_foundTurns walk_foundSlowed walk_howFar walk_tones walk_only walk_fars walk_cellAt walk_ends walk_seen walk_begun)) [0, 1, 2, 3, 4, 5, 6, 7, 8, 9, 10, 11, 12, 13, 14] rfl
      have hDc := hD.sub (ws' := (W_X6_walked cyI cyJ cyO h_o h_told h_walk h_kept h_trial h_seas h_ends h_otherEnds h_tape a_sheets a_told_settings a_told_howFar a_told_tones a_told_currents a_told_warmths a_told_depths a_told_fars a_told_pieceCells a_told_pieceMonths a_told_pieceHighs a_told_pieceAges a_told_pieceNeeds a_told_dragCells a_told_dragEighths a_walk_howFar a_walk_tones a_walk_only a_walk_fars a_walk_cellAt a_walk_ends a_walk_seen a_walk_begun o_hasImage o_walkIsOld o_endsAreOld told_pieceCount told_dragCount told_settings told_howFar told_tones told_fars walk_last walk_turnsLet walk_slowsLet walk_fuel walk_glide walk_count walk_weightSum walk_toPass walk_foundNumber walk_foundWeight walk_foundTurns walk_foundSlowed walk_howFar walk_tones walk_only walk_fars walk_cellAt walk_ends walk_seen walk_begun)) [0, 1, 2, 3, 4, 5, 6, 7, 8, 9, 10, 11, 12, 13, 14] (by decide +kernel) rfl
      have hFc := va_free (wc := (W_X6_walked cyI cyJ cyO h_o h_told h_walk h_kept h_trial h_seas h_ends h_otherEnds h_tape a_sheets a_told_settings a_told_howFar a_told_tones a_told_currents a_told_warmths a_told_depths a_told_fars a_told_pieceCells a_told_pieceMonths a_told_pieceHighs a_told_pieceAges a_told_pieceNeeds a_told_dragCells a_told_dragEighths a_walk_howFar a_walk_tones a_walk_only a_walk_fars a_walk_cellAt a_walk_ends a_walk_seen a_walk_begun o_hasImage o_walkIsOld o_endsAreOld told_pieceCount told_dragCount told_settings told_howFar told_tones told_fars walk_last walk_turnsLet walk_slowsLet walk_fuel walk_glide walk_count walk_weightSum walk_toPass walk_foundNumber walk_foundWeight walk_foundTurns walk_foundSlowed walk_howFar walk_tones walk_only walk_fars walk_cellAt walk_ends walk_seen walk_begun)) hD hS hA [0, 1, 2, 3, 4, 5, 6, 7, 8, 9, 10, 11, 12, 13, 14] rfl
      refine kc_r (wr := []) (va_runV (As := []) (rest := []) ⟨hx, hb, hml, hown, hts⟩ (c_X6_walked l dC dI cyI cyJ cyO H.size tD tR tL tM h_o h_told h_walk h_kept h_trial h_seas h_ends h_otherEnds h_tape a_sheets a_told_settings a_told_howFar a_told_tones a_told_currents a_told_warmths a_told_depths a_told_fars a_told_pieceCells a_told_pieceMonths a_told_pieceHighs a_told_pieceAges a_told_pieceNeeds a_told_dragCells a_told_dragEighths a_walk_howFar a_walk_tones a_walk_only a_walk_fars a_walk_cellAt a_walk_ends a_walk_seen a_walk_begun o_hasImage o_walkIsOld o_endsAreOld told_pieceCount told_dragCount told_settings told_howFar told_tones told_fars walk_last walk_turnsLet walk_slowsLet walk_fuel walk_glide walk_count walk_weightSum walk_toPass walk_foundNumber walk_foundWeight walk_foundTurns walk_foundSlowed walk_howFar walk_tones walk_only walk_fars walk_cellAt walk_ends walk_seen walk_begun _ (okb21 hw)) (cwV 0 hts (gdV (fun w h => List.mem_cons_of_mem _ h) q_397 q_399 qs_9 q_1 q_400) rfl rfl rfl (by decide +kernel) ⟨Nat.le_of_ble_eq_true rfl, Nat.le_of_ble_eq_true rfl⟩) ⟨(kpre zX_ok hK hPc hDc hZ hS hFc).1, va_recv hK hP (ci := 6) (q0 := 0) rfl rfl, (kpre zX_ok hK hPc hDc hZ hS hFc).2⟩ rfl rfl hl.1 rfl (lv_room (Nat.le_of_ble_eq_true rfl)) dX6_way_25 ⟨Nat.le_of_ble_eq_true rfl, Nat.le_of_ble_eq_true rfl⟩) hP hD hS hFc [0, 1, 2, 3, 4, 5, 6, 7, 8, 9, 10, 11, 12, 13, 14] [] rfl rfl (by decide +kernel) (by decide +kernel) (fun u H locs hw hP hD hS => ?_)
      obtain ⟨w_4, w_5, w_6, w_7, w_8, w_9, w_10, w_11, w_12, w_13, w_14, w_15, w_16, w_17, w_18, w_19, w_20, w_21, w_22, w_23, w_24⟩ := u
      try dsimp only at hw
      have hP : va_P (dC, dI) vwCl (W_X6_way cyI cyJ cyO h_o h_told h_walk h_kept h_trial h_seas h_ends h_otherEnds h_tape a_sheets a_told_settings a_told_howFar a_told_tones a_told_currents a_told_warmths a_told_depths a_told_fars a_told_pieceCells a_told_pieceMonths a_told_pieceHighs a_told_pieceAges a_told_pieceNeeds a_told_dragCells a_told_dragEighths a_walk_howFar a_walk_tones a_walk_only a_walk_fars a_walk_cellAt a_walk_ends a_walk_seen a_walk_begun o_hasImage w_4 o_endsAreOld told_pieceCount told_dragCount told_settings told_howFar told_tones told_fars w_5 w_6 w_7 w_8 w_9 w_10 w_11 w_12 w_13 w_14 w_15 w_16 w_17 w_18 w_19 w_20 w_21 w_22 w_23 w_24) H := hP.sub [0, 1, 2, 3, 4, 5, 6, 7, 8, 9, 10, 11, 12, 13, 14] rfl
      have hD : va_D A (W_X6_way cyI cyJ cyO h_o h_told h_walk h_kept h_trial h_seas h_ends h_otherEnds h_tape a_sheets a_told_settings a_told_howFar a_told_tones a_told_currents a_told_warmths a_told_depths a_told_fars a_told_pieceCells a_told_pieceMonths a_told_pieceHighs a_told_pieceAges a_told_pieceNeeds a_told_dragCells a_told_dragEighths a_walk_howFar a_walk_tones a_walk_only a_walk_fars a_walk_cellAt a_walk_ends a_walk_seen a_walk_begun o_hasImage w_4 o_endsAreOld told_pieceCount told_dragCount told_settings told_howFar told_tones told_fars w_5 w_6 w_7 w_8 w_9 w_10 w_11 w_12 w_13 w_14 w_15 w_16 w_17 w_18 w_19 w_20 w_21 w_22 w_23 w_24) := hD.sub [0, 1, 2, 3, 4, 5, 6, 7, 8, 9, 10, 11, 12, 13, 14] (by decide +kernel) rfl
      clear hPc hDc hFc
      refine lv_astore_n (lv' := [(3, .ref h_walk), (0, .ref h_o), (1, .int x1), (2, .int x2)]) hx hb dX6_way_28 rfl hl (by decide) rfl (fun ls hl => ?_)
      refine lv_aload_n hx hb dX6_way_29 rfl (lv_at hl 0 rfl) ?_
      refine lv_iload_n hx hb dX6_way_30 rfl (lv_at hl 2 rfl) ?_
      have hPc := hP.sub (ws' := (W_X5_find cyI cyJ cyO h_walk a_walk_howFar a_walk_tones a_walk_only a_walk_fars a_walk_cellAt a_walk_ends a_walk_seen a_walk_begun w_5 w_6 w_7 w_8 w_9 w_10 w_11 w_12 w_13 w_14 w_15 w_16 w_17 w_18 w_19 w_20 w_21 w_22 w_23 w_24)) [6, 7, 8, 9, 10, 11, 12, 13, 14] rfl
      have hDc := hD.sub (ws' := (W_X5_find cyI cyJ cyO h_walk a_walk_howFar a_walk_tones a_walk_only a_walk_fars a_walk_cellAt a_walk_ends a_walk_seen a_walk_begun w_5 w_6 w_7 w_8 w_9 w_10 w_11 w_12 w_13 w_14 w_15 w_16 w_17 w_18 w_19 w_20 w_21 w_22 w_23 w_24)) [6, 7, 8, 9, 10, 11, 12, 13, 14] (by decide +kernel) rfl
      have hFc := va_free (wc := (W_X5_find cyI cyJ cyO h_walk a_walk_howFar a_walk_tones a_walk_only a_walk_fars a_walk_cellAt a_walk_ends a_walk_seen a_walk_begun w_5 w_6 w_7 w_8 w_9 w_10 w_11 w_12 w_13 w_14 w_15 w_16 w_17 w_18 w_19 w_20 w_21 w_22 w_23 w_24)) hD hS hA [6, 7, 8, 9, 10, 11, 12, 13, 14] rfl
      refine kc_i (wr := [(h_o, .inr (6, [.ref h_told, .ref h_kept, .ref h_walk, .ref h_trial, .ref h_seas, .ref h_ends, .ref h_otherEnds, .ref h_tape, .ref a_sheets, .int o_hasImage, .int w_4, .int o_endsAreOld])), (h_told, .inr (4, [.ref a_told_settings, .ref a_told_howFar, .ref a_told_tones, .ref a_told_currents, .ref a_told_warmths, .ref a_told_depths, .ref a_told_fars, .ref a_told_pieceCells, .ref a_told_pieceMonths, .ref a_told_pieceHighs, .ref a_told_pieceAges, .ref a_told_pieceNeeds, .ref a_told_dragCells, .ref a_told_dragEighths, .int told_pieceCount, .int told_dragCount])), (a_told_settings, .inl (cyI, 8, .inl told_settings)), (a_told_howFar, .inl (cyI, 7, .inl told_howFar)), (a_told_tones, .inl (cyI, 7, .inl told_tones)), (a_told_fars, .inl (cyI, 100, .inl told_fars))]) (va_runV (As := [.int x1]) (rest := []) ⟨hx, hb, hml, hown, hts⟩ (c_X5_find l dC dI cyI cyJ cyO H.size tD tR tL tM h_walk a_walk_howFar a_walk_tones a_walk_only a_walk_fars a_walk_cellAt a_walk_ends a_walk_seen a_walk_begun w_5 w_6 w_7 w_8 w_9 w_10 w_11 w_12 w_13 w_14 w_15 w_16 w_17 w_18 w_19 w_20 w_21 w_22 w_23 w_24 x1 _ (okb11 hw)) (cwV 1 hts (gdV (fun w h => List.mem_cons_of_mem _ h) q_459 q_460 q_461 q_3 q_462) rfl rfl rfl (by decide +kernel) ⟨Nat.le_of_ble_eq_true rfl, Nat.le_of_ble_eq_true rfl⟩) ⟨(kpre zX_ok hK hPc hDc hZ hS hFc).1, va_recv hK hP (ci := 5) (q0 := 6) rfl rfl, (kpre zX_ok hK hPc hDc hZ hS hFc).2⟩ rfl rfl hl.1 rfl (lv_room (Nat.le_of_ble_eq_true rfl)) dX6_way_31 ⟨Nat.le_of_ble_eq_true rfl, Nat.le_of_ble_eq_true rfl⟩) hP hD hS hFc [6, 7, 8, 9, 10, 11, 12, 13, 14] [0, 1, 2, 3, 4, 5] rfl rfl (by decide +kernel) (by decide +kernel) (fun r_25 u H locs hw hP hD hS => ?_)
      obtain ⟨w_26, w_27, w_28, w_29, w_30, w_31, w_32, w_33, w_34, w_35⟩ := u
      try dsimp only at hw
      have hP : va_P (dC, dI) vwCl (W_X6_way cyI cyJ cyO h_o h_told h_walk h_kept h_trial h_seas h_ends h_otherEnds h_tape a_sheets a_told_settings a_told_howFar a_told_tones a_told_currents a_told_warmths a_told_depths a_told_fars a_told_pieceCells a_told_pieceMonths a_told_pieceHighs a_told_pieceAges a_told_pieceNeeds a_told_dragCells a_told_dragEighths a_walk_howFar a_walk_tones a_walk_only a_walk_fars a_walk_cellAt a_walk_ends a_walk_seen a_walk_begun o_hasImage w_4 o_endsAreOld told_pieceCount told_dragCount told_settings told_howFar told_tones told_fars w_5 w_6 w_7 w_8 w_9 w_26 w_27 w_28 w_29 w_30 w_31 w_32 w_17 w_18 w_19 w_20 w_33 w_34 w_35 w_24) H := hP.sub [0, 1, 2, 3, 4, 5, 6, 7, 8, 9, 10, 11, 12, 13, 14] rfl
      have hD : va_D A (W_X6_way cyI cyJ cyO h_o h_told h_walk h_kept h_trial h_seas h_ends h_otherEnds h_tape a_sheets a_told_settings a_told_howFar a_told_tones a_told_currents a_told_warmths a_told_depths a_told_fars a_told_pieceCells a_told_pieceMonths a_told_pieceHighs a_told_pieceAges a_told_pieceNeeds a_told_dragCells a_told_dragEighths a_walk_howFar a_walk_tones a_walk_only a_walk_fars a_walk_cellAt a_walk_ends a_walk_seen a_walk_begun o_hasImage w_4 o_endsAreOld told_pieceCount told_dragCount told_settings told_howFar told_tones told_fars w_5 w_6 w_7 w_8 w_9 w_26 w_27 w_28 w_29 w_30 w_31 w_32 w_17 w_18 w_19 w_20 w_33 w_34 w_35 w_24) := hD.sub [0, 1, 2, 3, 4, 5, 6, 7, 8, 9, 10, 11, 12, 13, 14] (by decide +kernel) rfl
      clear hPc hDc hFc
      refine lv_if_ne (tgt := 40) hx hb dX6_way_34 (by decide) (fun c_36 => ?_) (fun c_36 => ?_)
      · replace hw := okF hw c_36
        clear c_36
        refine lv_iload_n hx hb dX6_way_40 rfl (lv_at hl 3 rfl) ?_
        by_cases c_37 : x2 = (-3)
        · replace hw := okT hw c_37
          refine lv_tableIn (off := 37) (tgt := 78) hx hb dX6_way_41 (by rw [c_37]; decide) (by rw [c_37]; decide) (by rw [c_37]; rfl) (by decide) ?_
          refine lv_aload_n hx hb dX6_way_78 rfl (lv_at hl 0 rfl) ?_
          refine va_get (D := (dC, dI)) (ci := 5) (v := .int w_32) (C := RX5) (T := TX5) (N := 20) hx hb hts hi5 hown hK hP 6 rfl rfl 19 (by decide) hq4 (fun _ h9 => h9) rfl dX6_way_79 ?_
          rw [hQ]
          exact W.iret (v := w_32) hx hb hr (fun t ht hW => ⟨⟨w_32, (w_4, w_5, w_6, w_7, w_8, w_9, w_26, w_27, w_28, w_29, w_30, w_31, w_32, w_17, w_18, w_19, w_20, w_33, w_34, w_35, w_24), rfl, okS hw, by rw [ht]; exact hP, va_K.moved hW.alike hK, hD⟩, hS.F ht⟩) hS.2.2 dX6_way_82
        replace hw := okF hw c_37
        by_cases c_38 : x2 = (-2)
        · replace hw := okT hw c_38
          refine lv_tableIn (off := 32) (tgt := 73) hx hb dX6_way_41 (by rw [c_38]; decide) (by rw [c_38]; decide) (by rw [c_38]; rfl) (by decide) ?_
          refine lv_aload_n hx hb dX6_way_73 rfl (lv_at hl 0 rfl) ?_
          refine va_get (D := (dC, dI)) (ci := 5) (v := .int w_31) (C := RX5) (T := TX5) (N := 20) hx hb hts hi5 hown hK hP 6 rfl rfl 18 (by decide) hq6 (fun _ h9 => h9) rfl dX6_way_74 ?_
          rw [hQ]
          exact W.iret (v := w_31) hx hb hr (fun t ht hW => ⟨⟨w_31, (w_4, w_5, w_6, w_7, w_8, w_9, w_26, w_27, w_28, w_29, w_30, w_31, w_32, w_17, w_18, w_19, w_20, w_33, w_34, w_35, w_24), rfl, okS hw, by rw [ht]; exact hP, va_K.moved hW.alike hK, hD⟩, hS.F ht⟩) hS.2.2 dX6_way_77
        replace hw := okF hw c_38
        by_cases c_39 : x2 = (-1)
        · replace hw := okT hw c_39
          refine lv_tableIn (off := 27) (tgt := 68) hx hb dX6_way_41 (by rw [c_39]; decide) (by rw [c_39]; decide) (by rw [c_39]; rfl) (by decide) ?_
          refine lv_aload_n hx hb dX6_way_68 rfl (lv_at hl 0 rfl) ?_
          refine va_get (D := (dC, dI)) (ci := 5) (v := .int w_30) (C := RX5) (T := TX5) (N := 20) hx hb hts hi5 hown hK hP 6 rfl rfl 17 (by decide) hq7 (fun _ h9 => h9) rfl dX6_way_69 ?_
          rw [hQ]
          exact W.iret (v := w_30) hx hb hr (fun t ht hW => ⟨⟨w_30, (w_4, w_5, w_6, w_7, w_8, w_9, w_26, w_27, w_28, w_29, w_30, w_31, w_32, w_17, w_18, w_19, w_20, w_33, w_34, w_35, w_24), rfl, okS hw, by rw [ht]; exact hP, va_K.moved hW.alike hK, hD⟩, hS.F ht⟩) hS.2.2 dX6_way_72
        replace hw := okF hw c_39
        have nc_37 := lv_neT c_37 (show ((-3) : Int32).toInt = (-3) by decide)
        have nc_38 := lv_neT c_38 (show ((-2) : Int32).toInt = (-2) by decide)
        have nc_39 := lv_neT c_39 (show ((-1) : Int32).toInt = (-1) by decide)
        refine lv_tableOut (tgt := 83) hx hb dX6_way_41 (by omega) (by decide) ?_
        refine lv_aload_n hx hb dX6_way_83 rfl (lv_at hl 0 rfl) ?_
        refine va_get (D := (dC, dI)) (ci := 5) (v := .ref a_walk_cellAt) (C := RX5) (T := TX5) (N := 20) hx hb hts hi5 hown hK hP 6 rfl rfl 9 (by decide) hq8 (fun _ h9 => h9) rfl dX6_way_84 ?_
        refine lv_iload_n hx hb dX6_way_87 rfl (lv_at hl 3 rfl) ?_
        obtain ⟨h_40, hw⟩ := okC hw
        refine va_iald (i := x2) hx hb hK hP 11 0 rfl rfl h_40 dX6_way_88 ?_
        rw [hQ]
        exact W.iret (v := w_33 x2.toNatClampNeg) hx hb hr (fun t ht hW => ⟨⟨w_33 x2.toNatClampNeg, (w_4, w_5, w_6, w_7, w_8, w_9, w_26, w_27, w_28, w_29, w_30, w_31, w_32, w_17, w_18, w_19, w_20, w_33, w_34, w_35, w_24), rfl, okS hw, by rw [ht]; exact hP, va_K.moved hW.alike hK, hD⟩, hS.F ht⟩) hS.2.2 dX6_way_89
      · replace hw := okT hw c_36
        clear c_36
        refine lv_bipush (v := (-4)) hx hb dX6_way_37 (by decide) ?_
        rw [hQ]
        exact W.iret (v := (-4)) hx hb hr (fun t ht hW => ⟨⟨(-4), (w_4, w_5, w_6, w_7, w_8, w_9, w_26, w_27, w_28, w_29, w_30, w_31, w_32, w_17, w_18, w_19, w_20, w_33, w_34, w_35, w_24), rfl, okS hw, by rw [ht]; exact hP, va_K.moved hW.alike hK, hD⟩, hS.F ht⟩) hS.2.2 dX6_way_39
    · replace hw := okT hw c_3
      clear c_3
      refine lv_iconst (v := (-1)) hx hb dX6_way_22 (by decide) ?_
      rw [hQ]
      exact W.iret (v := (-1)) hx hb hr (fun t ht hW => ⟨⟨(-1), (o_walkIsOld, walk_last, walk_turnsLet, walk_slowsLet, walk_fuel, walk_glide, walk_count, walk_weightSum, walk_toPass, walk_foundNumber, walk_foundWeight, walk_foundTurns, walk_foundSlowed, walk_howFar, walk_tones, walk_only, walk_fars, walk_cellAt, walk_ends, walk_seen, walk_begun), rfl, okS hw, by rw [ht]; exact hP, va_K.moved hW.alike hK, hD⟩, hS.F ht⟩) hS.2.2 dX6_way_23
/-! ===== X6_may ===== -/
theorem dX6_may_0 : decode cX6_may 0 = .ok (.iload_n 1, 1) := by decide +kernel
theorem dX6_may_1 : decode cX6_may 1 = .ok (.iconst 0, 1) := by decide +kernel
theorem dX6_may_2 : decode cX6_may 2 = .ok (.aload_n 0, 1) := by decide +kernel
theorem dX6_may_3 : decode cX6_may 3 = .ok (.getfield 10, 3) := by decide +kernel
theorem dX6_may_6 : decode cX6_may 6 = .ok (.getfield 85, 3) := by decide +kernel
theorem dX6_may_9 : decode cX6_may 9 = .ok (.iconst 2, 1) := by decide +kernel
theorem dX6_may_10 : decode cX6_may 10 = .ok (.iaload, 1) := by decide +kernel
theorem dX6_may_11 : decode cX6_may 11 = .ok (.invokestatic 74, 3) := by decide +kernel
theorem dX6_may_14 : decode cX6_may 14 = .ok (.ifCond .eq 13, 3) := by decide +kernel
theorem dX6_may_17 : decode cX6_may 17 = .ok (.iload_n 2, 1) := by decide +kernel
theorem dX6_may_18 : decode cX6_may 18 = .ok (.iconst 0, 1) := by decide +kernel
theorem dX6_may_19 : decode cX6_may 19 = .ok (.bipush 9, 2) := by decide +kernel
theorem dX6_may_21 : decode cX6_may 21 = .ok (.invokestatic 74, 3) := by decide +kernel
theorem dX6_may_24 : decode cX6_may 24 = .ok (.ifCond .ne 5, 3) := by decide +kernel
theorem dX6_may_27 : decode cX6_may 27 = .ok (.iconst (-1), 1) := by decide +kernel
theorem dX6_may_28 : decode cX6_may 28 = .ok (.ireturn, 1) := by decide +kernel
theorem dX6_may_29 : decode cX6_may 29 = .ok (.aload_n 0, 1) := by decide +kernel
theorem dX6_may_30 : decode cX6_may 30 = .ok (.invokevirtual 121, 3) := by decide +kernel
theorem dX6_may_33 : decode cX6_may 33 = .ok (.getfield 148, 3) := by decide +kernel
theorem dX6_may_36 : decode cX6_may 36 = .ok (.bipush 10, 2) := by decide +kernel
theorem dX6_may_38 : decode cX6_may 38 = .ok (.iload_n 1, 1) := by decide +kernel
theorem dX6_may_39 : decode cX6_may 39 = .ok (.imul, 1) := by decide +kernel
theorem dX6_may_40 : decode cX6_may 40 = .ok (.iload_n 2, 1) := by decide +kernel
theorem dX6_may_41 : decode cX6_may 41 = .ok (.iadd, 1) := by decide +kernel
theorem dX6_may_42 : decode cX6_may 42 = .ok (.iaload, 1) := by decide +kernel
theorem dX6_may_43 : decode cX6_may 43 = .ok (.ireturn, 1) := by decide +kernel
abbrev W_X6_may (cyI cyJ cyO : ClassId) (h_o h_told h_walk h_kept h_trial h_seas h_ends h_otherEnds h_tape a_sheets a_told_settings a_told_howFar a_told_tones a_told_currents a_told_warmths a_told_depths a_told_fars a_told_pieceCells a_told_pieceMonths a_told_pieceHighs a_told_pieceAges a_told_pieceNeeds a_told_dragCells a_told_dragEighths a_walk_howFar a_walk_tones a_walk_only a_walk_fars a_walk_cellAt a_walk_ends a_walk_seen a_walk_begun : Nat) (o_hasImage : Int32) (o_walkIsOld : Int32) (o_endsAreOld : Int32) (told_pieceCount : Int32) (told_dragCount : Int32) (told_settings : Nat → Int32) (told_howFar : Nat → Int32) (told_tones : Nat → Int32) (told_fars : Nat → Int32) (walk_last : Int32) (walk_turnsLet : Int32) (walk_slowsLet : Int32) (walk_fuel : Int32) (walk_glide : Int32) (walk_count : Int32) (walk_weightSum : Int64) (walk_toPass : Int32) (walk_foundNumber : Int32) (walk_foundWeight : Int32) (walk_foundTurns : Int32) (walk_foundSlowed : Int32) (walk_howFar : Nat → Int32) (walk_tones : Nat → Int32) (walk_only : Nat → Int32) (walk_fars : Nat → Int32) (walk_cellAt : Nat → Int32) (walk_ends : Nat → Int64) (walk_seen : Nat → Int32) (walk_begun : Nat → Int32) : va_W := [(h_o, .inr (6, [.ref h_told, .ref h_kept, .ref h_walk, .ref h_trial, .ref h_seas, .ref h_ends, .ref h_otherEnds, .ref h_tape, .ref a_sheets, .int o_hasImage, .int o_walkIsOld, .int o_endsAreOld])), (h_told, .inr (4, [.ref a_told_settings, .ref a_told_howFar, .ref a_told_tones, .ref a_told_currents, .ref a_told_warmths, .ref a_told_depths, .ref a_told_fars, .ref a_told_pieceCells, .ref a_told_pieceMonths, .ref a_told_pieceHighs, .ref a_told_pieceAges, .ref a_told_pieceNeeds, .ref a_told_dragCells, .ref a_told_dragEighths, .int told_pieceCount, .int told_dragCount])), (a_told_settings, .inl (cyI, 8, .inl told_settings)), (a_told_howFar, .inl (cyI, 7, .inl told_howFar)), (a_told_tones, .inl (cyI, 7, .inl told_tones)), (a_told_fars, .inl (cyI, 100, .inl told_fars)), (h_walk, .inr (5, [.ref a_walk_howFar, .ref a_walk_tones, .ref a_walk_only, .ref a_walk_fars, .int walk_last, .int walk_turnsLet, .int walk_slowsLet, .int walk_fuel, .int walk_glide, .ref a_walk_cellAt, .ref a_walk_ends, .ref a_walk_seen, .ref a_walk_begun, .int walk_count, .long walk_weightSum, .int walk_toPass, .int walk_foundNumber, .int walk_foundWeight, .int walk_foundTurns, .int walk_foundSlowed])), (a_walk_howFar, .inl (cyI, 7, .inl walk_howFar)), (a_walk_tones, .inl (cyI, 7, .inl walk_tones)), (a_walk_only, .inl (cyI, 7, .inl walk_only)), (a_walk_fars, .inl (cyI, 100, .inl walk_fars)), (a_walk_cellAt, .inl (cyI, 7, .inl walk_cellAt)), (a_walk_ends, .inl (cyJ, 100, .inr (.inl walk_ends))), (a_walk_seen, .inl (cyI, 70, .inl walk_seen)), (a_walk_begun, .inl (cyI, 24, .inl walk_begun))]
def f_X6_may (x1 : Int32) (x2 : Int32) (o_walkIsOld : Int32) (told_settings : Nat → Int32) (told_howFar : Nat → Int32) (told_tones : Nat → Int32) (told_fars : Nat → Int32) (walk_last : Int32) (walk_turnsLet : Int32) (walk_slowsLet : Int32) (walk_fuel : Int32) (walk_glide : Int32) (walk_count : Int32) (walk_weightSum : Int64) (walk_toPass : Int32) (walk_foundNumber : Int32) (walk_foundWeight : Int32) (walk_foundTurns : Int32) (walk_foundSlowed : Int32) (walk_howFar : Nat → Int32) (walk_tones : Nat → Int32) (walk_only : Nat → Int32) (walk_fars : Nat → Int32) (walk_cellAt : Nat → Int32) (walk_ends : Nat → Int64) (walk_seen : Nat → Int32) (walk_begun : Nat → Int32) : Option (Int32 × Int32 × Int32 × Int32 × Int32 × Int32 × Int32 × Int32 × Int64 × Int32 × Int32 × Int32 × Int32 × Int32 × (Nat → Int32) × (Nat → Int32) × (Nat → Int32) × (Nat → Int32) × (Nat → Int32) × (Nat → Int64) × (Nat → Int32) × (Nat → Int32)) :=
  bd1 (f_X6_within x1 0 (told_settings 2)) fun r_1 =>
  if r_1 = 0 then
    some ((-1), o_walkIsOld, walk_last, walk_turnsLet, walk_slowsLet, walk_fuel, walk_glide, walk_count, walk_weightSum, walk_toPass, walk_foundNumber, walk_foundWeight, walk_foundTurns, walk_foundSlowed, walk_howFar, walk_tones, walk_only, walk_fars, walk_cellAt, walk_ends, walk_seen, walk_begun)
  else
    bd1 (f_X6_within x2 0 9) fun r_2 =>
    if r_2 = 0 then
      some ((-1), o_walkIsOld, walk_last, walk_turnsLet, walk_slowsLet, walk_fuel, walk_glide, walk_count, walk_weightSum, walk_toPass, walk_foundNumber, walk_foundWeight, walk_foundTurns, walk_foundSlowed, walk_howFar, walk_tones, walk_only, walk_fars, walk_cellAt, walk_ends, walk_seen, walk_begun)
    else
      bd21 (f_X6_walked o_walkIsOld told_settings told_howFar told_tones told_fars walk_last walk_turnsLet walk_slowsLet walk_fuel walk_glide walk_count walk_weightSum walk_toPass walk_foundNumber walk_foundWeight walk_foundTurns walk_foundSlowed walk_howFar walk_tones walk_only walk_fars walk_cellAt walk_ends walk_seen walk_begun) fun w_3 w_4 w_5 w_6 w_7 w_8 w_9 w_10 w_11 w_12 w_13 w_14 w_15 w_16 w_17 w_18 w_19 w_20 w_21 w_22 w_23 =>
      chk (¬ ((10 * x1) + x2 < 0 ∨ 70 ≤ ((10 * x1) + x2).toNatClampNeg)) <|
      some (w_22 ((10 * x1) + x2).toNatClampNeg, w_3, w_4, w_5, w_6, w_7, w_8, w_9, w_10, w_11, w_12, w_13, w_14, w_15, w_16, w_17, w_18, w_19, w_20, w_21, w_22, w_23)
abbrev rm_X6_may : Room := { frames := 43, cells := 0, slots := 0, locals := 1074 }
set_option maxRecDepth 100000 in
set_option maxHeartbeats 4000000 in
theorem c_X6_may (l : Launch) (dC : Nat → ClassId) (dI : Nat → Nat → Nat) (cyI cyJ cyO : ClassId) (sz : Nat) (tD tR tL tM : Nat) (h_o h_told h_walk h_kept h_trial h_seas h_ends h_otherEnds h_tape a_sheets a_told_settings a_told_howFar a_told_tones a_told_currents a_told_warmths a_told_depths a_told_fars a_told_pieceCells a_told_pieceMonths a_told_pieceHighs a_told_pieceAges a_told_pieceNeeds a_told_dragCells a_told_dragEighths a_walk_howFar a_walk_tones a_walk_only a_walk_fars a_walk_cellAt a_walk_ends a_walk_seen a_walk_begun : Nat) (o_hasImage : Int32) (o_walkIsOld : Int32) (o_endsAreOld : Int32) (told_pieceCount : Int32) (told_dragCount : Int32) (told_settings : Nat → Int32) (told_howFar : Nat → Int32) (told_tones : Nat → Int32) (told_fars : Nat → Int32) (walk_last : Int32) (walk_turnsLet : Int32) (walk_slowsLet : Int32) (walk_fuel : Int32) (walk_glide : Int32) (walk_count : Int32) (walk_weightSum : Int64) (walk_toPass : Int32) (walk_foundNumber : Int32) (walk_foundWeight : Int32) (walk_foundTurns : Int32) (walk_foundSlowed : Int32) (walk_howFar : Nat → Int32) (walk_tones : Nat → Int32) (walk_only : Nat → Int32) (walk_fars : Nat → Int32) (walk_cellAt : Nat → Int32) (walk_ends : Nat → Int64) (walk_seen : Nat → Int32) (walk_begun : Nat → Int32) (x1 : Int32) (x2 : Int32) (post : (Int32 × Int32 × Int32 × Int32 × Int32 × Int32 × Int32 × Int32 × Int64 × Int32 × Int32 × Int32 × Int32 × Int32 × (Nat → Int32) × (Nat → Int32) × (Nat → Int32) × (Nat → Int32) × (Nat → Int32) × (Nat → Int64) × (Nat → Int32) × (Nat → Int32)) → Prop) (hf : okP (f_X6_may x1 x2 o_walkIsOld told_settings told_howFar told_tones told_fars walk_last walk_turnsLet walk_slowsLet walk_fuel walk_glide walk_count walk_weightSum walk_toPass walk_foundNumber walk_foundWeight walk_foundTurns walk_foundSlowed walk_howFar walk_tones walk_only walk_fars walk_cellAt walk_ends walk_seen walk_begun) post) : Ci l (dC, dI) (tyL cyI cyJ cyO) yX6_may wsX6_may rm_X6_may [.ref h_o, .int x1, .int x2] sz (W_X6_may cyI cyJ cyO h_o h_told h_walk h_kept h_trial h_seas h_ends h_otherEnds h_tape a_sheets a_told_settings a_told_howFar a_told_tones a_told_currents a_told_warmths a_told_depths a_told_fars a_told_pieceCells a_told_pieceMonths a_told_pieceHighs a_told_pieceAges a_told_pieceNeeds a_told_dragCells a_told_dragEighths a_walk_howFar a_walk_tones a_walk_only a_walk_fars a_walk_cellAt a_walk_ends a_walk_seen a_walk_begun o_hasImage o_walkIsOld o_endsAreOld told_pieceCount told_dragCount told_settings told_howFar told_tones told_fars walk_last walk_turnsLet walk_slowsLet walk_fuel walk_glide walk_count walk_weightSum walk_toPass walk_foundNumber walk_foundWeight walk_foundTurns walk_foundSlowed walk_howFar walk_tones walk_only walk_fars walk_cellAt walk_ends walk_seen walk_begun) (zX tD tR tL tM) (fun r u => post (r, u)) (fun u => (W_X6_may cyI cyJ cyO h_o h_told h_walk h_kept h_trial h_seas h_ends h_otherEnds h_tape a_sheets a_told_settings a_told_howFar a_told_tones a_told_currents a_told_warmths a_told_depths a_told_fars a_told_pieceCells a_told_pieceMonths a_told_pieceHighs a_told_pieceAges a_told_pieceNeeds a_told_dragCells a_told_dragEighths a_walk_howFar a_walk_tones a_walk_only a_walk_fars a_walk_cellAt a_walk_ends a_walk_seen a_walk_begun o_hasImage u.1 o_endsAreOld told_pieceCount told_dragCount told_settings told_howFar told_tones told_fars u.2.1 u.2.2.1 u.2.2.2.1 u.2.2.2.2.1 u.2.2.2.2.2.1 u.2.2.2.2.2.2.1 u.2.2.2.2.2.2.2.1 u.2.2.2.2.2.2.2.2.1 u.2.2.2.2.2.2.2.2.2.1 u.2.2.2.2.2.2.2.2.2.2.1 u.2.2.2.2.2.2.2.2.2.2.2.1 u.2.2.2.2.2.2.2.2.2.2.2.2.1 u.2.2.2.2.2.2.2.2.2.2.2.2.2.1 u.2.2.2.2.2.2.2.2.2.2.2.2.2.2.1 u.2.2.2.2.2.2.2.2.2.2.2.2.2.2.2.1 u.2.2.2.2.2.2.2.2.2.2.2.2.2.2.2.2.1 u.2.2.2.2.2.2.2.2.2.2.2.2.2.2.2.2.2.1 u.2.2.2.2.2.2.2.2.2.2.2.2.2.2.2.2.2.2.1 u.2.2.2.2.2.2.2.2.2.2.2.2.2.2.2.2.2.2.2.1 u.2.2.2.2.2.2.2.2.2.2.2.2.2.2.2.2.2.2.2.2)) := by
  refine Met.ofW (cc := cX6_may) (maxL := 3) (ret := (some .int)) (by decide) rfl ?_
  intro p e s m args below meth c s₁ B hml hv
  obtain ⟨rfl, hsz, hP, hK, hD0, hZ⟩ := hv
  have hx := B.exec
  have hb := B.bytes
  have hr := B.returns
  have hts := atoms_spec (ws := wsX6_may) B.pre
  have hown : s.vm.findClass RX6 = some m.cls := findClass_of_methodNamed B.named
  have hlocks := B.notSynchronized
  subst hsz
  have hD := hD0.self (sz := s.heap.size)
  generalize hAe : va_A (W_X6_may cyI cyJ cyO h_o h_told h_walk h_kept h_trial h_seas h_ends h_otherEnds h_tape a_sheets a_told_settings a_told_howFar a_told_tones a_told_currents a_told_warmths a_told_depths a_told_fars a_told_pieceCells a_told_pieceMonths a_told_pieceHighs a_told_pieceAges a_told_pieceNeeds a_told_dragCells a_told_dragEighths a_walk_howFar a_walk_tones a_walk_only a_walk_fars a_walk_cellAt a_walk_ends a_walk_seen a_walk_begun o_hasImage o_walkIsOld o_endsAreOld told_pieceCount told_dragCount told_settings told_howFar told_tones told_fars walk_last walk_turnsLet walk_slowsLet walk_fuel walk_glide walk_count walk_weightSum walk_toPass walk_foundNumber walk_foundWeight walk_foundTurns walk_foundSlowed walk_howFar walk_tones walk_only walk_fars walk_cellAt walk_ends walk_seen walk_begun) s.heap.size = A at hD hZ ⊢
  have hA : ∀ q : Nat, s.heap.size ≤ q → A q := fun q h => by rw [← hAe]; exact Or.inr h
  clear hAe hD0
  have hS : va_S A s.heap s.heap [] := va_S.rf
  have hl := lv_entry ([.ref h_o, .int x1, .int x2]) (n := 3) (Nat.le_of_ble_eq_true rfl)
  rw [lg_entry_eq]
  generalize (lg_sl ([.ref h_o, .int x1, .int x2]) ++ List.replicate (3 - (lg_sl ([.ref h_o, .int x1, .int x2])).length) Slot.unset).toArray = ls at hl ⊢
  have hl : lv_has ls 3 [(0, .ref h_o), (1, .int x1), (2, .int x2)] := hl
  refine kW (fun Q hQ => ?_)
  have hq0 := hts _ (List.mem_cons_of_mem _ q_270)
  have hi6 : ∀ w ∈ u_ws RX6 TX6 12, w ∈ wsX6_may := fun w h => List.mem_cons_of_mem _ (inX6 w h)
  have hq2 := hts _ (List.mem_cons_of_mem _ q_33)
  have hi4 : ∀ w ∈ u_ws RX4 TX4 16, w ∈ wsX6_may := fun w h => List.mem_cons_of_mem _ (inX4 w h)
  have hq4 := hts _ (List.mem_cons_of_mem _ q_131)
  have hi5 : ∀ w ∈ u_ws RX5 TX5 20, w ∈ wsX6_may := fun w h => List.mem_cons_of_mem _ (inX5 w h)
  have hw := hf
  unfold f_X6_may at hw
  have hP : va_P (dC, dI) vwCl (W_X6_may cyI cyJ cyO h_o h_told h_walk h_kept h_trial h_seas h_ends h_otherEnds h_tape a_sheets a_told_settings a_told_howFar a_told_tones a_told_currents a_told_warmths a_told_depths a_told_fars a_told_pieceCells a_told_pieceMonths a_told_pieceHighs a_told_pieceAges a_told_pieceNeeds a_told_dragCells a_told_dragEighths a_walk_howFar a_walk_tones a_walk_only a_walk_fars a_walk_cellAt a_walk_ends a_walk_seen a_walk_begun o_hasImage o_walkIsOld o_endsAreOld told_pieceCount told_dragCount told_settings told_howFar told_tones told_fars walk_last walk_turnsLet walk_slowsLet walk_fuel walk_glide walk_count walk_weightSum walk_toPass walk_foundNumber walk_foundWeight walk_foundTurns walk_foundSlowed walk_howFar walk_tones walk_only walk_fars walk_cellAt walk_ends walk_seen walk_begun) s.heap := hP
  obtain ⟨H, hH⟩ : ∃ H, H = s.heap := ⟨_, rfl⟩
  obtain ⟨locs, hlo⟩ : ∃ x : List Loc, x = [] := ⟨_, rfl⟩
  have hP : va_P (dC, dI) vwCl (W_X6_may cyI cyJ cyO h_o h_told h_walk h_kept h_trial h_seas h_ends h_otherEnds h_tape a_sheets a_told_settings a_told_howFar a_told_tones a_told_currents a_told_warmths a_told_depths a_told_fars a_told_pieceCells a_told_pieceMonths a_told_pieceHighs a_told_pieceAges a_told_pieceNeeds a_told_dragCells a_told_dragEighths a_walk_howFar a_walk_tones a_walk_only a_walk_fars a_walk_cellAt a_walk_ends a_walk_seen a_walk_begun o_hasImage o_walkIsOld o_endsAreOld told_pieceCount told_dragCount told_settings told_howFar told_tones told_fars walk_last walk_turnsLet walk_slowsLet walk_fuel walk_glide walk_count walk_weightSum walk_toPass walk_foundNumber walk_foundWeight walk_foundTurns walk_foundSlowed walk_howFar walk_tones walk_only walk_fars walk_cellAt walk_ends walk_seen walk_begun) H := by rw [hH]; exact hP
  have hS : va_S A s.heap H locs := by rw [hH, hlo]; exact hS
  refine kH hH hlo ?_
  clear hH hlo
  refine lv_iload_n hx hb dX6_may_0 rfl (lv_at hl 1 rfl) ?_
  refine lv_iconst (v := 0) hx hb dX6_may_1 (by decide) ?_
  refine lv_aload_n hx hb dX6_may_2 rfl (lv_at hl 0 rfl) ?_
  refine va_get (D := (dC, dI)) (ci := 6) (v := .ref h_told) (C := RX6) (T := TX6) (N := 12) hx hb hts hi6 hown hK hP 0 rfl rfl 0 (by decide) hq0 (fun _ h9 => h9) rfl dX6_may_3 ?_
  refine va_get (D := (dC, dI)) (ci := 4) (v := .ref a_told_settings) (C := RX4) (T := TX4) (N := 16) hx hb hts hi4 hown hK hP 1 rfl rfl 0 (by decide) hq2 (fun _ h9 => h9) rfl dX6_may_6 ?_
  refine lv_iconst (v := 2) hx hb dX6_may_9 (by decide) ?_
  refine va_iald (i := 2) hx hb hK hP 2 0 rfl rfl (show ¬ _ by decide) dX6_may_10 ?_
  have hFc := va_free (wc := []) hD hS hA [] rfl
  refine kp_i (va_runS (As := [.int x1, .int 0, .int (told_settings 2)]) (rest := []) ⟨hx, hb, hml, hown, hts⟩ (c_X6_within l dC dI cyI cyJ cyO H.size x1 0 (told_settings 2) _ (okb1 hw)) (va_cwS 3 hts (gdS (fun w h => List.mem_cons_of_mem _ h) q_311 q_312 q_1 q_313) rfl rfl rfl (by decide +kernel) ⟨Nat.le_of_ble_eq_true rfl, Nat.le_of_ble_eq_true rfl⟩) (kpre zN_ok hK va_P0 va_D0 trivial hS hFc) rfl rfl hl.1 rfl (lv_room (Nat.le_of_ble_eq_true rfl)) dX6_may_11 ⟨Nat.le_of_ble_eq_true rfl, Nat.le_of_ble_eq_true rfl⟩) hP hD hS hFc (fun r_1 H locs hw hP hS => ?_)
  try dsimp only at hw
  clear hFc
  refine lv_if_eq (tgt := 27) hx hb dX6_may_14 (by decide) (fun c_2 => ?_) (fun c_2 => ?_)
  · replace hw := okT hw c_2
    clear c_2
    refine lv_iconst (v := (-1)) hx hb dX6_may_27 (by decide) ?_
    rw [hQ]
    exact W.iret (v := (-1)) hx hb hr (fun t ht hW => ⟨⟨(-1), (o_walkIsOld, walk_last, walk_turnsLet, walk_slowsLet, walk_fuel, walk_glide, walk_count, walk_weightSum, walk_toPass, walk_foundNumber, walk_foundWeight, walk_foundTurns, walk_foundSlowed, walk_howFar, walk_tones, walk_only, walk_fars, walk_cellAt, walk_ends, walk_seen, walk_begun), rfl, okS hw, by rw [ht]; exact hP, va_K.moved hW.alike hK, hD⟩, hS.F ht⟩) hS.2.2 dX6_may_28
  · replace hw := okF hw c_2
    clear c_2
    refine lv_iload_n hx hb dX6_may_17 rfl (lv_at hl 2 rfl) ?_
    refine lv_iconst (v := 0) hx hb dX6_may_18 (by decide) ?_
    refine lv_bipush (v := 9) hx hb dX6_may_19 (by decide) ?_
    have hFc := va_free (wc := []) hD hS hA [] rfl
    refine kp_i (va_runS (As := [.int x2, .int 0, .int 9]) (rest := []) ⟨hx, hb, hml, hown, hts⟩ (c_X6_within l dC dI cyI cyJ cyO H.size x2 0 9 _ (okb1 hw)) (va_cwS 3 hts (gdS (fun w h => List.mem_cons_of_mem _ h) q_311 q_312 q_1 q_313) rfl rfl rfl (by decide +kernel) ⟨Nat.le_of_ble_eq_true rfl, Nat.le_of_ble_eq_true rfl⟩) (kpre zN_ok hK va_P0 va_D0 trivial hS hFc) rfl rfl hl.1 rfl (lv_room (Nat.le_of_ble_eq_true rfl)) dX6_may_21 ⟨Nat.le_of_ble_eq_true rfl, Nat.le_of_ble_eq_true rfl⟩) hP hD hS hFc (fun r_3 H locs hw hP hS => ?_)
    try dsimp only at hw
    clear hFc
    refine lv_if_ne (tgt := 29) hx hb dX6_may_24 (by decide) (fun c_4 => ?_) (fun c_4 => ?_)
    · replace hw := okF hw c_4
      clear c_4
      refine lv_aload_n hx hb dX6_may_29 rfl (lv_at hl 0 rfl) ?_
      have hPc := hP.sub (ws' := (W_X6_walked cyI cyJ cyO h_o h_told h_walk h_kept h_trial h_seas h_ends h_otherEnds h_tape a_sheets a_told_settings a_told_howFar a_told_tones a_told_currents a_told_warmths a_told_depths a_told_fars a_told_pieceCells a_told_pieceMonths a_told_pieceHighs a_told_pieceAges a_told_pieceNeeds a_told_dragCells a_told_dragEighths a_walk_howFar a_walk_tones a_walk_only a_walk_fars a_walk_cellAt a_walk_ends a_walk_seen a_walk_begun o_hasImage o_walkIsOld o_endsAreOld told_pieceCount told_dragCount told_settings told_howFar told_tones told_fars walk_last walk_turnsLet walk_slowsLet walk_fuel walk_glide walk_count walk_weightSum walk_toPass walk_foundNumber walk_foundWeight walk_foundTurns walk_foundSlowed walk_howFar walk_tones walk_only walk_fars walk_cellAt walk_ends walk_seen walk_begun)) [0, 1, 2, 3, 4, 5, 6, 7, 8, 9, 10, 11, 12, 13, 14] rfl
      have hDc := hD.sub (ws' := (W_X6_walked cyI cyJ cyO h_o h_told h_walk h_kept h_trial h_seas h_ends h_otherEnds h_tape a_sheets a_told_settings a_told_howFar a_told_tones a_told_currents a_told_warmths a_told_depths a_told_fars a_told_pieceCells a_told_pieceMonths a_told_pieceHighs a_told_pieceAges a_told_pieceNeeds a_told_dragCells a_told_dragEighths a_walk_howFar a_walk_tones a_walk_only a_walk_fars a_walk_cellAt a_walk_ends a_walk_seen a_walk_begun o_hasImage o_walkIsOld o_endsAreOld told_pieceCount told_dragCount told_settings told_howFar told_tones told_fars walk_last walk_turnsLet walk_slowsLet walk_fuel walk_glide walk_count walk_weightSum walk_toPass walk_foundNumber walk_foundWeight walk_foundTurns walk_foundSlowed walk_howFar walk_tones walk_only walk_fars walk_cellAt walk_ends walk_seen walk_begun)) [0, 1, 2, 3, 4, 5, 6, 7, 8, 9, 10, 11, 12, 13, 14] (by decide +kernel) rfl
      have hFc := va_free (wc := (W_X6_walked cyI cyJ cyO h_o h_told h_walk h_kept h_trial h_seas h_ends h_otherEnds h_tape a_sheets a_told_settings a_told_howFar a_told_tones a_told_currents a_told_warmths a_told_depths a_told_fars a_told_pieceCells a_told_pieceMonths a_told_pieceHighs a_told_pieceAges a_told_pieceNeeds a_told_dragCells a_told_dragEighths a_walk_howFar a_walk_tones a_walk_only a_walk_fars a_walk_cellAt a_walk_ends a_walk_seen a_walk_begun o_hasImage o_walkIsOld o_endsAreOld told_pieceCount told_dragCount told_settings told_howFar told_tones told_fars walk_last walk_turnsLet walk_slowsLet walk_fuel walk_glide walk_count walk_weightSum walk_toPass walk_foundNumber walk_foundWeight walk_foundTurns walk_foundSlowed walk_howFar walk_tones walk_only walk_fars walk_cellAt walk_ends walk_seen walk_begun)) hD hS hA [0, 1, 2, 3, 4, 5, 6, 7, 8, 9, 10, 11, 12, 13, 14] rfl
      refine kc_r (wr := []) (va_runV (As := []) (rest := []) ⟨hx, hb, hml, hown, hts⟩ (c_X6_walked l dC dI cyI cyJ cyO H.size tD tR tL tM h_o h_told h_walk h_kept h_trial h_seas h_ends h_otherEnds h_tape a_sheets a_told_settings a_told_howFar a_told_tones a_told_currents a_told_warmths a_told_depths a_told_fars a_told_pieceCells a_told_pieceMonths a_told_pieceHighs a_told_pieceAges a_told_pieceNeeds a_told_dragCells a_told_dragEighths a_walk_howFar a_walk_tones a_walk_only a_walk_fars a_walk_cellAt a_walk_ends a_walk_seen a_walk_begun o_hasImage o_walkIsOld o_endsAreOld told_pieceCount told_dragCount told_settings told_howFar told_tones told_fars walk_last walk_turnsLet walk_slowsLet walk_fuel walk_glide walk_count walk_weightSum walk_toPass walk_foundNumber walk_foundWeight walk_foundTurns walk_foundSlowed walk_howFar walk_tones walk_only walk_fars walk_cellAt walk_ends walk_seen walk_begun _ (okb21 hw)) (cwV 0 hts (gdV (fun w h => List.mem_cons_of_mem _ h) q_397 q_399 qs_9 q_1 q_400) rfl rfl rfl (by decide +kernel) ⟨Nat.le_of_ble_eq_true rfl, Nat.le_of_ble_eq_true rfl⟩) ⟨(kpre zX_ok hK hPc hDc hZ hS hFc).1, va_recv hK hP (ci := 6) (q0 := 0) rfl rfl, (kpre zX_ok hK hPc hDc hZ hS hFc).2⟩ rfl rfl hl.1 rfl (lv_room (Nat.le_of_ble_eq_true rfl)) dX6_may_30 ⟨Nat.le_of_ble_eq_true rfl, Nat.le_of_ble_eq_true rfl⟩) hP hD hS hFc [0, 1, 2, 3, 4, 5, 6, 7, 8, 9, 10, 11, 12, 13, 14] [] rfl rfl (by decide +kernel) (by decide +kernel) (fun u H locs hw hP hD hS => ?_)
      obtain ⟨w_5, w_6, w_7, w_8, w_9, w_10, w_11, w_12, w_13, w_14, w_15, w_16, w_17, w_18, w_19, w_20, w_21, w_22, w_23, w_24, w_25⟩ := u
      try dsimp only at hw
      have hP : va_P (dC, dI) vwCl (W_X6_may cyI cyJ cyO h_o h_told h_walk h_kept h_trial h_seas h_ends h_otherEnds h_tape a_sheets a_told_settings a_told_howFar a_told_tones a_told_currents a_told_warmths a_told_depths a_told_fars a_told_pieceCells a_told_pieceMonths a_told_pieceHighs a_told_pieceAges a_told_pieceNeeds a_told_dragCells a_told_dragEighths a_walk_howFar a_walk_tones a_walk_only a_walk_fars a_walk_cellAt a_walk_ends a_walk_seen a_walk_begun o_hasImage w_5 o_endsAreOld told_pieceCount told_dragCount told_settings told_howFar told_tones told_fars w_6 w_7 w_8 w_9 w_10 w_11 w_12 w_13 w_14 w_15 w_16 w_17 w_18 w_19 w_20 w_21 w_22 w_23 w_24 w_25) H := hP.sub [0, 1, 2, 3, 4, 5, 6, 7, 8, 9, 10, 11, 12, 13, 14] rfl
      have hD : va_D A (W_X6_may cyI cyJ cyO h_o h_told h_walk h_kept h_trial h_seas h_ends h_otherEnds h_tape a_sheets a_told_settings a_told_howFar a_told_tones a_told_currents a_told_warmths a_told_depths a_told_fars a_told_pieceCells a_told_pieceMonths a_told_pieceHighs a_told_pieceAges a_told_pieceNeeds a_told_dragCells a_told_dragEighths a_walk_howFar a_walk_tones a_walk_only a_walk_fars a_walk_cellAt a_walk_ends a_walk_seen a_walk_begun o_hasImage w_5 o_endsAreOld told_pieceCount told_dragCount told_settings told_howFar told_tones told_fars w_6 w_7 w_8 w_9 w_10 w_11 w_12 w_13 w_14 w_15 w_16 w_17 w_18 w_19 w_20 w_21 w_22 w_23 w_24 w_25) := hD.sub [0, 1, 2, 3, 4, 5, 6, 7, 8, 9, 10, 11, 12, 13, 14] (by decide +kernel) rfl
      clear hPc hDc hFc
      refine va_get (D := (dC, dI)) (ci := 5) (v := .ref a_walk_seen) (C := RX5) (T := TX5) (N := 20) hx hb hts hi5 hown hK hP 6 rfl rfl 11 (by decide) hq4 (fun _ h9 => h9) rfl dX6_may_33 ?_
      refine lv_bipush (v := 10) hx hb dX6_may_36 (by decide) ?_
      refine lv_iload_n hx hb dX6_may_38 rfl (lv_at hl 1 rfl) ?_
      refine lv_imul hx hb dX6_may_39 ?_
      refine lv_iload_n hx hb dX6_may_40 rfl (lv_at hl 2 rfl) ?_
      refine lv_iadd hx hb dX6_may_41 ?_
      obtain ⟨h_26, hw⟩ := okC hw
      refine va_iald (i := (10 * x1) + x2) hx hb hK hP 13 0 rfl rfl h_26 dX6_may_42 ?_
      rw [hQ]
      exact W.iret (v := w_24 ((10 * x1) + x2).toNatClampNeg) hx hb hr (fun t ht hW => ⟨⟨w_24 ((10 * x1) + x2).toNatClampNeg, (w_5, w_6, w_7, w_8, w_9, w_10, w_11, w_12, w_13, w_14, w_15, w_16, w_17, w_18, w_19, w_20, w_21, w_22, w_23, w_24, w_25), rfl, okS hw, by rw [ht]; exact hP, va_K.moved hW.alike hK, hD⟩, hS.F ht⟩) hS.2.2 dX6_may_43
    · replace hw := okT hw c_4
      clear c_4
      refine lv_iconst (v := (-1)) hx hb dX6_may_27 (by decide) ?_
      rw [hQ]
      exact W.iret (v := (-1)) hx hb hr (fun t ht hW => ⟨⟨(-1), (o_walkIsOld, walk_last, walk_turnsLet, walk_slowsLet, walk_fuel, walk_glide, walk_count, walk_weightSum, walk_toPass, walk_foundNumber, walk_foundWeight, walk_foundTurns, walk_foundSlowed, walk_howFar, walk_tones, walk_only, walk_fars, walk_cellAt, walk_ends, walk_seen, walk_begun), rfl, okS hw, by rw [ht]; exact hP, va_K.moved hW.alike hK, hD⟩, hS.F ht⟩) hS.2.2 dX6_may_28
/-! ===== X6_sea ===== -/
theorem dX6_sea_0 : decode cX6_sea 0 = .ok (.iload_n 1, 1) := by decide +kernel
theorem dX6_sea_1 : decode cX6_sea 1 = .ok (.iconst 0, 1) := by decide +kernel
theorem dX6_sea_2 : decode cX6_sea 2 = .ok (.iconst 1, 1) := by decide +kernel
theorem dX6_sea_3 : decode cX6_sea 3 = .ok (.invokestatic 74, 3) := by decide +kernel
theorem dX6_sea_6 : decode cX6_sea 6 = .ok (.ifCond .eq 13, 3) := by decide +kernel
theorem dX6_sea_9 : decode cX6_sea 9 = .ok (.iload_n 2, 1) := by decide +kernel
theorem dX6_sea_10 : decode cX6_sea 10 = .ok (.iconst 0, 1) := by decide +kernel
theorem dX6_sea_11 : decode cX6_sea 11 = .ok (.bipush 9, 2) := by decide +kernel
theorem dX6_sea_13 : decode cX6_sea 13 = .ok (.invokestatic 74, 3) := by decide +kernel
theorem dX6_sea_16 : decode cX6_sea 16 = .ok (.ifCond .ne 5, 3) := by decide +kernel
theorem dX6_sea_19 : decode cX6_sea 19 = .ok (.iconst (-1), 1) := by decide +kernel
theorem dX6_sea_20 : decode cX6_sea 20 = .ok (.ireturn, 1) := by decide +kernel
theorem dX6_sea_21 : decode cX6_sea 21 = .ok (.aload_n 0, 1) := by decide +kernel
theorem dX6_sea_22 : decode cX6_sea 22 = .ok (.getfield 53, 3) := by decide +kernel
theorem dX6_sea_25 : decode cX6_sea 25 = .ok (.aload_n 0, 1) := by decide +kernel
theorem dX6_sea_26 : decode cX6_sea 26 = .ok (.getfield 10, 3) := by decide +kernel
theorem dX6_sea_29 : decode cX6_sea 29 = .ok (.getfield 151, 3) := by decide +kernel
theorem dX6_sea_32 : decode cX6_sea 32 = .ok (.bipush 100, 2) := by decide +kernel
theorem dX6_sea_34 : decode cX6_sea 34 = .ok (.iload_n 1, 1) := by decide +kernel
theorem dX6_sea_35 : decode cX6_sea 35 = .ok (.imul, 1) := by decide +kernel
theorem dX6_sea_36 : decode cX6_sea 36 = .ok (.bipush 10, 2) := by decide +kernel
theorem dX6_sea_38 : decode cX6_sea 38 = .ok (.iload_n 2, 1) := by decide +kernel
theorem dX6_sea_39 : decode cX6_sea 39 = .ok (.imul, 1) := by decide +kernel
theorem dX6_sea_40 : decode cX6_sea 40 = .ok (.iadd, 1) := by decide +kernel
theorem dX6_sea_41 : decode cX6_sea 41 = .ok (.invokevirtual 154, 3) := by decide +kernel
theorem dX6_sea_44 : decode cX6_sea 44 = .ok (.istore_n 3, 1) := by decide +kernel
theorem dX6_sea_45 : decode cX6_sea 45 = .ok (.aload_n 0, 1) := by decide +kernel
theorem dX6_sea_46 : decode cX6_sea 46 = .ok (.getfield 53, 3) := by decide +kernel
theorem dX6_sea_49 : decode cX6_sea 49 = .ok (.invokevirtual 118, 3) := by decide +kernel
theorem dX6_sea_52 : decode cX6_sea 52 = .ok (.aload_n 0, 1) := by decide +kernel
theorem dX6_sea_53 : decode cX6_sea 53 = .ok (.invokevirtual 91, 3) := by decide +kernel
theorem dX6_sea_56 : decode cX6_sea 56 = .ok (.iload_n 3, 1) := by decide +kernel
theorem dX6_sea_57 : decode cX6_sea 57 = .ok (.ireturn, 1) := by decide +kernel
abbrev W_X6_sea (cyI cyJ cyO : ClassId) (h_o h_told h_seas h_tape h_kept h_walk h_trial h_ends h_otherEnds a_sheets a_told_settings a_told_howFar a_told_tones a_told_currents a_told_warmths a_told_depths a_told_fars a_told_pieceCells a_told_pieceMonths a_told_pieceHighs a_told_pieceAges a_told_pieceNeeds a_told_dragCells a_told_dragEighths a_seas_known a_tape_bytes a_tape_newFar a_tape_newTones a_tape_newCurrents : Nat) (o_hasImage : Int32) (o_walkIsOld : Int32) (o_endsAreOld : Int32) (told_pieceCount : Int32) (told_dragCount : Int32) (told_currents : Nat → Int32) (seas_known : Nat → Int32) (tape_length : Int32) (tape_place : Int32) (tape_bytes : Nat → Int32) (tape_newCurrents : Nat → Int32) : va_W := [(h_o, .inr (6, [.ref h_told, .ref h_kept, .ref h_walk, .ref h_trial, .ref h_seas, .ref h_ends, .ref h_otherEnds, .ref h_tape, .ref a_sheets, .int o_hasImage, .int o_walkIsOld, .int o_endsAreOld])), (h_told, .inr (4, [.ref a_told_settings, .ref a_told_howFar, .ref a_told_tones, .ref a_told_currents, .ref a_told_warmths, .ref a_told_depths, .ref a_told_fars, .ref a_told_pieceCells, .ref a_told_pieceMonths, .ref a_told_pieceHighs, .ref a_told_pieceAges, .ref a_told_pieceNeeds, .ref a_told_dragCells, .ref a_told_dragEighths, .int told_pieceCount, .int told_dragCount])), (a_told_currents, .inl (cyI, 200, .inl told_currents)), (h_seas, .inr (1, [.ref h_told, .ref a_seas_known])), (a_seas_known, .inl (cyI, 400, .inl seas_known)), (h_tape, .inr (3, [.ref a_tape_bytes, .int tape_length, .int tape_place, .ref a_tape_newFar, .ref a_tape_newTones, .ref a_tape_newCurrents])), (a_tape_bytes, .inl (cyI, 60, .inl tape_bytes)), (a_tape_newCurrents, .inl (cyI, 10, .inl tape_newCurrents))]
def f_X6_sea (x1 : Int32) (x2 : Int32) (o_endsAreOld : Int32) (told_currents : Nat → Int32) (seas_known : Nat → Int32) (tape_length : Int32) (tape_place : Int32) (tape_bytes : Nat → Int32) (tape_newCurrents : Nat → Int32) : Option (Int32 × Int32 × (Nat → Int32) × (Nat → Int32) × Int32 × Int32 × (Nat → Int32)) :=
  bd1 (f_X6_within x1 0 1) fun r_1 =>
  if r_1 = 0 then
    some ((-1), o_endsAreOld, told_currents, seas_known, tape_length, tape_place, tape_newCurrents)
  else
    bd1 (f_X6_within x2 0 9) fun r_2 =>
    if r_2 = 0 then
      some ((-1), o_endsAreOld, told_currents, seas_known, tape_length, tape_place, tape_newCurrents)
    else
      bd4 (f_X3_readSea 200 ((100 * x1) + (10 * x2)) tape_length tape_place tape_bytes tape_newCurrents told_currents) fun r_3 w_4 w_5 w_6 =>
      bd1 (f_X3_empty tape_length) fun w_7 =>
      bd2 (f_X6_seaChanged o_endsAreOld seas_known) fun w_8 w_9 =>
      some (r_3, w_8, w_6, w_9, w_7, w_4, w_5)
abbrev rm_X6_sea : Room := { frames := 3, cells := 0, slots := 0, locals := 65 }
set_option maxRecDepth 100000 in
set_option maxHeartbeats 4000000 in
theorem c_X6_sea (l : Launch) (dC : Nat → ClassId) (dI : Nat → Nat → Nat) (cyI cyJ cyO : ClassId) (sz : Nat) (h_o h_told h_seas h_tape h_kept h_walk h_trial h_ends h_otherEnds a_sheets a_told_settings a_told_howFar a_told_tones a_told_currents a_told_warmths a_told_depths a_told_fars a_told_pieceCells a_told_pieceMonths a_told_pieceHighs a_told_pieceAges a_told_pieceNeeds a_told_dragCells a_told_dragEighths a_seas_known a_tape_bytes a_tape_newFar a_tape_newTones a_tape_newCurrents : Nat) (o_hasImage : Int32) (o_walkIsOld : Int32) (o_endsAreOld : Int32) (told_pieceCount : Int32) (told_dragCount : Int32) (told_currents : Nat → Int32) (seas_known : Nat → Int32) (tape_length : Int32) (tape_place : Int32) (tape_bytes : Nat → Int32) (tape_newCurrents : Nat → Int32) (x1 : Int32) (x2 : Int32) (post : (Int32 × Int32 × (Nat → Int32) × (Nat → Int32) × Int32 × Int32 × (Nat → Int32)) → Prop) (hf : okP (f_X6_sea x1 x2 o_endsAreOld told_currents seas_known tape_length tape_place tape_bytes tape_newCurrents) post) : Ci l (dC, dI) (tyL cyI cyJ cyO) yX6_sea wsX6_sea rm_X6_sea [.ref h_o, .int x1, .int x2] sz (W_X6_sea cyI cyJ cyO h_o h_told h_seas h_tape h_kept h_walk h_trial h_ends h_otherEnds a_sheets a_told_settings a_told_howFar a_told_tones a_told_currents a_told_warmths a_told_depths a_told_fars a_told_pieceCells a_told_pieceMonths a_told_pieceHighs a_told_pieceAges a_told_pieceNeeds a_told_dragCells a_told_dragEighths a_seas_known a_tape_bytes a_tape_newFar a_tape_newTones a_tape_newCurrents o_hasImage o_walkIsOld o_endsAreOld told_pieceCount told_dragCount told_currents seas_known tape_length tape_place tape_bytes tape_newCurrents) zN (fun r u => post (r, u)) (fun u => (W_X6_sea cyI cyJ cyO h_o h_told h_seas h_tape h_kept h_walk h_trial h_ends h_otherEnds a_sheets a_told_settings a_told_howFar a_told_tones a_told_currents a_told_warmths a_told_depths a_told_fars a_told_pieceCells a_told_pieceMonths a_told_pieceHighs a_told_pieceAges a_told_pieceNeeds a_told_dragCells a_told_dragEighths a_seas_known a_tape_bytes a_tape_newFar a_tape_newTones a_tape_newCurrents o_hasImage o_walkIsOld u.1 told_pieceCount told_dragCount u.2.1 u.2.2.1 u.2.2.2.1 u.2.2.2.2.1 tape_bytes u.2.2.2.2.2)) := by
  refine Met.ofW (cc := cX6_sea) (maxL := 4) (ret := (some .int)) (by decide) rfl ?_
  intro p e s m args below meth c s₁ B hml hv
  obtain ⟨rfl, hsz, hP, hK, hD0, hZ⟩ := hv
  have hx := B.exec
  have hb := B.bytes
  have hr := B.returns
  have hts := atoms_spec (ws := wsX6_sea) B.pre
  have hown : s.vm.findClass RX6 = some m.cls := findClass_of_methodNamed B.named
  have hlocks := B.notSynchronized
  subst hsz
  have hD := hD0.self (sz := s.heap.size)
  generalize hAe : va_A (W_X6_sea cyI cyJ cyO h_o h_told h_seas h_tape h_kept h_walk h_trial h_ends h_otherEnds a_sheets a_told_settings a_told_howFar a_told_tones a_told_currents a_told_warmths a_told_depths a_told_fars a_told_pieceCells a_told_pieceMonths a_told_pieceHighs a_told_pieceAges a_told_pieceNeeds a_told_dragCells a_told_dragEighths a_seas_known a_tape_bytes a_tape_newFar a_tape_newTones a_tape_newCurrents o_hasImage o_walkIsOld o_endsAreOld told_pieceCount told_dragCount told_currents seas_known tape_length tape_place tape_bytes tape_newCurrents) s.heap.size = A at hD hZ ⊢
  have hA : ∀ q : Nat, s.heap.size ≤ q → A q := fun q h => by rw [← hAe]; exact Or.inr h
  clear hAe hD0
  have hS : va_S A s.heap s.heap [] := va_S.rf
  have hl := lv_entry ([.ref h_o, .int x1, .int x2]) (n := 4) (Nat.le_of_ble_eq_true rfl)
  rw [lg_entry_eq]
  generalize (lg_sl ([.ref h_o, .int x1, .int x2]) ++ List.replicate (4 - (lg_sl ([.ref h_o, .int x1, .int x2])).length) Slot.unset).toArray = ls at hl ⊢
  have hl : lv_has ls 4 [(0, .ref h_o), (1, .int x1), (2, .int x2)] := hl
  refine kW (fun Q hQ => ?_)
  have hq0 := hts _ (List.mem_cons_of_mem _ q_277)
  have hi6 : ∀ w ∈ u_ws RX6 TX6 12, w ∈ wsX6_sea := fun w h => List.mem_cons_of_mem _ (inX6 w h)
  have hq2 := hts _ (List.mem_cons_of_mem _ q_270)
  have hq3 := hts _ (List.mem_cons_of_mem _ q_44)
  have hi4 : ∀ w ∈ u_ws RX4 TX4 16, w ∈ wsX6_sea := fun w h => List.mem_cons_of_mem _ (inX4 w h)
  have hw := hf
  unfold f_X6_sea at hw
  have hP : va_P (dC, dI) vwCl (W_X6_sea cyI cyJ cyO h_o h_told h_seas h_tape h_kept h_walk h_trial h_ends h_otherEnds a_sheets a_told_settings a_told_howFar a_told_tones a_told_currents a_told_warmths a_told_depths a_told_fars a_told_pieceCells a_told_pieceMonths a_told_pieceHighs a_told_pieceAges a_told_pieceNeeds a_told_dragCells a_told_dragEighths a_seas_known a_tape_bytes a_tape_newFar a_tape_newTones a_tape_newCurrents o_hasImage o_walkIsOld o_endsAreOld told_pieceCount told_dragCount told_currents seas_known tape_length tape_place tape_bytes tape_newCurrents) s.heap := hP
  obtain ⟨H, hH⟩ : ∃ H, H = s.heap := ⟨_, rfl⟩
  obtain ⟨locs, hlo⟩ : ∃ x : List Loc, x = [] := ⟨_, rfl⟩
  have hP : va_P (dC, dI) vwCl (W_X6_sea cyI cyJ cyO h_o h_told h_seas h_tape h_kept h_walk h_trial h_ends h_otherEnds a_sheets a_told_settings a_told_howFar a_told_tones a_told_currents a_told_warmths a_told_depths a_told_fars a_told_pieceCells a_told_pieceMonths a_told_pieceHighs a_told_pieceAges a_told_pieceNeeds a_told_dragCells a_told_dragEighths a_seas_known a_tape_bytes a_tape_newFar a_tape_newTones a_tape_newCurrents o_hasImage o_walkIsOld o_endsAreOld told_pieceCount told_dragCount told_currents seas_known tape_length tape_place tape_bytes tape_newCurrents) H := by rw [hH]; exact hP
  have hS : va_S A s.heap H locs := by rw [hH, hlo]; exact hS
  refine kH hH hlo ?_
  clear hH hlo
  refine lv_iload_n hx hb dX6_sea_0 rfl (lv_at hl 1 rfl) ?_
  refine lv_iconst (v := 0) hx hb dX6_sea_1 (by decide) ?_
  refine lv_iconst (v := 1) hx hb dX6_sea_2 (by decide) ?_
  have hFc := va_free (wc := []) hD hS hA [] rfl
  refine kp_i (va_runS (As := [.int x1, .int 0, .int 1]) (rest := []) ⟨hx, hb, hml, hown, hts⟩ (c_X6_within l dC dI cyI cyJ cyO H.size x1 0 1 _ (okb1 hw)) (va_cwS 3 hts (gdS (fun w h => List.mem_cons_of_mem _ h) q_311 q_312 q_1 q_313) rfl rfl rfl (by decide +kernel) ⟨Nat.le_of_ble_eq_true rfl, Nat.le_of_ble_eq_true rfl⟩) (kpre zN_ok hK va_P0 va_D0 trivial hS hFc) rfl rfl hl.1 rfl (lv_room (Nat.le_of_ble_eq_true rfl)) dX6_sea_3 ⟨Nat.le_of_ble_eq_true rfl, Nat.le_of_ble_eq_true rfl⟩) hP hD hS hFc (fun r_1 H locs hw hP hS => ?_)
  try dsimp only at hw
  clear hFc
  refine lv_if_eq (tgt := 19) hx hb dX6_sea_6 (by decide) (fun c_2 => ?_) (fun c_2 => ?_)
  · replace hw := okT hw c_2
    clear c_2
    refine lv_iconst (v := (-1)) hx hb dX6_sea_19 (by decide) ?_
    rw [hQ]
    exact W.iret (v := (-1)) hx hb hr (fun t ht hW => ⟨⟨(-1), (o_endsAreOld, told_currents, seas_known, tape_length, tape_place, tape_newCurrents), rfl, okS hw, by rw [ht]; exact hP, va_K.moved hW.alike hK, hD⟩, hS.F ht⟩) hS.2.2 dX6_sea_20
  · replace hw := okF hw c_2
    clear c_2
    refine lv_iload_n hx hb dX6_sea_9 rfl (lv_at hl 2 rfl) ?_
    refine lv_iconst (v := 0) hx hb dX6_sea_10 (by decide) ?_
    refine lv_bipush (v := 9) hx hb dX6_sea_11 (by decide) ?_
    have hFc := va_free (wc := []) hD hS hA [] rfl
    refine kp_i (va_runS (As := [.int x2, .int 0, .int 9]) (rest := []) ⟨hx, hb, hml, hown, hts⟩ (c_X6_within l dC dI cyI cyJ cyO H.size x2 0 9 _ (okb1 hw)) (va_cwS 3 hts (gdS (fun w h => List.mem_cons_of_mem _ h) q_311 q_312 q_1 q_313) rfl rfl rfl (by decide +kernel) ⟨Nat.le_of_ble_eq_true rfl, Nat.le_of_ble_eq_true rfl⟩) (kpre zN_ok hK va_P0 va_D0 trivial hS hFc) rfl rfl hl.1 rfl (lv_room (Nat.le_of_ble_eq_true rfl)) dX6_sea_13 ⟨Nat.le_of_ble_eq_true rfl, Nat.le_of_ble_eq_true rfl⟩) hP hD hS hFc (fun r_3 H locs hw hP hS => ?_)
    try dsimp only at hw
    clear hFc
    refine lv_if_ne (tgt := 21) hx hb dX6_sea_16 (by decide) (fun c_4 => ?_) (fun c_4 => ?_)
    · replace hw := okF hw c_4
      clear c_4
      refine lv_aload_n hx hb dX6_sea_21 rfl (lv_at hl 0 rfl) ?_
      refine va_get (D := (dC, dI)) (ci := 6) (v := .ref h_tape) (C := RX6) (T := TX6) (N := 12) hx hb hts hi6 hown hK hP 0 rfl rfl 7 (by decide) hq0 (fun _ h9 => h9) rfl dX6_sea_22 ?_
      refine lv_aload_n hx hb dX6_sea_25 rfl (lv_at hl 0 rfl) ?_
      refine va_get (D := (dC, dI)) (ci := 6) (v := .ref h_told) (C := RX6) (T := TX6) (N := 12) hx hb hts hi6 hown hK hP 0 rfl rfl 0 (by decide) hq2 (fun _ h9 => h9) rfl dX6_sea_26 ?_
      refine va_get (D := (dC, dI)) (ci := 4) (v := .ref a_told_currents) (C := RX4) (T := TX4) (N := 16) hx hb hts hi4 hown hK hP 1 rfl rfl 3 (by decide) hq3 (fun _ h9 => h9) rfl dX6_sea_29 ?_
      refine lv_bipush (v := 100) hx hb dX6_sea_32 (by decide) ?_
      refine lv_iload_n hx hb dX6_sea_34 rfl (lv_at hl 1 rfl) ?_
      refine lv_imul hx hb dX6_sea_35 ?_
      refine lv_bipush (v := 10) hx hb dX6_sea_36 (by decide) ?_
      refine lv_iload_n hx hb dX6_sea_38 rfl (lv_at hl 2 rfl) ?_
      refine lv_imul hx hb dX6_sea_39 ?_
      refine lv_iadd hx hb dX6_sea_40 ?_
      have hPc := hP.sub (ws' := (W_X3_readSea cyI cyJ cyO 200 h_tape a_tape_bytes a_tape_newFar a_tape_newTones a_tape_newCurrents a_told_currents tape_length tape_place tape_bytes tape_newCurrents told_currents)) [5, 6, 7, 2] rfl
      have hDc := hD.sub (ws' := (W_X3_readSea cyI cyJ cyO 200 h_tape a_tape_bytes a_tape_newFar a_tape_newTones a_tape_newCurrents a_told_currents tape_length tape_place tape_bytes tape_newCurrents told_currents)) [5, 6, 7, 2] (by decide +kernel) rfl
      have hFc := va_free (wc := (W_X3_readSea cyI cyJ cyO 200 h_tape a_tape_bytes a_tape_newFar a_tape_newTones a_tape_newCurrents a_told_currents tape_length tape_place tape_bytes tape_newCurrents told_currents)) hD hS hA [5, 6, 7, 2] rfl
      refine kc_i (wr := [(h_o, .inr (6, [.ref h_told, .ref h_kept, .ref h_walk, .ref h_trial, .ref h_seas, .ref h_ends, .ref h_otherEnds, .ref h_tape, .ref a_sheets, .int o_hasImage, .int o_walkIsOld, .int o_endsAreOld])), (h_told, .inr (4, [.ref a_told_settings, .ref a_told_howFar, .ref a_told_tones, .ref a_told_currents, .ref a_told_warmths, .ref a_told_depths, .ref a_told_fars, .ref a_told_pieceCells, .ref a_told_pieceMonths, .ref a_told_pieceHighs, .ref a_told_pieceAges, .ref a_told_pieceNeeds, .ref a_told_dragCells, .ref a_told_dragEighths, .int told_pieceCount, .int told_dragCount])), (h_seas, .inr (1, [.ref h_told, .ref a_seas_known])), (a_seas_known, .inl (cyI, 400, .inl seas_known))]) (va_runV (As := [.ref a_told_currents, .int ((100 * x1) + (10 * x2))]) (rest := []) ⟨hx, hb, hml, hown, hts⟩ (c_X3_readSea l dC dI cyI cyJ cyO H.size 200 h_tape a_tape_bytes a_tape_newFar a_tape_newTones a_tape_newCurrents a_told_currents tape_length tape_place tape_bytes tape_newCurrents told_currents ((100 * x1) + (10 * x2)) _ (okb4 hw)) (cwV 2 hts (gdV (fun w h => List.mem_cons_of_mem _ h) q_471 q_472 q_473 q_6 q_474) rfl rfl rfl (by decide +kernel) ⟨Nat.le_of_ble_eq_true rfl, Nat.le_of_ble_eq_true rfl⟩) ⟨(kpre zN_ok hK hPc hDc trivial hS hFc).1, va_recv hK hP (ci := 3) (q0 := 5) rfl rfl, (kpre zN_ok hK hPc hDc trivial hS hFc).2⟩ rfl rfl hl.1 rfl (lv_room (Nat.le_of_ble_eq_true rfl)) dX6_sea_41 ⟨Nat.le_of_ble_eq_true rfl, Nat.le_of_ble_eq_true rfl⟩) hP hD hS hFc [5, 6, 7, 2] [0, 1, 3, 4] rfl rfl (by decide +kernel) (by decide +kernel) (fun r_5 u H locs hw hP hD hS => ?_)
      obtain ⟨w_6, w_7, w_8⟩ := u
      try dsimp only at hw
      have hP : va_P (dC, dI) vwCl (W_X6_sea cyI cyJ cyO h_o h_told h_seas h_tape h_kept h_walk h_trial h_ends h_otherEnds a_sheets a_told_settings a_told_howFar a_told_tones a_told_currents a_told_warmths a_told_depths a_told_fars a_told_pieceCells a_told_pieceMonths a_told_pieceHighs a_told_pieceAges a_told_pieceNeeds a_told_dragCells a_told_dragEighths a_seas_known a_tape_bytes a_tape_newFar a_tape_newTones a_tape_newCurrents o_hasImage o_walkIsOld o_endsAreOld told_pieceCount told_dragCount w_8 seas_known tape_length w_6 tape_bytes w_7) H := hP.sub [0, 1, 7, 2, 3, 4, 5, 6] rfl
      have hD : va_D A (W_X6_sea cyI cyJ cyO h_o h_told h_seas h_tape h_kept h_walk h_trial h_ends h_otherEnds a_sheets a_told_settings a_told_howFar a_told_tones a_told_currents a_told_warmths a_told_depths a_told_fars a_told_pieceCells a_told_pieceMonths a_told_pieceHighs a_told_pieceAges a_told_pieceNeeds a_told_dragCells a_told_dragEighths a_seas_known a_tape_bytes a_tape_newFar a_tape_newTones a_tape_newCurrents o_hasImage o_walkIsOld o_endsAreOld told_pieceCount told_dragCount w_8 seas_known tape_length w_6 tape_bytes w_7) := hD.sub [0, 1, 7, 2, 3, 4, 5, 6] (by decide +kernel) rfl
      clear hPc hDc hFc
      refine lv_istore_n (lv' := [(3, .int r_5), (0, .ref h_o), (1, .int x1), (2, .int x2)]) hx hb dX6_sea_44 rfl hl (by decide) rfl (fun ls hl => ?_)
      refine lv_aload_n hx hb dX6_sea_45 rfl (lv_at hl 1 rfl) ?_
      refine va_get (D := (dC, dI)) (ci := 6) (v := .ref h_tape) (C := RX6) (T := TX6) (N := 12) hx hb hts hi6 hown hK hP 0 rfl rfl 7 (by decide) hq0 (fun _ h9 => h9) rfl dX6_sea_46 ?_
      have hPc := hP.sub (ws' := (W_X3_empty cyI cyJ cyO h_tape a_tape_bytes a_tape_newFar a_tape_newTones a_tape_newCurrents tape_length w_6)) [5] rfl
      have hDc := hD.sub (ws' := (W_X3_empty cyI cyJ cyO h_tape a_tape_bytes a_tape_newFar a_tape_newTones a_tape_newCurrents tape_length w_6)) [5] (by decide +kernel) rfl
      have hFc := va_free (wc := (W_X3_empty cyI cyJ cyO h_tape a_tape_bytes a_tape_newFar a_tape_newTones a_tape_newCurrents tape_length w_6)) hD hS hA [5] rfl
      refine kc_v (wr := [(h_o, .inr (6, [.ref h_told, .ref h_kept, .ref h_walk, .ref h_trial, .ref h_seas, .ref h_ends, .ref h_otherEnds, .ref h_tape, .ref a_sheets, .int o_hasImage, .int o_walkIsOld, .int o_endsAreOld])), (h_told, .inr (4, [.ref a_told_settings, .ref a_told_howFar, .ref a_told_tones, .ref a_told_currents, .ref a_told_warmths, .ref a_told_depths, .ref a_told_fars, .ref a_told_pieceCells, .ref a_told_pieceMonths, .ref a_told_pieceHighs, .ref a_told_pieceAges, .ref a_told_pieceNeeds, .ref a_told_dragCells, .ref a_told_dragEighths, .int told_pieceCount, .int told_dragCount])), (a_told_currents, .inl (cyI, 200, .inl w_8)), (h_seas, .inr (1, [.ref h_told, .ref a_seas_known])), (a_seas_known, .inl (cyI, 400, .inl seas_known)), (a_tape_bytes, .inl (cyI, 60, .inl tape_bytes)), (a_tape_newCurrents, .inl (cyI, 10, .inl w_7))]) (va_runV (As := []) (rest := []) ⟨hx, hb, hml, hown, hts⟩ (c_X3_empty l dC dI cyI cyJ cyO H.size h_tape a_tape_bytes a_tape_newFar a_tape_newTones a_tape_newCurrents tape_length w_6 _ (okb1 hw)) (cwV 0 hts (gdV (fun w h => List.mem_cons_of_mem _ h) q_389 q_390 q_391 q_6 q_392) rfl rfl rfl (by decide +kernel) ⟨Nat.le_of_ble_eq_true rfl, Nat.le_of_ble_eq_true rfl⟩) ⟨(kpre zN_ok hK hPc hDc trivial hS hFc).1, va_recv hK hP (ci := 3) (q0 := 5) rfl rfl, (kpre zN_ok hK hPc hDc trivial hS hFc).2⟩ rfl rfl hl.1 rfl (lv_room (Nat.le_of_ble_eq_true rfl)) dX6_sea_49 ⟨Nat.le_of_ble_eq_true rfl, Nat.le_of_ble_eq_true rfl⟩) hP hD hS hFc [5] [0, 1, 2, 3, 4, 6, 7] rfl rfl (by decide +kernel) (by decide +kernel) (fun w_9 H locs hw hP hD hS => ?_)
      try dsimp only at hw
      have hP : va_P (dC, dI) vwCl (W_X6_sea cyI cyJ cyO h_o h_told h_seas h_tape h_kept h_walk h_trial h_ends h_otherEnds a_sheets a_told_settings a_told_howFar a_told_tones a_told_currents a_told_warmths a_told_depths a_told_fars a_told_pieceCells a_told_pieceMonths a_told_pieceHighs a_told_pieceAges a_told_pieceNeeds a_told_dragCells a_told_dragEighths a_seas_known a_tape_bytes a_tape_newFar a_tape_newTones a_tape_newCurrents o_hasImage o_walkIsOld o_endsAreOld told_pieceCount told_dragCount w_8 seas_known w_9 w_6 tape_bytes w_7) H := hP.sub [0, 1, 2, 3, 4, 7, 5, 6] rfl
      have hD : va_D A (W_X6_sea cyI cyJ cyO h_o h_told h_seas h_tape h_kept h_walk h_trial h_ends h_otherEnds a_sheets a_told_settings a_told_howFar a_told_tones a_told_currents a_told_warmths a_told_depths a_told_fars a_told_pieceCells a_told_pieceMonths a_told_pieceHighs a_told_pieceAges a_told_pieceNeeds a_told_dragCells a_told_dragEighths a_seas_known a_tape_bytes a_tape_newFar a_tape_newTones a_tape_newCurrents o_hasImage o_walkIsOld o_endsAreOld told_pieceCount told_dragCount w_8 seas_known w_9 w_6 tape_bytes w_7) := hD.sub [0, 1, 2, 3, 4, 7, 5, 6] (by decide +kernel) rfl
      clear hPc hDc hFc
      refine lv_aload_n hx hb dX6_sea_52 rfl (lv_at hl 1 rfl) ?_
      have hPc := hP.sub (ws' := (W_X6_seaChanged cyI cyJ cyO h_o h_seas h_told h_kept h_walk h_trial h_ends h_otherEnds h_tape a_sheets a_seas_known o_hasImage o_walkIsOld o_endsAreOld seas_known)) [0, 3, 4] rfl
      have hDc := hD.sub (ws' := (W_X6_seaChanged cyI cyJ cyO h_o h_seas h_told h_kept h_walk h_trial h_ends h_otherEnds h_tape a_sheets a_seas_known o_hasImage o_walkIsOld o_endsAreOld seas_known)) [0, 3, 4] (by decide +kernel) rfl
      have hFc := va_free (wc := (W_X6_seaChanged cyI cyJ cyO h_o h_seas h_told h_kept h_walk h_trial h_ends h_otherEnds h_tape a_sheets a_seas_known o_hasImage o_walkIsOld o_endsAreOld seas_known)) hD hS hA [0, 3, 4] rfl
      refine kc_v (wr := [(h_told, .inr (4, [.ref a_told_settings, .ref a_told_howFar, .ref a_told_tones, .ref a_told_currents, .ref a_told_warmths, .ref a_told_depths, .ref a_told_fars, .ref a_told_pieceCells, .ref a_told_pieceMonths, .ref a_told_pieceHighs, .ref a_told_pieceAges, .ref a_told_pieceNeeds, .ref a_told_dragCells, .ref a_told_dragEighths, .int told_pieceCount, .int told_dragCount])), (a_told_currents, .inl (cyI, 200, .inl w_8)), (h_tape, .inr (3, [.ref a_tape_bytes, .int w_9, .int w_6, .ref a_tape_newFar, .ref a_tape_newTones, .ref a_tape_newCurrents])), (a_tape_bytes, .inl (cyI, 60, .inl tape_bytes)), (a_tape_newCurrents, .inl (cyI, 10, .inl w_7))]) (va_runV (As := []) (rest := []) ⟨hx, hb, hml, hown, hts⟩ (c_X6_seaChanged l dC dI cyI cyJ cyO H.size h_o h_seas h_told h_kept h_walk h_trial h_ends h_otherEnds h_tape a_sheets a_seas_known o_hasImage o_walkIsOld o_endsAreOld seas_known _ (okb2 hw)) (cwV 0 hts (gdV (fun w h => List.mem_cons_of_mem _ h) q_319 q_321 qs_0 q_1 q_322) rfl rfl rfl (by decide +kernel) ⟨Nat.le_of_ble_eq_true rfl, Nat.le_of_ble_eq_true rfl⟩) ⟨(kpre zN_ok hK hPc hDc trivial hS hFc).1, va_recv hK hP (ci := 6) (q0 := 0) rfl rfl, (kpre zN_ok hK hPc hDc trivial hS hFc).2⟩ rfl rfl hl.1 rfl (lv_room (Nat.le_of_ble_eq_true rfl)) dX6_sea_53 ⟨Nat.le_of_ble_eq_true rfl, Nat.le_of_ble_eq_true rfl⟩) hP hD hS hFc [0, 3, 4] [1, 2, 5, 6, 7] rfl rfl (by decide +kernel) (by decide +kernel) (fun u H locs hw hP hD hS => ?_)
      obtain ⟨w_10, w_11⟩ := u
      try dsimp only at hw
      have hP : va_P (dC, dI) vwCl (W_X6_sea cyI cyJ cyO h_o h_told h_seas h_tape h_kept h_walk h_trial h_ends h_otherEnds a_sheets a_told_settings a_told_howFar a_told_tones a_told_currents a_told_warmths a_told_depths a_told_fars a_told_pieceCells a_told_pieceMonths a_told_pieceHighs a_told_pieceAges a_told_pieceNeeds a_told_dragCells a_told_dragEighths a_seas_known a_tape_bytes a_tape_newFar a_tape_newTones a_tape_newCurrents o_hasImage o_walkIsOld w_10 told_pieceCount told_dragCount w_8 w_11 w_9 w_6 tape_bytes w_7) H := hP.sub [5, 0, 1, 6, 7, 2, 3, 4] rfl
      have hD : va_D A (W_X6_sea cyI cyJ cyO h_o h_told h_seas h_tape h_kept h_walk h_trial h_ends h_otherEnds a_sheets a_told_settings a_told_howFar a_told_tones a_told_currents a_told_warmths a_told_depths a_told_fars a_told_pieceCells a_told_pieceMonths a_told_pieceHighs a_told_pieceAges a_told_pieceNeeds a_told_dragCells a_told_dragEighths a_seas_known a_tape_bytes a_tape_newFar a_tape_newTones a_tape_newCurrents o_hasImage o_walkIsOld w_10 told_pieceCount told_dragCount w_8 w_11 w_9 w_6 tape_bytes w_7) := hD.sub [5, 0, 1, 6, 7, 2, 3, 4] (by decide +kernel) rfl
      clear hPc hDc hFc
      refine lv_iload_n hx hb dX6_sea_56 rfl (lv_at hl 0 rfl) ?_
      rw [hQ]
      exact W.iret (v := r_5) hx hb hr (fun t ht hW => ⟨⟨r_5, (w_10, w_8, w_11, w_9, w_6, w_7), rfl, okS hw, by rw [ht]; exact hP, va_K.moved hW.alike hK, hD⟩, hS.F ht⟩) hS.2.2 dX6_sea_57
    · replace hw := okT hw c_4
      clear c_4
      refine lv_iconst (v := (-1)) hx hb dX6_sea_19 (by decide) ?_
      rw [hQ]
      exact W.iret (v := (-1)) hx hb hr (fun t ht hW => ⟨⟨(-1), (o_endsAreOld, told_currents, seas_known, tape_length, tape_place, tape_newCurrents), rfl, okS hw, by rw [ht]; exact hP, va_K.moved hW.alike hK, hD⟩, hS.F ht⟩) hS.2.2 dX6_sea_20
/-! ===== X6_cell ===== -/
theorem dX6_cell_0 : decode cX6_cell 0 = .ok (.iload_n 1, 1) := by decide +kernel
theorem dX6_cell_1 : decode cX6_cell 1 = .ok (.iconst 0, 1) := by decide +kernel
theorem dX6_cell_2 : decode cX6_cell 2 = .ok (.iconst 1, 1) := by decide +kernel
theorem dX6_cell_3 : decode cX6_cell 3 = .ok (.invokestatic 74, 3) := by decide +kernel
theorem dX6_cell_6 : decode cX6_cell 6 = .ok (.ifCond .eq 19, 3) := by decide +kernel
theorem dX6_cell_9 : decode cX6_cell 9 = .ok (.iload_n 2, 1) := by decide +kernel
theorem dX6_cell_10 : decode cX6_cell 10 = .ok (.invokestatic 97, 3) := by decide +kernel
theorem dX6_cell_13 : decode cX6_cell 13 = .ok (.ifCond .eq 12, 3) := by decide +kernel
theorem dX6_cell_16 : decode cX6_cell 16 = .ok (.iload_n 3, 1) := by decide +kernel
theorem dX6_cell_17 : decode cX6_cell 17 = .ok (.iconst 0, 1) := by decide +kernel
theorem dX6_cell_18 : decode cX6_cell 18 = .ok (.iconst 1, 1) := by decide +kernel
theorem dX6_cell_19 : decode cX6_cell 19 = .ok (.invokestatic 74, 3) := by decide +kernel
theorem dX6_cell_22 : decode cX6_cell 22 = .ok (.ifCond .ne 5, 3) := by decide +kernel
theorem dX6_cell_25 : decode cX6_cell 25 = .ok (.iconst (-1), 1) := by decide +kernel
theorem dX6_cell_26 : decode cX6_cell 26 = .ok (.ireturn, 1) := by decide +kernel
theorem dX6_cell_27 : decode cX6_cell 27 = .ok (.iload 4, 2) := by decide +kernel
theorem dX6_cell_29 : decode cX6_cell 29 = .ok (.iconst 0, 1) := by decide +kernel
theorem dX6_cell_30 : decode cX6_cell 30 = .ok (.iload_n 3, 1) := by decide +kernel
theorem dX6_cell_31 : decode cX6_cell 31 = .ok (.ifCond .ne 8, 3) := by decide +kernel
theorem dX6_cell_34 : decode cX6_cell 34 = .ok (.bipush 8, 2) := by decide +kernel
theorem dX6_cell_36 : decode cX6_cell 36 = .ok (.goto 5, 3) := by decide +kernel
theorem dX6_cell_39 : decode cX6_cell 39 = .ok (.bipush 9, 2) := by decide +kernel
theorem dX6_cell_41 : decode cX6_cell 41 = .ok (.invokestatic 74, 3) := by decide +kernel
theorem dX6_cell_44 : decode cX6_cell 44 = .ok (.ifCond .ne 5, 3) := by decide +kernel
theorem dX6_cell_47 : decode cX6_cell 47 = .ok (.iconst (-1), 1) := by decide +kernel
theorem dX6_cell_48 : decode cX6_cell 48 = .ok (.ireturn, 1) := by decide +kernel
theorem dX6_cell_49 : decode cX6_cell 49 = .ok (.iload_n 3, 1) := by decide +kernel
theorem dX6_cell_50 : decode cX6_cell 50 = .ok (.ifCond .ne 13, 3) := by decide +kernel
theorem dX6_cell_53 : decode cX6_cell 53 = .ok (.aload_n 0, 1) := by decide +kernel
theorem dX6_cell_54 : decode cX6_cell 54 = .ok (.getfield 10, 3) := by decide +kernel
theorem dX6_cell_57 : decode cX6_cell 57 = .ok (.getfield 151, 3) := by decide +kernel
theorem dX6_cell_60 : decode cX6_cell 60 = .ok (.goto 10, 3) := by decide +kernel
theorem dX6_cell_63 : decode cX6_cell 63 = .ok (.aload_n 0, 1) := by decide +kernel
theorem dX6_cell_64 : decode cX6_cell 64 = .ok (.getfield 10, 3) := by decide +kernel
theorem dX6_cell_67 : decode cX6_cell 67 = .ok (.getfield 158, 3) := by decide +kernel
theorem dX6_cell_70 : decode cX6_cell 70 = .ok (.astore 5, 2) := by decide +kernel
theorem dX6_cell_72 : decode cX6_cell 72 = .ok (.aload 5, 2) := by decide +kernel
theorem dX6_cell_74 : decode cX6_cell 74 = .ok (.bipush 100, 2) := by decide +kernel
theorem dX6_cell_76 : decode cX6_cell 76 = .ok (.iload_n 1, 1) := by decide +kernel
theorem dX6_cell_77 : decode cX6_cell 77 = .ok (.imul, 1) := by decide +kernel
theorem dX6_cell_78 : decode cX6_cell 78 = .ok (.iload_n 2, 1) := by decide +kernel
theorem dX6_cell_79 : decode cX6_cell 79 = .ok (.iadd, 1) := by decide +kernel
theorem dX6_cell_80 : decode cX6_cell 80 = .ok (.iaload, 1) := by decide +kernel
theorem dX6_cell_81 : decode cX6_cell 81 = .ok (.istore 6, 2) := by decide +kernel
theorem dX6_cell_83 : decode cX6_cell 83 = .ok (.aload 5, 2) := by decide +kernel
theorem dX6_cell_85 : decode cX6_cell 85 = .ok (.bipush 100, 2) := by decide +kernel
theorem dX6_cell_87 : decode cX6_cell 87 = .ok (.iload_n 1, 1) := by decide +kernel
theorem dX6_cell_88 : decode cX6_cell 88 = .ok (.imul, 1) := by decide +kernel
theorem dX6_cell_89 : decode cX6_cell 89 = .ok (.iload_n 2, 1) := by decide +kernel
theorem dX6_cell_90 : decode cX6_cell 90 = .ok (.iadd, 1) := by decide +kernel
theorem dX6_cell_91 : decode cX6_cell 91 = .ok (.iload 4, 2) := by decide +kernel
theorem dX6_cell_93 : decode cX6_cell 93 = .ok (.iastore, 1) := by decide +kernel
theorem dX6_cell_94 : decode cX6_cell 94 = .ok (.aload_n 0, 1) := by decide +kernel
theorem dX6_cell_95 : decode cX6_cell 95 = .ok (.invokevirtual 91, 3) := by decide +kernel
theorem dX6_cell_98 : decode cX6_cell 98 = .ok (.iload 6, 2) := by decide +kernel
theorem dX6_cell_100 : decode cX6_cell 100 = .ok (.ireturn, 1) := by decide +kernel
abbrev W_X6_cell (cyI cyJ cyO : ClassId) (h_o h_told h_seas h_kept h_walk h_trial h_ends h_otherEnds h_tape a_sheets a_told_settings a_told_howFar a_told_tones a_told_currents a_told_warmths a_told_depths a_told_fars a_told_pieceCells a_told_pieceMonths a_told_pieceHighs a_told_pieceAges a_told_pieceNeeds a_told_dragCells a_told_dragEighths a_seas_known : Nat) (o_hasImage : Int32) (o_walkIsOld : Int32) (o_endsAreOld : Int32) (told_pieceCount : Int32) (told_dragCount : Int32) (told_currents : Nat → Int32) (told_warmths : Nat → Int32) (seas_known : Nat → Int32) : va_W := [(h_o, .inr (6, [.ref h_told, .ref h_kept, .ref h_walk, .ref h_trial, .ref h_seas, .ref h_ends, .ref h_otherEnds, .ref h_tape, .ref a_sheets, .int o_hasImage, .int o_walkIsOld, .int o_endsAreOld])), (h_told, .inr (4, [.ref a_told_settings, .ref a_told_howFar, .ref a_told_tones, .ref a_told_currents, .ref a_told_warmths, .ref a_told_depths, .ref a_told_fars, .ref a_told_pieceCells, .ref a_told_pieceMonths, .ref a_told_pieceHighs, .ref a_told_pieceAges, .ref a_told_pieceNeeds, .ref a_told_dragCells, .ref a_told_dragEighths, .int told_pieceCount, .int told_dragCount])), (a_told_currents, .inl (cyI, 200, .inl told_currents)), (a_told_warmths, .inl (cyI, 200, .inl told_warmths)), (h_seas, .inr (1, [.ref h_told, .ref a_seas_known])), (a_seas_known, .inl (cyI, 400, .inl seas_known))]
def f_X6_cell_B41 (v1 : Int32) (v2 : Int32) (v3 : Int32) (v4 : Int32) (y0 : Int32) (y1 : Int32) (y2 : Int32) (o_endsAreOld : Int32) (told_currents : Nat → Int32) (told_warmths : Nat → Int32) (seas_known : Nat → Int32) : Option (Int32 × Int32 × (Nat → Int32) × (Nat → Int32) × (Nat → Int32)) :=
  bd1 (f_X6_within y2 y1 y0) fun r_1 =>
  if r_1 = 0 then
    some ((-1), o_endsAreOld, told_currents, told_warmths, seas_known)
  else
    if v3 = 0 then
      chk (¬ ((100 * v1) + v2 < 0 ∨ 200 ≤ ((100 * v1) + v2).toNatClampNeg)) <|
      nm (told_currents ((100 * v1) + v2).toNatClampNeg) fun x_5 =>
      chk (¬ ((100 * v1) + v2 < 0 ∨ 200 ≤ ((100 * v1) + v2).toNatClampNeg)) <|
      bd2 (f_X6_seaChanged o_endsAreOld seas_known) fun w_6 w_7 =>
      some (x_5, w_6, upd told_currents ((100 * v1) + v2).toNatClampNeg v4, told_warmths, w_7)
    else
      chk (¬ ((100 * v1) + v2 < 0 ∨ 200 ≤ ((100 * v1) + v2).toNatClampNeg)) <|
      nm (told_warmths ((100 * v1) + v2).toNatClampNeg) fun x_2 =>
      chk (¬ ((100 * v1) + v2 < 0 ∨ 200 ≤ ((100 * v1) + v2).toNatClampNeg)) <|
      bd2 (f_X6_seaChanged o_endsAreOld seas_known) fun w_3 w_4 =>
      some (x_2, w_3, told_currents, upd told_warmths ((100 * v1) + v2).toNatClampNeg v4, w_4)
def f_X6_cell (x1 : Int32) (x2 : Int32) (x3 : Int32) (x4 : Int32) (o_endsAreOld : Int32) (told_currents : Nat → Int32) (told_warmths : Nat → Int32) (seas_known : Nat → Int32) : Option (Int32 × Int32 × (Nat → Int32) × (Nat → Int32) × (Nat → Int32)) :=
  bd1 (f_X6_within x1 0 1) fun r_8 =>
  if r_8 = 0 then
    some ((-1), o_endsAreOld, told_currents, told_warmths, seas_known)
  else
    bd1 (f_X6_isCell x2) fun r_9 =>
    if r_9 = 0 then
      some ((-1), o_endsAreOld, told_currents, told_warmths, seas_known)
    else
      bd1 (f_X6_within x3 0 1) fun r_10 =>
      if r_10 = 0 then
        some ((-1), o_endsAreOld, told_currents, told_warmths, seas_known)
      else
        if x3 = 0 then
          f_X6_cell_B41 x1 x2 x3 x4 8 0 x4 o_endsAreOld told_currents told_warmths seas_known
        else
          f_X6_cell_B41 x1 x2 x3 x4 9 0 x4 o_endsAreOld told_currents told_warmths seas_known
abbrev rm_X6_cell : Room := { frames := 2, cells := 0, slots := 0, locals := 41 }
set_option maxRecDepth 100000 in
set_option maxHeartbeats 4000000 in
theorem c_X6_cell (l : Launch) (dC : Nat → ClassId) (dI : Nat → Nat → Nat) (cyI cyJ cyO : ClassId) (sz : Nat) (h_o h_told h_seas h_kept h_walk h_trial h_ends h_otherEnds h_tape a_sheets a_told_settings a_told_howFar a_told_tones a_told_currents a_told_warmths a_told_depths a_told_fars a_told_pieceCells a_told_pieceMonths a_told_pieceHighs a_told_pieceAges a_told_pieceNeeds a_told_dragCells a_told_dragEighths a_seas_known : Nat) (o_hasImage : Int32) (o_walkIsOld : Int32) (o_endsAreOld : Int32) (told_pieceCount : Int32) (told_dragCount : Int32) (told_currents : Nat → Int32) (told_warmths : Nat → Int32) (seas_known : Nat → Int32) (x1 : Int32) (x2 : Int32) (x3 : Int32) (x4 : Int32) (post : (Int32 × Int32 × (Nat → Int32) × (Nat → Int32) × (Nat → Int32)) → Prop) (hf : okP (f_X6_cell x1 x2 x3 x4 o_endsAreOld told_currents told_warmths seas_known) post) : Ci l (dC, dI) (tyL cyI cyJ cyO) yX6_cell wsX6_cell rm_X6_cell [.ref h_o, .int x1, .int x2, .int x3, .int x4] sz (W_X6_cell cyI cyJ cyO h_o h_told h_seas h_kept h_walk h_trial h_ends h_otherEnds h_tape a_sheets a_told_settings a_told_howFar a_told_tones a_told_currents a_told_warmths a_told_depths a_told_fars a_told_pieceCells a_told_pieceMonths a_told_pieceHighs a_told_pieceAges a_told_pieceNeeds a_told_dragCells a_told_dragEighths a_seas_known o_hasImage o_walkIsOld o_endsAreOld told_pieceCount told_dragCount told_currents told_warmths seas_known) zN (fun r u => post (r, u)) (fun u => (W_X6_cell cyI cyJ cyO h_o h_told h_seas h_kept h_walk h_trial h_ends h_otherEnds h_tape a_sheets a_told_settings a_told_howFar a_told_tones a_told_currents a_told_warmths a_told_depths a_told_fars a_told_pieceCells a_told_pieceMonths a_told_pieceHighs a_told_pieceAges a_told_pieceNeeds a_told_dragCells a_told_dragEighths a_seas_known o_hasImage o_walkIsOld u.1 told_pieceCount told_dragCount u.2.1 u.2.2.1 u.2.2.2)) := by
  refine Met.ofW (cc := cX6_cell) (maxL := 7) (ret := (some .int)) (by decide) rfl ?_
  intro p e s m args below meth c s₁ B hml hv
  obtain ⟨rfl, hsz, hP, hK, hD0, hZ⟩ := hv
  have hx := B.exec
  have hb := B.bytes
  have hr := B.returns
  have hts := atoms_spec (ws := wsX6_cell) B.pre
  have hown : s.vm.findClass RX6 = some m.cls := findClass_of_methodNamed B.named
  have hlocks := B.notSynchronized
  subst hsz
  have hD := hD0.self (sz := s.heap.size)
  generalize hAe : va_A (W_X6_cell cyI cyJ cyO h_o h_told h_seas h_kept h_walk h_trial h_ends h_otherEnds h_tape a_sheets a_told_settings a_told_howFar a_told_tones a_told_currents a_told_warmths a_told_depths a_told_fars a_told_pieceCells a_told_pieceMonths a_told_pieceHighs a_told_pieceAges a_told_pieceNeeds a_told_dragCells a_told_dragEighths a_seas_known o_hasImage o_walkIsOld o_endsAreOld told_pieceCount told_dragCount told_currents told_warmths seas_known) s.heap.size = A at hD hZ ⊢
  have hA : ∀ q : Nat, s.heap.size ≤ q → A q := fun q h => by rw [← hAe]; exact Or.inr h
  clear hAe hD0
  have hS : va_S A s.heap s.heap [] := va_S.rf
  have hl := lv_entry ([.ref h_o, .int x1, .int x2, .int x3, .int x4]) (n := 7) (Nat.le_of_ble_eq_true rfl)
  rw [lg_entry_eq]
  generalize (lg_sl ([.ref h_o, .int x1, .int x2, .int x3, .int x4]) ++ List.replicate (7 - (lg_sl ([.ref h_o, .int x1, .int x2, .int x3, .int x4])).length) Slot.unset).toArray = ls at hl ⊢
  have hl : lv_has ls 7 [(0, .ref h_o), (1, .int x1), (2, .int x2), (3, .int x3), (4, .int x4)] := hl
  refine kW (fun Q hQ => ?_)
  have hq0 := hts _ (List.mem_cons_of_mem _ q_270)
  have hi6 : ∀ w ∈ u_ws RX6 TX6 12, w ∈ wsX6_cell := fun w h => List.mem_cons_of_mem _ (inX6 w h)
  have hq2 := hts _ (List.mem_cons_of_mem _ q_47)
  have hi4 : ∀ w ∈ u_ws RX4 TX4 16, w ∈ wsX6_cell := fun w h => List.mem_cons_of_mem _ (inX4 w h)
  have hq4 := hts _ (List.mem_cons_of_mem _ q_44)
  have hw := hf
  have w41 : ∀ (v1 : Int32) (v2 : Int32) (v3 : Int32) (v4 : Int32) (y0 : Int32) (y1 : Int32) (y2 : Int32) (o_endsAreOld : Int32) (told_currents : Nat → Int32) (told_warmths : Nat → Int32) (seas_known : Nat → Int32) (H : Heap) (locs : List Loc), va_P (dC, dI) vwCl (W_X6_cell cyI cyJ cyO h_o h_told h_seas h_kept h_walk h_trial h_ends h_otherEnds h_tape a_sheets a_told_settings a_told_howFar a_told_tones a_told_currents a_told_warmths a_told_depths a_told_fars a_told_pieceCells a_told_pieceMonths a_told_pieceHighs a_told_pieceAges a_told_pieceNeeds a_told_dragCells a_told_dragEighths a_seas_known o_hasImage o_walkIsOld o_endsAreOld told_pieceCount told_dragCount told_currents told_warmths seas_known) H → va_D A (W_X6_cell cyI cyJ cyO h_o h_told h_seas h_kept h_walk h_trial h_ends h_otherEnds h_tape a_sheets a_told_settings a_told_howFar a_told_tones a_told_currents a_told_warmths a_told_depths a_told_fars a_told_pieceCells a_told_pieceMonths a_told_pieceHighs a_told_pieceAges a_told_pieceNeeds a_told_dragCells a_told_dragEighths a_seas_known o_hasImage o_walkIsOld o_endsAreOld told_pieceCount told_dragCount told_currents told_warmths seas_known) → va_S A s.heap H locs → ∀ (ls : Array Slot), lv_has ls 7 [(0, .ref h_o), (1, .int v1), (2, .int v2), (3, .int v3), (4, .int v4)] → okP (f_X6_cell_B41 v1 v2 v3 v4 y0 y1 y2 o_endsAreOld told_currents told_warmths seas_known) post → W p l e (headSpec wsX6_cell rm_X6_cell).room s m ([.ref h_o, .int x1, .int x2, .int x3, .int x4] : List Value).toArray below meth c H locs 0 0 Q (F0 m 41 ls [.int y0, .int y1, .int y2]) := by
    intro v1 v2 v3 v4 y0 y1 y2 o_endsAreOld told_currents told_warmths seas_known H locs hP hD hS ls hl hw
    unfold f_X6_cell_B41 at hw
    have hFc := va_free (wc := []) hD hS hA [] rfl
    refine kp_i (va_runS (As := [.int y2, .int y1, .int y0]) (rest := []) ⟨hx, hb, hml, hown, hts⟩ (c_X6_within l dC dI cyI cyJ cyO H.size y2 y1 y0 _ (okb1 hw)) (va_cwS 3 hts (gdS (fun w h => List.mem_cons_of_mem _ h) q_311 q_312 q_1 q_313) rfl rfl rfl (by decide +kernel) ⟨Nat.le_of_ble_eq_true rfl, Nat.le_of_ble_eq_true rfl⟩) (kpre zN_ok hK va_P0 va_D0 trivial hS hFc) rfl rfl hl.1 rfl (lv_room (Nat.le_of_ble_eq_true rfl)) dX6_cell_41 ⟨Nat.le_of_ble_eq_true rfl, Nat.le_of_ble_eq_true rfl⟩) hP hD hS hFc (fun r_1 H locs hw hP hS => ?_)
    try dsimp only at hw
    clear hFc
    refine lv_if_ne (tgt := 49) hx hb dX6_cell_44 (by decide) (fun c_2 => ?_) (fun c_2 => ?_)
    · replace hw := okF hw c_2
      clear c_2
      refine lv_iload_n hx hb dX6_cell_49 rfl (lv_at hl 3 rfl) ?_
      refine lv_if_ne (tgt := 63) hx hb dX6_cell_50 (by decide) (fun c_3 => ?_) (fun c_3 => ?_)
      · replace hw := okF hw c_3
        clear c_3
        refine lv_aload_n hx hb dX6_cell_63 rfl (lv_at hl 0 rfl) ?_
        refine va_get (D := (dC, dI)) (ci := 6) (v := .ref h_told) (C := RX6) (T := TX6) (N := 12) hx hb hts hi6 hown hK hP 0 rfl rfl 0 (by decide) hq0 (fun _ h9 => h9) rfl dX6_cell_64 ?_
        refine va_get (D := (dC, dI)) (ci := 4) (v := .ref a_told_warmths) (C := RX4) (T := TX4) (N := 16) hx hb hts hi4 hown hK hP 1 rfl rfl 4 (by decide) hq2 (fun _ h9 => h9) rfl dX6_cell_67 ?_
        refine lv_astore (lv' := [(5, .ref a_told_warmths), (0, .ref h_o), (1, .int v1), (2, .int v2), (3, .int v3), (4, .int v4)]) hx hb dX6_cell_70 hl (by decide) rfl (fun ls hl => ?_)
        refine lv_aload hx hb dX6_cell_72 (lv_at hl 0 rfl) ?_
        refine lv_bipush (v := 100) hx hb dX6_cell_74 (by decide) ?_
        refine lv_iload_n hx hb dX6_cell_76 rfl (lv_at hl 2 rfl) ?_
        refine lv_imul hx hb dX6_cell_77 ?_
        refine lv_iload_n hx hb dX6_cell_78 rfl (lv_at hl 3 rfl) ?_
        refine lv_iadd hx hb dX6_cell_79 ?_
        obtain ⟨h_4, hw⟩ := okC hw
        refine va_iald (i := (100 * v1) + v2) hx hb hK hP 3 0 rfl rfl h_4 dX6_cell_80 ?_
        refine lv_topi (fun x_5 ex_5 => ?_)
        replace hw := okN ex_5 hw
        clear ex_5
        refine lv_istore (lv' := [(6, .int x_5), (5, .ref a_told_warmths), (0, .ref h_o), (1, .int v1), (2, .int v2), (3, .int v3), (4, .int v4)]) hx hb dX6_cell_81 hl (by decide) rfl (fun ls hl => ?_)
        refine lv_aload hx hb dX6_cell_83 (lv_at hl 1 rfl) ?_
        refine lv_bipush (v := 100) hx hb dX6_cell_85 (by decide) ?_
        refine lv_iload_n hx hb dX6_cell_87 rfl (lv_at hl 3 rfl) ?_
        refine lv_imul hx hb dX6_cell_88 ?_
        refine lv_iload_n hx hb dX6_cell_89 rfl (lv_at hl 4 rfl) ?_
        refine lv_iadd hx hb dX6_cell_90 ?_
        refine lv_iload hx hb dX6_cell_91 (lv_at hl 6 rfl) ?_
        obtain ⟨h_6, hw⟩ := okC hw
        refine va_iast (i := (100 * v1) + v2) (x := v4) hx hb hK hP hD hS 3 0 rfl rfl h_6 dX6_cell_93 (fun H locs hP hD hS => ?_)
        have hP : va_P (dC, dI) vwCl (W_X6_cell cyI cyJ cyO h_o h_told h_seas h_kept h_walk h_trial h_ends h_otherEnds h_tape a_sheets a_told_settings a_told_howFar a_told_tones a_told_currents a_told_warmths a_told_depths a_told_fars a_told_pieceCells a_told_pieceMonths a_told_pieceHighs a_told_pieceAges a_told_pieceNeeds a_told_dragCells a_told_dragEighths a_seas_known o_hasImage o_walkIsOld o_endsAreOld told_pieceCount told_dragCount told_currents (upd told_warmths ((100 * v1) + v2).toNatClampNeg v4) seas_known) H := hP
        have hD : va_D A (W_X6_cell cyI cyJ cyO h_o h_told h_seas h_kept h_walk h_trial h_ends h_otherEnds h_tape a_sheets a_told_settings a_told_howFar a_told_tones a_told_currents a_told_warmths a_told_depths a_told_fars a_told_pieceCells a_told_pieceMonths a_told_pieceHighs a_told_pieceAges a_told_pieceNeeds a_told_dragCells a_told_dragEighths a_seas_known o_hasImage o_walkIsOld o_endsAreOld told_pieceCount told_dragCount told_currents (upd told_warmths ((100 * v1) + v2).toNatClampNeg v4) seas_known) := hD
        refine lv_aload_n hx hb dX6_cell_94 rfl (lv_at hl 2 rfl) ?_
        have hPc := hP.sub (ws' := (W_X6_seaChanged cyI cyJ cyO h_o h_seas h_told h_kept h_walk h_trial h_ends h_otherEnds h_tape a_sheets a_seas_known o_hasImage o_walkIsOld o_endsAreOld seas_known)) [0, 4, 5] rfl
        have hDc := hD.sub (ws' := (W_X6_seaChanged cyI cyJ cyO h_o h_seas h_told h_kept h_walk h_trial h_ends h_otherEnds h_tape a_sheets a_seas_known o_hasImage o_walkIsOld o_endsAreOld seas_known)) [0, 4, 5] (by decide +kernel) rfl
        have hFc := va_free (wc := (W_X6_seaChanged cyI cyJ cyO h_o h_seas h_told h_kept h_walk h_trial h_ends h_otherEnds h_tape a_sheets a_seas_known o_hasImage o_walkIsOld o_endsAreOld seas_known)) hD hS hA [0, 4, 5] rfl
        refine kc_v (wr := [(h_told, .inr (4, [.ref a_told_settings, .ref a_told_howFar, .ref a_told_tones, .ref a_told_currents, .ref a_told_warmths, .ref a_told_depths, .ref a_told_fars, .ref a_told_pieceCells, .ref a_told_pieceMonths, .ref a_told_pieceHighs, .ref a_told_pieceAges, .ref a_told_pieceNeeds, .ref a_told_dragCells, .ref a_told_dragEighths, .int told_pieceCount, .int told_dragCount])), (a_told_currents, .inl (cyI, 200, .inl told_currents)), (a_told_warmths, .inl (cyI, 200, .inl (upd told_warmths ((100 * v1) + v2).toNatClampNeg v4)))]) (va_runV (As := []) (rest := []) ⟨hx, hb, hml, hown, hts⟩ (c_X6_seaChanged l dC dI cyI cyJ cyO H.size h_o h_seas h_told h_kept h_walk h_trial h_ends h_otherEnds h_tape a_sheets a_seas_known o_hasImage o_walkIsOld o_endsAreOld seas_known _ (okb2 hw)) (cwV 0 hts (gdV (fun w h => List.mem_cons_of_mem _ h) q_319 q_321 qs_0 q_1 q_322) rfl rfl rfl (by decide +kernel) ⟨Nat.le_of_ble_eq_true rfl, Nat.le_of_ble_eq_true rfl⟩) ⟨(kpre zN_ok hK hPc hDc trivial hS hFc).1, va_recv hK hP (ci := 6) (q0 := 0) rfl rfl, (kpre zN_ok hK hPc hDc trivial hS hFc).2⟩ rfl rfl hl.1 rfl (lv_room (Nat.le_of_ble_eq_true rfl)) dX6_cell_95 ⟨Nat.le_of_ble_eq_true rfl, Nat.le_of_ble_eq_true rfl⟩) hP hD hS hFc [0, 4, 5] [1, 2, 3] rfl rfl (by decide +kernel) (by decide +kernel) (fun u H locs hw hP hD hS => ?_)
        obtain ⟨w_7, w_8⟩ := u
        try dsimp only at hw
        have hP : va_P (dC, dI) vwCl (W_X6_cell cyI cyJ cyO h_o h_told h_seas h_kept h_walk h_trial h_ends h_otherEnds h_tape a_sheets a_told_settings a_told_howFar a_told_tones a_told_currents a_told_warmths a_told_depths a_told_fars a_told_pieceCells a_told_pieceMonths a_told_pieceHighs a_told_pieceAges a_told_pieceNeeds a_told_dragCells a_told_dragEighths a_seas_known o_hasImage o_walkIsOld w_7 told_pieceCount told_dragCount told_currents (upd told_warmths ((100 * v1) + v2).toNatClampNeg v4) w_8) H := hP.sub [3, 0, 1, 2, 4, 5] rfl
        have hD : va_D A (W_X6_cell cyI cyJ cyO h_o h_told h_seas h_kept h_walk h_trial h_ends h_otherEnds h_tape a_sheets a_told_settings a_told_howFar a_told_tones a_told_currents a_told_warmths a_told_depths a_told_fars a_told_pieceCells a_told_pieceMonths a_told_pieceHighs a_told_pieceAges a_told_pieceNeeds a_told_dragCells a_told_dragEighths a_seas_known o_hasImage o_walkIsOld w_7 told_pieceCount told_dragCount told_currents (upd told_warmths ((100 * v1) + v2).toNatClampNeg v4) w_8) := hD.sub [3, 0, 1, 2, 4, 5] (by decide +kernel) rfl
        clear hPc hDc hFc
        refine lv_iload hx hb dX6_cell_98 (lv_at hl 0 rfl) ?_
        rw [hQ]
        exact W.iret (v := x_5) hx hb hr (fun t ht hW => ⟨⟨x_5, (w_7, told_currents, upd told_warmths ((100 * v1) + v2).toNatClampNeg v4, w_8), rfl, okS hw, by rw [ht]; exact hP, va_K.moved hW.alike hK, hD⟩, hS.F ht⟩) hS.2.2 dX6_cell_100
      · replace hw := okT hw c_3
        clear c_3
        refine lv_aload_n hx hb dX6_cell_53 rfl (lv_at hl 0 rfl) ?_
        refine va_get (D := (dC, dI)) (ci := 6) (v := .ref h_told) (C := RX6) (T := TX6) (N := 12) hx hb hts hi6 hown hK hP 0 rfl rfl 0 (by decide) hq0 (fun _ h9 => h9) rfl dX6_cell_54 ?_
        refine va_get (D := (dC, dI)) (ci := 4) (v := .ref a_told_currents) (C := RX4) (T := TX4) (N := 16) hx hb hts hi4 hown hK hP 1 rfl rfl 3 (by decide) hq4 (fun _ h9 => h9) rfl dX6_cell_57 ?_
        refine lv_goto (tgt := 70) hx hb dX6_cell_60 (by decide) ?_
        refine lv_astore (lv' := [(5, .ref a_told_currents), (0, .ref h_o), (1, .int v1), (2, .int v2), (3, .int v3), (4, .int v4)]) hx hb dX6_cell_70 hl (by decide) rfl (fun ls hl => ?_)
        refine lv_aload hx hb dX6_cell_72 (lv_at hl 0 rfl) ?_
        refine lv_bipush (v := 100) hx hb dX6_cell_74 (by decide) ?_
        refine lv_iload_n hx hb dX6_cell_76 rfl (lv_at hl 2 rfl) ?_
        refine lv_imul hx hb dX6_cell_77 ?_
        refine lv_iload_n hx hb dX6_cell_78 rfl (lv_at hl 3 rfl) ?_
        refine lv_iadd hx hb dX6_cell_79 ?_
        obtain ⟨h_9, hw⟩ := okC hw
        refine va_iald (i := (100 * v1) + v2) hx hb hK hP 2 0 rfl rfl h_9 dX6_cell_80 ?_
        refine lv_topi (fun x_10 ex_10 => ?_)
        replace hw := okN ex_10 hw
        clear ex_10
        refine lv_istore (lv' := [(6, .int x_10), (5, .ref a_told_currents), (0, .ref h_o), (1, .int v1), (2, .int v2), (3, .int v3), (4, .int v4)]) hx hb dX6_cell_81 hl (by decide) rfl (fun ls hl => ?_)
        refine lv_aload hx hb dX6_cell_83 (lv_at hl 1 rfl) ?_
        refine lv_bipush (v := 100) hx hb dX6_cell_85 (by decide) ?_
        refine lv_iload_n hx hb dX6_cell_87 rfl (lv_at hl 3 rfl) ?_
        refine lv_imul hx hb dX6_cell_88 ?_
        refine lv_iload_n hx hb dX6_cell_89 rfl (lv_at hl 4 rfl) ?_
        refine lv_iadd hx hb dX6_cell_90 ?_
        refine lv_iload hx hb dX6_cell_91 (lv_at hl 6 rfl) ?_
        obtain ⟨h_11, hw⟩ := okC hw
        refine va_iast (i := (100 * v1) + v2) (x := v4) hx hb hK hP hD hS 2 0 rfl rfl h_11 dX6_cell_93 (fun H locs hP hD hS => ?_)
        have hP : va_P (dC, dI) vwCl (W_X6_cell cyI cyJ cyO h_o h_told h_seas h_kept h_walk h_trial h_ends h_otherEnds h_tape a_sheets a_told_settings a_told_howFar a_told_tones a_told_currents a_told_warmths a_told_depths a_told_fars a_told_pieceCells a_told_pieceMonths a_told_pieceHighs a_told_pieceAges a_told_pieceNeeds a_told_dragCells a_told_dragEighths a_seas_known o_hasImage o_walkIsOld o_endsAreOld told_pieceCount told_dragCount (upd told_currents ((100 * v1) + v2).toNatClampNeg v4) told_warmths seas_known) H := hP
        have hD : va_D A (W_X6_cell cyI cyJ cyO h_o h_told h_seas h_kept h_walk h_trial h_ends h_otherEnds h_tape a_sheets a_told_settings a_told_howFar a_told_tones a_told_currents a_told_warmths a_told_depths a_told_fars a_told_pieceCells a_told_pieceMonths a_told_pieceHighs a_told_pieceAges a_told_pieceNeeds a_told_dragCells a_told_dragEighths a_seas_known o_hasImage o_walkIsOld o_endsAreOld told_pieceCount told_dragCount (upd told_currents ((100 * v1) + v2).toNatClampNeg v4) told_warmths seas_known) := hD
        refine lv_aload_n hx hb dX6_cell_94 rfl (lv_at hl 2 rfl) ?_
        have hPc := hP.sub (ws' := (W_X6_seaChanged cyI cyJ cyO h_o h_seas h_told h_kept h_walk h_trial h_ends h_otherEnds h_tape a_sheets a_seas_known o_hasImage o_walkIsOld o_endsAreOld seas_known)) [0, 4, 5] rfl
        have hDc := hD.sub (ws' := (W_X6_seaChanged cyI cyJ cyO h_o h_seas h_told h_kept h_walk h_trial h_ends h_otherEnds h_tape a_sheets a_seas_known o_hasImage o_walkIsOld o_endsAreOld seas_known)) [0, 4, 5] (by decide +kernel) rfl
        have hFc := va_free (wc := (W_X6_seaChanged cyI cyJ cyO h_o h_seas h_told h_kept h_walk h_trial h_ends h_otherEnds h_tape a_sheets a_seas_known o_hasImage o_walkIsOld o_endsAreOld seas_known)) hD hS hA [0, 4, 5] rfl
        refine kc_v (wr := [(h_told, .inr (4, [.ref a_told_settings, .ref a_told_howFar, .ref a_told_tones, .ref a_told_currents, .ref a_told_warmths, .ref a_told_depths, .ref a_told_fars, .ref a_told_pieceCells, .ref a_told_pieceMonths, .ref a_told_pieceHighs, .ref a_told_pieceAges, .ref a_told_pieceNeeds, .ref a_told_dragCells, .ref a_told_dragEighths, .int told_pieceCount, .int told_dragCount])), (a_told_currents, .inl (cyI, 200, .inl (upd told_currents ((100 * v1) + v2).toNatClampNeg v4))), (a_told_warmths, .inl (cyI, 200, .inl told_warmths))]) (va_runV (As := []) (rest := []) ⟨hx, hb, hml, hown, hts⟩ (c_X6_seaChanged l dC dI cyI cyJ cyO H.size h_o h_seas h_told h_kept h_walk h_trial h_ends h_otherEnds h_tape a_sheets a_seas_known o_hasImage o_walkIsOld o_endsAreOld seas_known _ (okb2 hw)) (cwV 0 hts (gdV (fun w h => List.mem_cons_of_mem _ h) q_319 q_321 qs_0 q_1 q_322) rfl rfl rfl (by decide +kernel) ⟨Nat.le_of_ble_eq_true rfl, Nat.le_of_ble_eq_true rfl⟩) ⟨(kpre zN_ok hK hPc hDc trivial hS hFc).1, va_recv hK hP (ci := 6) (q0 := 0) rfl rfl, (kpre zN_ok hK hPc hDc trivial hS hFc).2⟩ rfl rfl hl.1 rfl (lv_room (Nat.le_of_ble_eq_true rfl)) dX6_cell_95 ⟨Nat.le_of_ble_eq_true rfl, Nat.le_of_ble_eq_true rfl⟩) hP hD hS hFc [0, 4, 5] [1, 2, 3] rfl rfl (by decide +kernel) (by decide +kernel) (fun u H locs hw hP hD hS => ?_)
        obtain ⟨w_12, w_13⟩ := u
        try dsimp only at hw
        have hP : va_P (dC, dI) vwCl (W_X6_cell cyI cyJ cyO h_o h_told h_seas h_kept h_walk h_trial h_ends h_otherEnds h_tape a_sheets a_told_settings a_told_howFar a_told_tones a_told_currents a_told_warmths a_told_depths a_told_fars a_told_pieceCells a_told_pieceMonths a_told_pieceHighs a_told_pieceAges a_told_pieceNeeds a_told_dragCells a_told_dragEighths a_seas_known o_hasImage o_walkIsOld w_12 told_pieceCount told_dragCount (upd told_currents ((100 * v1) + v2).toNatClampNeg v4) told_warmths w_13) H := hP.sub [3, 0, 1, 2, 4, 5] rfl
        have hD : va_D A (W_X6_cell cyI cyJ cyO h_o h_told h_seas h_kept h_walk h_trial h_ends h_otherEnds h_tape a_sheets a_told_settings a_told_howFar a_told_tones a_told_currents a_told_warmths a_told_depths a_told_fars a_told_pieceCells a_told_pieceMonths a_told_pieceHighs a_told_pieceAges a_told_pieceNeeds a_told_dragCells a_told_dragEighths a_seas_known o_hasImage o_walkIsOld w_12 told_pieceCount told_dragCount (upd told_currents ((100 * v1) + v2).toNatClampNeg v4) told_warmths w_13) := hD.sub [3, 0, 1, 2, 4, 5] (by decide +kernel) rfl
        clear hPc hDc hFc
        refine lv_iload hx hb dX6_cell_98 (lv_at hl 0 rfl) ?_
        rw [hQ]
        exact W.iret (v := x_10) hx hb hr (fun t ht hW => ⟨⟨x_10, (w_12, upd told_currents ((100 * v1) + v2).toNatClampNeg v4, told_warmths, w_13), rfl, okS hw, by rw [ht]; exact hP, va_K.moved hW.alike hK, hD⟩, hS.F ht⟩) hS.2.2 dX6_cell_100
    · replace hw := okT hw c_2
      clear c_2
      refine lv_iconst (v := (-1)) hx hb dX6_cell_47 (by decide) ?_
      rw [hQ]
      exact W.iret (v := (-1)) hx hb hr (fun t ht hW => ⟨⟨(-1), (o_endsAreOld, told_currents, told_warmths, seas_known), rfl, okS hw, by rw [ht]; exact hP, va_K.moved hW.alike hK, hD⟩, hS.F ht⟩) hS.2.2 dX6_cell_48
  unfold f_X6_cell at hw
  have hP : va_P (dC, dI) vwCl (W_X6_cell cyI cyJ cyO h_o h_told h_seas h_kept h_walk h_trial h_ends h_otherEnds h_tape a_sheets a_told_settings a_told_howFar a_told_tones a_told_currents a_told_warmths a_told_depths a_told_fars a_told_pieceCells a_told_pieceMonths a_told_pieceHighs a_told_pieceAges a_told_pieceNeeds a_told_dragCells a_told_dragEighths a_seas_known o_hasImage o_walkIsOld o_endsAreOld told_pieceCount told_dragCount told_currents told_warmths seas_known) s.heap := hP
  obtain ⟨H, hH⟩ : ∃ H, H = s.heap := ⟨_, rfl⟩
  obtain ⟨locs, hlo⟩ : ∃ x : List Loc, x = [] := ⟨_, rfl⟩
  have hP : va_P (dC, dI) vwCl (W_X6_cell cyI cyJ cyO h_o h_told h_seas h_kept h_walk h_trial h_ends h_otherEnds h_tape a_sheets a_told_settings a_told_howFar a_told_tones a_told_currents a_told_warmths a_told_depths a_told_fars a_told_pieceCells a_told_pieceMonths a_told_pieceHighs a_told_pieceAges a_told_pieceNeeds a_told_dragCells a_told_dragEighths a_seas_known o_hasImage o_walkIsOld o_endsAreOld told_pieceCount told_dragCount told_currents told_warmths seas_known) H := by rw [hH]; exact hP
  have hS : va_S A s.heap H locs := by rw [hH, hlo]; exact hS
  refine kH hH hlo ?_
  clear hH hlo
  refine lv_iload_n hx hb dX6_cell_0 rfl (lv_at hl 1 rfl) ?_
  refine lv_iconst (v := 0) hx hb dX6_cell_1 (by decide) ?_
  refine lv_iconst (v := 1) hx hb dX6_cell_2 (by decide) ?_
  have hFc := va_free (wc := []) hD hS hA [] rfl
  refine kp_i (va_runS (As := [.int x1, .int 0, .int 1]) (rest := []) ⟨hx, hb, hml, hown, hts⟩ (c_X6_within l dC dI cyI cyJ cyO H.size x1 0 1 _ (okb1 hw)) (va_cwS 3 hts (gdS (fun w h => List.mem_cons_of_mem _ h) q_311 q_312 q_1 q_313) rfl rfl rfl (by decide +kernel) ⟨Nat.le_of_ble_eq_true rfl, Nat.le_of_ble_eq_true rfl⟩) (kpre zN_ok hK va_P0 va_D0 trivial hS hFc) rfl rfl hl.1 rfl (lv_room (Nat.le_of_ble_eq_true rfl)) dX6_cell_3 ⟨Nat.le_of_ble_eq_true rfl, Nat.le_of_ble_eq_true rfl⟩) hP hD hS hFc (fun r_14 H locs hw hP hS => ?_)
  try dsimp only at hw
  clear hFc
  refine lv_if_eq (tgt := 25) hx hb dX6_cell_6 (by decide) (fun c_15 => ?_) (fun c_15 => ?_)
  · replace hw := okT hw c_15
    clear c_15
    refine lv_iconst (v := (-1)) hx hb dX6_cell_25 (by decide) ?_
    rw [hQ]
    exact W.iret (v := (-1)) hx hb hr (fun t ht hW => ⟨⟨(-1), (o_endsAreOld, told_currents, told_warmths, seas_known), rfl, okS hw, by rw [ht]; exact hP, va_K.moved hW.alike hK, hD⟩, hS.F ht⟩) hS.2.2 dX6_cell_26
  · replace hw := okF hw c_15
    clear c_15
    refine lv_iload_n hx hb dX6_cell_9 rfl (lv_at hl 2 rfl) ?_
    have hFc := va_free (wc := []) hD hS hA [] rfl
    refine kp_i (va_runS (As := [.int x2]) (rest := []) ⟨hx, hb, hml, hown, hts⟩ (c_X6_isCell l dC dI cyI cyJ cyO H.size x2 _ (okb1 hw)) (va_cwS 1 hts (gdS (fun w h => List.mem_cons_of_mem _ h) q_332 q_333 q_1 q_334) rfl rfl rfl (by decide +kernel) ⟨Nat.le_of_ble_eq_true rfl, Nat.le_of_ble_eq_true rfl⟩) (kpre zN_ok hK va_P0 va_D0 trivial hS hFc) rfl rfl hl.1 rfl (lv_room (Nat.le_of_ble_eq_true rfl)) dX6_cell_10 ⟨Nat.le_of_ble_eq_true rfl, Nat.le_of_ble_eq_true rfl⟩) hP hD hS hFc (fun r_16 H locs hw hP hS => ?_)
    try dsimp only at hw
    clear hFc
    refine lv_if_eq (tgt := 25) hx hb dX6_cell_13 (by decide) (fun c_17 => ?_) (fun c_17 => ?_)
    · replace hw := okT hw c_17
      clear c_17
      refine lv_iconst (v := (-1)) hx hb dX6_cell_25 (by decide) ?_
      rw [hQ]
      exact W.iret (v := (-1)) hx hb hr (fun t ht hW => ⟨⟨(-1), (o_endsAreOld, told_currents, told_warmths, seas_known), rfl, okS hw, by rw [ht]; exact hP, va_K.moved hW.alike hK, hD⟩, hS.F ht⟩) hS.2.2 dX6_cell_26
    · replace hw := okF hw c_17
      clear c_17
      refine lv_iload_n hx hb dX6_cell_16 rfl (lv_at hl 3 rfl) ?_
      refine lv_iconst (v := 0) hx hb dX6_cell_17 (by decide) ?_
      refine lv_iconst (v := 1) hx hb dX6_cell_18 (by decide) ?_
      have hFc := va_free (wc := []) hD hS hA [] rfl
      refine kp_i (va_runS (As := [.int x3, .int 0, .int 1]) (rest := []) ⟨hx, hb, hml, hown, hts⟩ (c_X6_within l dC dI cyI cyJ cyO H.size x3 0 1 _ (okb1 hw)) (va_cwS 3 hts (gdS (fun w h => List.mem_cons_of_mem _ h) q_311 q_312 q_1 q_313) rfl rfl rfl (by decide +kernel) ⟨Nat.le_of_ble_eq_true rfl, Nat.le_of_ble_eq_true rfl⟩) (kpre zN_ok hK va_P0 va_D0 trivial hS hFc) rfl rfl hl.1 rfl (lv_room (Nat.le_of_ble_eq_true rfl)) dX6_cell_19 ⟨Nat.le_of_ble_eq_true rfl, Nat.le_of_ble_eq_true rfl⟩) hP hD hS hFc (fun r_18 H locs hw hP hS => ?_)
      try dsimp only at hw
      clear hFc
      refine lv_if_ne (tgt := 27) hx hb dX6_cell_22 (by decide) (fun c_19 => ?_) (fun c_19 => ?_)
      · replace hw := okF hw c_19
        clear c_19
        refine lv_iload hx hb dX6_cell_27 (lv_at hl 4 rfl) ?_
        refine lv_iconst (v := 0) hx hb dX6_cell_29 (by decide) ?_
        refine lv_iload_n hx hb dX6_cell_30 rfl (lv_at hl 3 rfl) ?_
        refine lv_if_ne (tgt := 39) hx hb dX6_cell_31 (by decide) (fun c_20 => ?_) (fun c_20 => ?_)
        · replace hw := okF hw c_20
          clear c_20
          refine lv_bipush (v := 9) hx hb dX6_cell_39 (by decide) ?_
          exact w41 x1 x2 x3 x4 9 0 x4 o_endsAreOld told_currents told_warmths seas_known _ _ hP hD hS _ (lv_sub hl [0, 1, 2, 3, 4] rfl) hw
        · replace hw := okT hw c_20
          clear c_20
          refine lv_bipush (v := 8) hx hb dX6_cell_34 (by decide) ?_
          refine lv_goto (tgt := 41) hx hb dX6_cell_36 (by decide) ?_
          exact w41 x1 x2 x3 x4 8 0 x4 o_endsAreOld told_currents told_warmths seas_known _ _ hP hD hS _ (lv_sub hl [0, 1, 2, 3, 4] rfl) hw
      · replace hw := okT hw c_19
        clear c_19
        refine lv_iconst (v := (-1)) hx hb dX6_cell_25 (by decide) ?_
        rw [hQ]
        exact W.iret (v := (-1)) hx hb hr (fun t ht hW => ⟨⟨(-1), (o_endsAreOld, told_currents, told_warmths, seas_known), rfl, okS hw, by rw [ht]; exact hP, va_K.moved hW.alike hK, hD⟩, hS.F ht⟩) hS.2.2 dX6_cell_26
/-! ===== X6_depth ===== -/
theorem dX6_depth_0 : decode cX6_depth 0 = .ok (.iload_n 1, 1) := by decide +kernel
theorem dX6_depth_1 : decode cX6_depth 1 = .ok (.invokestatic 97, 3) := by decide +kernel
theorem dX6_depth_4 : decode cX6_depth 4 = .ok (.ifCond .eq 13, 3) := by decide +kernel
theorem dX6_depth_7 : decode cX6_depth 7 = .ok (.iload_n 2, 1) := by decide +kernel
theorem dX6_depth_8 : decode cX6_depth 8 = .ok (.iconst 1, 1) := by decide +kernel
theorem dX6_depth_9 : decode cX6_depth 9 = .ok (.bipush 9, 2) := by decide +kernel
theorem dX6_depth_11 : decode cX6_depth 11 = .ok (.invokestatic 74, 3) := by decide +kernel
theorem dX6_depth_14 : decode cX6_depth 14 = .ok (.ifCond .ne 5, 3) := by decide +kernel
theorem dX6_depth_17 : decode cX6_depth 17 = .ok (.iconst (-1), 1) := by decide +kernel
theorem dX6_depth_18 : decode cX6_depth 18 = .ok (.ireturn, 1) := by decide +kernel
theorem dX6_depth_19 : decode cX6_depth 19 = .ok (.aload_n 0, 1) := by decide +kernel
theorem dX6_depth_20 : decode cX6_depth 20 = .ok (.getfield 10, 3) := by decide +kernel
theorem dX6_depth_23 : decode cX6_depth 23 = .ok (.getfield 161, 3) := by decide +kernel
theorem dX6_depth_26 : decode cX6_depth 26 = .ok (.iload_n 1, 1) := by decide +kernel
theorem dX6_depth_27 : decode cX6_depth 27 = .ok (.iaload, 1) := by decide +kernel
theorem dX6_depth_28 : decode cX6_depth 28 = .ok (.istore_n 3, 1) := by decide +kernel
theorem dX6_depth_29 : decode cX6_depth 29 = .ok (.aload_n 0, 1) := by decide +kernel
theorem dX6_depth_30 : decode cX6_depth 30 = .ok (.getfield 10, 3) := by decide +kernel
theorem dX6_depth_33 : decode cX6_depth 33 = .ok (.getfield 161, 3) := by decide +kernel
theorem dX6_depth_36 : decode cX6_depth 36 = .ok (.iload_n 1, 1) := by decide +kernel
theorem dX6_depth_37 : decode cX6_depth 37 = .ok (.iload_n 2, 1) := by decide +kernel
theorem dX6_depth_38 : decode cX6_depth 38 = .ok (.iastore, 1) := by decide +kernel
theorem dX6_depth_39 : decode cX6_depth 39 = .ok (.iload_n 3, 1) := by decide +kernel
theorem dX6_depth_40 : decode cX6_depth 40 = .ok (.ireturn, 1) := by decide +kernel
abbrev W_X6_depth (cyI cyJ cyO : ClassId) (h_o h_told h_kept h_walk h_trial h_seas h_ends h_otherEnds h_tape a_sheets a_told_settings a_told_howFar a_told_tones a_told_currents a_told_warmths a_told_depths a_told_fars a_told_pieceCells a_told_pieceMonths a_told_pieceHighs a_told_pieceAges a_told_pieceNeeds a_told_dragCells a_told_dragEighths : Nat) (o_hasImage : Int32) (o_walkIsOld : Int32) (o_endsAreOld : Int32) (told_pieceCount : Int32) (told_dragCount : Int32) (told_depths : Nat → Int32) : va_W := [(h_o, .inr (6, [.ref h_told, .ref h_kept, .ref h_walk, .ref h_trial, .ref h_seas, .ref h_ends, .ref h_otherEnds, .ref h_tape, .ref a_sheets, .int o_hasImage, .int o_walkIsOld, .int o_endsAreOld])), (h_told, .inr (4, [.ref a_told_settings, .ref a_told_howFar, .ref a_told_tones, .ref a_told_currents, .ref a_told_warmths, .ref a_told_depths, .ref a_told_fars, .ref a_told_pieceCells, .ref a_told_pieceMonths, .ref a_told_pieceHighs, .ref a_told_pieceAges, .ref a_told_pieceNeeds, .ref a_told_dragCells, .ref a_told_dragEighths, .int told_pieceCount, .int told_dragCount])), (a_told_depths, .inl (cyI, 100, .inl told_depths))]
def f_X6_depth (x1 : Int32) (x2 : Int32) (told_depths : Nat → Int32) : Option (Int32 × (Nat → Int32)) :=
  bd1 (f_X6_isCell x1) fun r_1 =>
  if r_1 = 0 then
    some ((-1), told_depths)
  else
    bd1 (f_X6_within x2 1 9) fun r_2 =>
    if r_2 = 0 then
      some ((-1), told_depths)
    else
      chk (¬ (x1 < 0 ∨ 100 ≤ x1.toNatClampNeg)) <|
      nm (told_depths x1.toNatClampNeg) fun x_3 =>
      chk (¬ (x1 < 0 ∨ 100 ≤ x1.toNatClampNeg)) <|
      some (x_3, upd told_depths x1.toNatClampNeg x2)
abbrev rm_X6_depth : Room := { frames := 1, cells := 0, slots := 0, locals := 22 }
set_option maxRecDepth 100000 in
set_option maxHeartbeats 4000000 in
theorem c_X6_depth (l : Launch) (dC : Nat → ClassId) (dI : Nat → Nat → Nat) (cyI cyJ cyO : ClassId) (sz : Nat) (h_o h_told h_kept h_walk h_trial h_seas h_ends h_otherEnds h_tape a_sheets a_told_settings a_told_howFar a_told_tones a_told_currents a_told_warmths a_told_depths a_told_fars a_told_pieceCells a_told_pieceMonths a_told_pieceHighs a_told_pieceAges a_told_pieceNeeds a_told_dragCells a_told_dragEighths : Nat) (o_hasImage : Int32) (o_walkIsOld : Int32) (o_endsAreOld : Int32) (told_pieceCount : Int32) (told_dragCount : Int32) (told_depths : Nat → Int32) (x1 : Int32) (x2 : Int32) (post : (Int32 × (Nat → Int32)) → Prop) (hf : okP (f_X6_depth x1 x2 told_depths) post) : Ci l (dC, dI) (tyL cyI cyJ cyO) yX6_depth wsX6_depth rm_X6_depth [.ref h_o, .int x1, .int x2] sz (W_X6_depth cyI cyJ cyO h_o h_told h_kept h_walk h_trial h_seas h_ends h_otherEnds h_tape a_sheets a_told_settings a_told_howFar a_told_tones a_told_currents a_told_warmths a_told_depths a_told_fars a_told_pieceCells a_told_pieceMonths a_told_pieceHighs a_told_pieceAges a_told_pieceNeeds a_told_dragCells a_told_dragEighths o_hasImage o_walkIsOld o_endsAreOld told_pieceCount told_dragCount told_depths) zN (fun r u => post (r, u)) (fun u => (W_X6_depth cyI cyJ cyO h_o h_told h_kept h_walk h_trial h_seas h_ends h_otherEnds h_tape a_sheets a_told_settings a_told_howFar a_told_tones a_told_currents a_told_warmths a_told_depths a_told_fars a_told_pieceCells a_told_pieceMonths a_told_pieceHighs a_told_pieceAges a_told_pieceNeeds a_told_dragCells a_told_dragEighths o_hasImage o_walkIsOld o_endsAreOld told_pieceCount told_dragCount u)) := by
  refine Met.ofW (cc := cX6_depth) (maxL := 4) (ret := (some .int)) (by decide) rfl ?_
  intro p e s m args below meth c s₁ B hml hv
  obtain ⟨rfl, hsz, hP, hK, hD0, hZ⟩ := hv
  have hx := B.exec
  have hb := B.bytes
  have hr := B.returns
  have hts := atoms_spec (ws := wsX6_depth) B.pre
  have hown : s.vm.findClass RX6 = some m.cls := findClass_of_methodNamed B.named
  have hlocks := B.notSynchronized
  subst hsz
  have hD := hD0.self (sz := s.heap.size)
  generalize hAe : va_A (W_X6_depth cyI cyJ cyO h_o h_told h_kept h_walk h_trial h_seas h_ends h_otherEnds h_tape a_sheets a_told_settings a_told_howFar a_told_tones a_told_currents a_told_warmths a_told_depths a_told_fars a_told_pieceCells a_told_pieceMonths a_told_pieceHighs a_told_pieceAges a_told_pieceNeeds a_told_dragCells a_told_dragEighths o_hasImage o_walkIsOld o_endsAreOld told_pieceCount told_dragCount told_depths) s.heap.size = A at hD hZ ⊢
  have hA : ∀ q : Nat, s.heap.size ≤ q → A q := fun q h => by rw [← hAe]; exact Or.inr h
  clear hAe hD0
  have hS : va_S A s.heap s.heap [] := va_S.rf
  have hl := lv_entry ([.ref h_o, .int x1, .int x2]) (n := 4) (Nat.le_of_ble_eq_true rfl)
  rw [lg_entry_eq]
  generalize (lg_sl ([.ref h_o, .int x1, .int x2]) ++ List.replicate (4 - (lg_sl ([.ref h_o, .int x1, .int x2])).length) Slot.unset).toArray = ls at hl ⊢
  have hl : lv_has ls 4 [(0, .ref h_o), (1, .int x1), (2, .int x2)] := hl
  refine kW (fun Q hQ => ?_)
  have hq0 := hts _ (List.mem_cons_of_mem _ q_270)
  have hi6 : ∀ w ∈ u_ws RX6 TX6 12, w ∈ wsX6_depth := fun w h => List.mem_cons_of_mem _ (inX6 w h)
  have hq2 := hts _ (List.mem_cons_of_mem _ q_49)
  have hi4 : ∀ w ∈ u_ws RX4 TX4 16, w ∈ wsX6_depth := fun w h => List.mem_cons_of_mem _ (inX4 w h)
  have hw := hf
  unfold f_X6_depth at hw
  have hP : va_P (dC, dI) vwCl (W_X6_depth cyI cyJ cyO h_o h_told h_kept h_walk h_trial h_seas h_ends h_otherEnds h_tape a_sheets a_told_settings a_told_howFar a_told_tones a_told_currents a_told_warmths a_told_depths a_told_fars a_told_pieceCells a_told_pieceMonths a_told_pieceHighs a_told_pieceAges a_told_pieceNeeds a_told_dragCells a_told_dragEighths o_hasImage o_walkIsOld o_endsAreOld told_pieceCount told_dragCount told_depths) s.heap := hP
  obtain ⟨H, hH⟩ : ∃ H, H = s.heap := ⟨_, rfl⟩
  obtain ⟨locs, hlo⟩ : ∃ x : List Loc, x = [] := ⟨_, rfl⟩
  have hP : va_P (dC, dI) vwCl (W_X6_depth cyI cyJ cyO h_o h_told h_kept h_walk h_trial h_seas h_ends h_otherEnds h_tape a_sheets a_told_settings a_told_howFar a_told_tones a_told_currents a_told_warmths a_told_depths a_told_fars a_told_pieceCells a_told_pieceMonths a_told_pieceHighs a_told_pieceAges a_told_pieceNeeds a_told_dragCells a_told_dragEighths o_hasImage o_walkIsOld o_endsAreOld told_pieceCount told_dragCount told_depths) H := by rw [hH]; exact hP
  have hS : va_S A s.heap H locs := by rw [hH, hlo]; exact hS
  refine kH hH hlo ?_
  clear hH hlo
  refine lv_iload_n hx hb dX6_depth_0 rfl (lv_at hl 1 rfl) ?_
  have hFc := va_free (wc := []) hD hS hA [] rfl
  refine kp_i (va_runS (As := [.int x1]) (rest := []) ⟨hx, hb, hml, hown, hts⟩ (c_X6_isCell l dC dI cyI cyJ cyO H.size x1 _ (okb1 hw)) (va_cwS 1 hts (gdS (fun w h => List.mem_cons_of_mem _ h) q_332 q_333 q_1 q_334) rfl rfl rfl (by decide +kernel) ⟨Nat.le_of_ble_eq_true rfl, Nat.le_of_ble_eq_true rfl⟩) (kpre zN_ok hK va_P0 va_D0 trivial hS hFc) rfl rfl hl.1 rfl (lv_room (Nat.le_of_ble_eq_true rfl)) dX6_depth_1 ⟨Nat.le_of_ble_eq_true rfl, Nat.le_of_ble_eq_true rfl⟩) hP hD hS hFc (fun r_1 H locs hw hP hS => ?_)
  try dsimp only at hw
  clear hFc
  refine lv_if_eq (tgt := 17) hx hb dX6_depth_4 (by decide) (fun c_2 => ?_) (fun c_2 => ?_)
  · replace hw := okT hw c_2
    clear c_2
    refine lv_iconst (v := (-1)) hx hb dX6_depth_17 (by decide) ?_
    rw [hQ]
    exact W.iret (v := (-1)) hx hb hr (fun t ht hW => ⟨⟨(-1), told_depths, rfl, okS hw, by rw [ht]; exact hP, va_K.moved hW.alike hK, hD⟩, hS.F ht⟩) hS.2.2 dX6_depth_18
  · replace hw := okF hw c_2
    clear c_2
    refine lv_iload_n hx hb dX6_depth_7 rfl (lv_at hl 2 rfl) ?_
    refine lv_iconst (v := 1) hx hb dX6_depth_8 (by decide) ?_
    refine lv_bipush (v := 9) hx hb dX6_depth_9 (by decide) ?_
    have hFc := va_free (wc := []) hD hS hA [] rfl
    refine kp_i (va_runS (As := [.int x2, .int 1, .int 9]) (rest := []) ⟨hx, hb, hml, hown, hts⟩ (c_X6_within l dC dI cyI cyJ cyO H.size x2 1 9 _ (okb1 hw)) (va_cwS 3 hts (gdS (fun w h => List.mem_cons_of_mem _ h) q_311 q_312 q_1 q_313) rfl rfl rfl (by decide +kernel) ⟨Nat.le_of_ble_eq_true rfl, Nat.le_of_ble_eq_true rfl⟩) (kpre zN_ok hK va_P0 va_D0 trivial hS hFc) rfl rfl hl.1 rfl (lv_room (Nat.le_of_ble_eq_true rfl)) dX6_depth_11 ⟨Nat.le_of_ble_eq_true rfl, Nat.le_of_ble_eq_true rfl⟩) hP hD hS hFc (fun r_3 H locs hw hP hS => ?_)
    try dsimp only at hw
    clear hFc
    refine lv_if_ne (tgt := 19) hx hb dX6_depth_14 (by decide) (fun c_4 => ?_) (fun c_4 => ?_)
    · replace hw := okF hw c_4
      clear c_4
      refine lv_aload_n hx hb dX6_depth_19 rfl (lv_at hl 0 rfl) ?_
      refine va_get (D := (dC, dI)) (ci := 6) (v := .ref h_told) (C := RX6) (T := TX6) (N := 12) hx hb hts hi6 hown hK hP 0 rfl rfl 0 (by decide) hq0 (fun _ h9 => h9) rfl dX6_depth_20 ?_
      refine va_get (D := (dC, dI)) (ci := 4) (v := .ref a_told_depths) (C := RX4) (T := TX4) (N := 16) hx hb hts hi4 hown hK hP 1 rfl rfl 5 (by decide) hq2 (fun _ h9 => h9) rfl dX6_depth_23 ?_
      refine lv_iload_n hx hb dX6_depth_26 rfl (lv_at hl 1 rfl) ?_
      obtain ⟨h_5, hw⟩ := okC hw
      refine va_iald (i := x1) hx hb hK hP 2 0 rfl rfl h_5 dX6_depth_27 ?_
      refine lv_topi (fun x_6 ex_6 => ?_)
      replace hw := okN ex_6 hw
      clear ex_6
      refine lv_istore_n (lv' := [(3, .int x_6), (0, .ref h_o), (1, .int x1), (2, .int x2)]) hx hb dX6_depth_28 rfl hl (by decide) rfl (fun ls hl => ?_)
      refine lv_aload_n hx hb dX6_depth_29 rfl (lv_at hl 1 rfl) ?_
      refine va_get (D := (dC, dI)) (ci := 6) (v := .ref h_told) (C := RX6) (T := TX6) (N := 12) hx hb hts hi6 hown hK hP 0 rfl rfl 0 (by decide) hq0 (fun _ h9 => h9) rfl dX6_depth_30 ?_
      refine va_get (D := (dC, dI)) (ci := 4) (v := .ref a_told_depths) (C := RX4) (T := TX4) (N := 16) hx hb hts hi4 hown hK hP 1 rfl rfl 5 (by decide) hq2 (fun _ h9 => h9) rfl dX6_depth_33 ?_
      refine lv_iload_n hx hb dX6_depth_36 rfl (lv_at hl 2 rfl) ?_
      refine lv_iload_n hx hb dX6_depth_37 rfl (lv_at hl 3 rfl) ?_
      obtain ⟨h_7, hw⟩ := okC hw
      refine va_iast (i := x1) (x := x2) hx hb hK hP hD hS 2 0 rfl rfl h_7 dX6_depth_38 (fun H locs hP hD hS => ?_)
      have hP : va_P (dC, dI) vwCl (W_X6_depth cyI cyJ cyO h_o h_told h_kept h_walk h_trial h_seas h_ends h_otherEnds h_tape a_sheets a_told_settings a_told_howFar a_told_tones a_told_currents a_told_warmths a_told_depths a_told_fars a_told_pieceCells a_told_pieceMonths a_told_pieceHighs a_told_pieceAges a_told_pieceNeeds a_told_dragCells a_told_dragEighths o_hasImage o_walkIsOld o_endsAreOld told_pieceCount told_dragCount (upd told_depths x1.toNatClampNeg x2)) H := hP
      have hD : va_D A (W_X6_depth cyI cyJ cyO h_o h_told h_kept h_walk h_trial h_seas h_ends h_otherEnds h_tape a_sheets a_told_settings a_told_howFar a_told_tones a_told_currents a_told_warmths a_told_depths a_told_fars a_told_pieceCells a_told_pieceMonths a_told_pieceHighs a_told_pieceAges a_told_pieceNeeds a_told_dragCells a_told_dragEighths o_hasImage o_walkIsOld o_endsAreOld told_pieceCount told_dragCount (upd told_depths x1.toNatClampNeg x2)) := hD
      refine lv_iload_n hx hb dX6_depth_39 rfl (lv_at hl 0 rfl) ?_
      rw [hQ]
      exact W.iret (v := x_6) hx hb hr (fun t ht hW => ⟨⟨x_6, (upd told_depths x1.toNatClampNeg x2), rfl, okS hw, by rw [ht]; exact hP, va_K.moved hW.alike hK, hD⟩, hS.F ht⟩) hS.2.2 dX6_depth_40
    · replace hw := okT hw c_4
      clear c_4
      refine lv_iconst (v := (-1)) hx hb dX6_depth_17 (by decide) ?_
      rw [hQ]
      exact W.iret (v := (-1)) hx hb hr (fun t ht hW => ⟨⟨(-1), told_depths, rfl, okS hw, by rw [ht]; exact hP, va_K.moved hW.alike hK, hD⟩, hS.F ht⟩) hS.2.2 dX6_depth_18
/-! ===== X6_piece ===== -/
theorem dX6_piece_0 : decode cX6_piece 0 = .ok (.iload_n 1, 1) := by decide +kernel
theorem dX6_piece_1 : decode cX6_piece 1 = .ok (.invokestatic 97, 3) := by decide +kernel
theorem dX6_piece_4 : decode cX6_piece 4 = .ok (.ifCond .eq 22, 3) := by decide +kernel
theorem dX6_piece_7 : decode cX6_piece 7 = .ok (.iload_n 2, 1) := by decide +kernel
theorem dX6_piece_8 : decode cX6_piece 8 = .ok (.iconst 1, 1) := by decide +kernel
theorem dX6_piece_9 : decode cX6_piece 9 = .ok (.bipush 24, 2) := by decide +kernel
theorem dX6_piece_11 : decode cX6_piece 11 = .ok (.invokestatic 74, 3) := by decide +kernel
theorem dX6_piece_14 : decode cX6_piece 14 = .ok (.ifCond .eq 12, 3) := by decide +kernel
theorem dX6_piece_17 : decode cX6_piece 17 = .ok (.iload_n 3, 1) := by decide +kernel
theorem dX6_piece_18 : decode cX6_piece 18 = .ok (.iconst 0, 1) := by decide +kernel
theorem dX6_piece_19 : decode cX6_piece 19 = .ok (.iconst 1, 1) := by decide +kernel
theorem dX6_piece_20 : decode cX6_piece 20 = .ok (.invokestatic 74, 3) := by decide +kernel
theorem dX6_piece_23 : decode cX6_piece 23 = .ok (.ifCond .ne 5, 3) := by decide +kernel
theorem dX6_piece_26 : decode cX6_piece 26 = .ok (.iconst (-1), 1) := by decide +kernel
theorem dX6_piece_27 : decode cX6_piece 27 = .ok (.ireturn, 1) := by decide +kernel
theorem dX6_piece_28 : decode cX6_piece 28 = .ok (.iload 4, 2) := by decide +kernel
theorem dX6_piece_30 : decode cX6_piece 30 = .ok (.iconst 0, 1) := by decide +kernel
theorem dX6_piece_31 : decode cX6_piece 31 = .ok (.iload_n 2, 1) := by decide +kernel
theorem dX6_piece_32 : decode cX6_piece 32 = .ok (.invokestatic 74, 3) := by decide +kernel
theorem dX6_piece_35 : decode cX6_piece 35 = .ok (.ifCond .eq 14, 3) := by decide +kernel
theorem dX6_piece_38 : decode cX6_piece 38 = .ok (.iload 5, 2) := by decide +kernel
theorem dX6_piece_40 : decode cX6_piece 40 = .ok (.iconst 0, 1) := by decide +kernel
theorem dX6_piece_41 : decode cX6_piece 41 = .ok (.bipush 9, 2) := by decide +kernel
theorem dX6_piece_43 : decode cX6_piece 43 = .ok (.invokestatic 74, 3) := by decide +kernel
theorem dX6_piece_46 : decode cX6_piece 46 = .ok (.ifCond .ne 5, 3) := by decide +kernel
theorem dX6_piece_49 : decode cX6_piece 49 = .ok (.iconst (-1), 1) := by decide +kernel
theorem dX6_piece_50 : decode cX6_piece 50 = .ok (.ireturn, 1) := by decide +kernel
theorem dX6_piece_51 : decode cX6_piece 51 = .ok (.aload_n 0, 1) := by decide +kernel
theorem dX6_piece_52 : decode cX6_piece 52 = .ok (.getfield 10, 3) := by decide +kernel
theorem dX6_piece_55 : decode cX6_piece 55 = .ok (.getfield 164, 3) := by decide +kernel
theorem dX6_piece_58 : decode cX6_piece 58 = .ok (.istore 6, 2) := by decide +kernel
theorem dX6_piece_60 : decode cX6_piece 60 = .ok (.iload 6, 2) := by decide +kernel
theorem dX6_piece_62 : decode cX6_piece 62 = .ok (.iconst 4, 1) := by decide +kernel
theorem dX6_piece_63 : decode cX6_piece 63 = .ok (.if_icmp .lt 6, 3) := by decide +kernel
theorem dX6_piece_66 : decode cX6_piece 66 = .ok (.bipush (-3), 2) := by decide +kernel
theorem dX6_piece_68 : decode cX6_piece 68 = .ok (.ireturn, 1) := by decide +kernel
theorem dX6_piece_69 : decode cX6_piece 69 = .ok (.aload_n 0, 1) := by decide +kernel
theorem dX6_piece_70 : decode cX6_piece 70 = .ok (.getfield 10, 3) := by decide +kernel
theorem dX6_piece_73 : decode cX6_piece 73 = .ok (.getfield 167, 3) := by decide +kernel
theorem dX6_piece_76 : decode cX6_piece 76 = .ok (.iload 6, 2) := by decide +kernel
theorem dX6_piece_78 : decode cX6_piece 78 = .ok (.iload_n 1, 1) := by decide +kernel
theorem dX6_piece_79 : decode cX6_piece 79 = .ok (.iastore, 1) := by decide +kernel
theorem dX6_piece_80 : decode cX6_piece 80 = .ok (.aload_n 0, 1) := by decide +kernel
theorem dX6_piece_81 : decode cX6_piece 81 = .ok (.getfield 10, 3) := by decide +kernel
theorem dX6_piece_84 : decode cX6_piece 84 = .ok (.getfield 170, 3) := by decide +kernel
theorem dX6_piece_87 : decode cX6_piece 87 = .ok (.iload 6, 2) := by decide +kernel
theorem dX6_piece_89 : decode cX6_piece 89 = .ok (.iload_n 2, 1) := by decide +kernel
theorem dX6_piece_90 : decode cX6_piece 90 = .ok (.iastore, 1) := by decide +kernel
theorem dX6_piece_91 : decode cX6_piece 91 = .ok (.aload_n 0, 1) := by decide +kernel
theorem dX6_piece_92 : decode cX6_piece 92 = .ok (.getfield 10, 3) := by decide +kernel
theorem dX6_piece_95 : decode cX6_piece 95 = .ok (.getfield 173, 3) := by decide +kernel
theorem dX6_piece_98 : decode cX6_piece 98 = .ok (.iload 6, 2) := by decide +kernel
theorem dX6_piece_100 : decode cX6_piece 100 = .ok (.iload_n 3, 1) := by decide +kernel
theorem dX6_piece_101 : decode cX6_piece 101 = .ok (.iastore, 1) := by decide +kernel
theorem dX6_piece_102 : decode cX6_piece 102 = .ok (.aload_n 0, 1) := by decide +kernel
theorem dX6_piece_103 : decode cX6_piece 103 = .ok (.getfield 10, 3) := by decide +kernel
theorem dX6_piece_106 : decode cX6_piece 106 = .ok (.getfield 176, 3) := by decide +kernel
theorem dX6_piece_109 : decode cX6_piece 109 = .ok (.iload 6, 2) := by decide +kernel
theorem dX6_piece_111 : decode cX6_piece 111 = .ok (.iload 4, 2) := by decide +kernel
theorem dX6_piece_113 : decode cX6_piece 113 = .ok (.iastore, 1) := by decide +kernel
theorem dX6_piece_114 : decode cX6_piece 114 = .ok (.aload_n 0, 1) := by decide +kernel
theorem dX6_piece_115 : decode cX6_piece 115 = .ok (.getfield 10, 3) := by decide +kernel
theorem dX6_piece_118 : decode cX6_piece 118 = .ok (.getfield 179, 3) := by decide +kernel
theorem dX6_piece_121 : decode cX6_piece 121 = .ok (.iload 6, 2) := by decide +kernel
theorem dX6_piece_123 : decode cX6_piece 123 = .ok (.iload 5, 2) := by decide +kernel
theorem dX6_piece_125 : decode cX6_piece 125 = .ok (.iastore, 1) := by decide +kernel
theorem dX6_piece_126 : decode cX6_piece 126 = .ok (.aload_n 0, 1) := by decide +kernel
theorem dX6_piece_127 : decode cX6_piece 127 = .ok (.getfield 10, 3) := by decide +kernel
theorem dX6_piece_130 : decode cX6_piece 130 = .ok (.iload 6, 2) := by decide +kernel
theorem dX6_piece_132 : decode cX6_piece 132 = .ok (.iconst 1, 1) := by decide +kernel
theorem dX6_piece_133 : decode cX6_piece 133 = .ok (.iadd, 1) := by decide +kernel
theorem dX6_piece_134 : decode cX6_piece 134 = .ok (.putfield 164, 3) := by decide +kernel
theorem dX6_piece_137 : decode cX6_piece 137 = .ok (.aload_n 0, 1) := by decide +kernel
theorem dX6_piece_138 : decode cX6_piece 138 = .ok (.invokevirtual 91, 3) := by decide +kernel
theorem dX6_piece_141 : decode cX6_piece 141 = .ok (.iload 6, 2) := by decide +kernel
theorem dX6_piece_143 : decode cX6_piece 143 = .ok (.ireturn, 1) := by decide +kernel
abbrev W_X6_piece (cyI cyJ cyO : ClassId) (h_o h_told h_seas h_kept h_walk h_trial h_ends h_otherEnds h_tape a_sheets a_told_settings a_told_howFar a_told_tones a_told_currents a_told_warmths a_told_depths a_told_fars a_told_pieceCells a_told_pieceMonths a_told_pieceHighs a_told_pieceAges a_told_pieceNeeds a_told_dragCells a_told_dragEighths a_seas_known : Nat) (o_hasImage : Int32) (o_walkIsOld : Int32) (o_endsAreOld : Int32) (told_pieceCount : Int32) (told_dragCount : Int32) (told_pieceCells : Nat → Int32) (told_pieceMonths : Nat → Int32) (told_pieceHighs : Nat → Int32) (told_pieceAges : Nat → Int32) (told_pieceNeeds : Nat → Int32) (seas_known : Nat → Int32) : va_W := [(h_o, .inr (6, [.ref h_told, .ref h_kept, .ref h_walk, .ref h_trial, .ref h_seas, .ref h_ends, .ref h_otherEnds, .ref h_tape, .ref a_sheets, .int o_hasImage, .int o_walkIsOld, .int o_endsAreOld])), (h_told, .inr (4, [.ref a_told_settings, .ref a_told_howFar, .ref a_told_tones, .ref a_told_currents, .ref a_told_warmths, .ref a_told_depths, .ref a_told_fars, .ref a_told_pieceCells, .ref a_told_pieceMonths, .ref a_told_pieceHighs, .ref a_told_pieceAges, .ref a_told_pieceNeeds, .ref a_told_dragCells, .ref a_told_dragEighths, .int told_pieceCount, .int told_dragCount])), (a_told_pieceCells, .inl (cyI, 4, .inl told_pieceCells)), (a_told_pieceMonths, .inl (cyI, 4, .inl told_pieceMonths)), (a_told_pieceHighs, .inl (cyI, 4, .inl told_pieceHighs)), (a_told_pieceAges, .inl (cyI, 4, .inl told_pieceAges)), (a_told_pieceNeeds, .inl (cyI, 4, .inl told_pieceNeeds)), (h_seas, .inr (1, [.ref h_told, .ref a_seas_known])), (a_seas_known, .inl (cyI, 400, .inl seas_known))]
def f_X6_piece (x1 : Int32) (x2 : Int32) (x3 : Int32) (x4 : Int32) (x5 : Int32) (o_endsAreOld : Int32) (told_pieceCount : Int32) (told_pieceCells : Nat → Int32) (told_pieceMonths : Nat → Int32) (told_pieceHighs : Nat → Int32) (told_pieceAges : Nat → Int32) (told_pieceNeeds : Nat → Int32) (seas_known : Nat → Int32) : Option (Int32 × Int32 × Int32 × (Nat → Int32) × (Nat → Int32) × (Nat → Int32) × (Nat → Int32) × (Nat → Int32) × (Nat → Int32)) :=
  bd1 (f_X6_isCell x1) fun r_1 =>
  if r_1 = 0 then
    some ((-1), o_endsAreOld, told_pieceCount, told_pieceCells, told_pieceMonths, told_pieceHighs, told_pieceAges, told_pieceNeeds, seas_known)
  else
    bd1 (f_X6_within x2 1 24) fun r_2 =>
    if r_2 = 0 then
      some ((-1), o_endsAreOld, told_pieceCount, told_pieceCells, told_pieceMonths, told_pieceHighs, told_pieceAges, told_pieceNeeds, seas_known)
    else
      bd1 (f_X6_within x3 0 1) fun r_3 =>
      if r_3 = 0 then
        some ((-1), o_endsAreOld, told_pieceCount, told_pieceCells, told_pieceMonths, told_pieceHighs, told_pieceAges, told_pieceNeeds, seas_known)
      else
        bd1 (f_X6_within x4 0 x2) fun r_4 =>
        if r_4 = 0 then
          some ((-1), o_endsAreOld, told_pieceCount, told_pieceCells, told_pieceMonths, told_pieceHighs, told_pieceAges, told_pieceNeeds, seas_known)
        else
          bd1 (f_X6_within x5 0 9) fun r_5 =>
          if r_5 = 0 then
            some ((-1), o_endsAreOld, told_pieceCount, told_pieceCells, told_pieceMonths, told_pieceHighs, told_pieceAges, told_pieceNeeds, seas_known)
          else
            if told_pieceCount < 4 then
              chk (¬ (told_pieceCount < 0 ∨ 4 ≤ told_pieceCount.toNatClampNeg)) <|
              chk (¬ (told_pieceCount < 0 ∨ 4 ≤ told_pieceCount.toNatClampNeg)) <|
              chk (¬ (told_pieceCount < 0 ∨ 4 ≤ told_pieceCount.toNatClampNeg)) <|
              chk (¬ (told_pieceCount < 0 ∨ 4 ≤ told_pieceCount.toNatClampNeg)) <|
              chk (¬ (told_pieceCount < 0 ∨ 4 ≤ told_pieceCount.toNatClampNeg)) <|
              nm (told_pieceCount + 1) fun x_6 =>
              bd2 (f_X6_seaChanged o_endsAreOld seas_known) fun w_7 w_8 =>
              some (told_pieceCount, w_7, x_6, upd told_pieceCells told_pieceCount.toNatClampNeg x1, upd told_pieceMonths told_pieceCount.toNatClampNeg x2, upd told_pieceHighs told_pieceCount.toNatClampNeg x3, upd told_pieceAges told_pieceCount.toNatClampNeg x4, upd told_pieceNeeds told_pieceCount.toNatClampNeg x5, w_8)
            else
              some ((-3), o_endsAreOld, told_pieceCount, told_pieceCells, told_pieceMonths, told_pieceHighs, told_pieceAges, told_pieceNeeds, seas_known)
abbrev rm_X6_piece : Room := { frames := 2, cells := 0, slots := 0, locals := 41 }
set_option maxRecDepth 100000 in
set_option maxHeartbeats 4000000 in
theorem c_X6_piece (l : Launch) (dC : Nat → ClassId) (dI : Nat → Nat → Nat) (cyI cyJ cyO : ClassId) (sz : Nat) (h_o h_told h_seas h_kept h_walk h_trial h_ends h_otherEnds h_tape a_sheets a_told_settings a_told_howFar a_told_tones a_told_currents a_told_warmths a_told_depths a_told_fars a_told_pieceCells a_told_pieceMonths a_told_pieceHighs a_told_pieceAges a_told_pieceNeeds a_told_dragCells a_told_dragEighths a_seas_known : Nat) (o_hasImage : Int32) (o_walkIsOld : Int32) (o_endsAreOld : Int32) (told_pieceCount : Int32) (told_dragCount : Int32) (told_pieceCells : Nat → Int32) (told_pieceMonths : Nat → Int32) (told_pieceHighs : Nat → Int32) (told_pieceAges : Nat → Int32) (told_pieceNeeds : Nat → Int32) (seas_known : Nat → Int32) (x1 : Int32) (x2 : Int32) (x3 : Int32) (x4 : Int32) (x5 : Int32) (post : (Int32 × Int32 × Int32 × (Nat → Int32) × (Nat → Int32) × (Nat → Int32) × (Nat → Int32) × (Nat → Int32) × (Nat → Int32)) → Prop) (hf : okP (f_X6_piece x1 x2 x3 x4 x5 o_endsAreOld told_pieceCount told_pieceCells told_pieceMonths told_pieceHighs told_pieceAges told_pieceNeeds seas_known) post) : Ci l (dC, dI) (tyL cyI cyJ cyO) yX6_piece wsX6_piece rm_X6_piece [.ref h_o, .int x1, .int x2, .int x3, .int x4, .int x5] sz (W_X6_piece cyI cyJ cyO h_o h_told h_seas h_kept h_walk h_trial h_ends h_otherEnds h_tape a_sheets a_told_settings a_told_howFar a_told_tones a_told_currents a_told_warmths a_told_depths a_told_fars a_told_pieceCells a_told_pieceMonths a_told_pieceHighs a_told_pieceAges a_told_pieceNeeds a_told_dragCells a_told_dragEighths a_seas_known o_hasImage o_walkIsOld o_endsAreOld told_pieceCount told_dragCount told_pieceCells told_pieceMonths told_pieceHighs told_pieceAges told_pieceNeeds seas_known) zN (fun r u => post (r, u)) (fun u => (W_X6_piece cyI cyJ cyO h_o h_told h_seas h_kept h_walk h_trial h_ends h_otherEnds h_tape a_sheets a_told_settings a_told_howFar a_told_tones a_told_currents a_told_warmths a_told_depths a_told_fars a_told_pieceCells a_told_pieceMonths a_told_pieceHighs a_told_pieceAges a_told_pieceNeeds a_told_dragCells a_told_dragEighths a_seas_known o_hasImage o_walkIsOld u.1 u.2.1 told_dragCount u.2.2.1 u.2.2.2.1 u.2.2.2.2.1 u.2.2.2.2.2.1 u.2.2.2.2.2.2.1 u.2.2.2.2.2.2.2)) := by
  refine Met.ofW (cc := cX6_piece) (maxL := 7) (ret := (some .int)) (by decide) rfl ?_
  intro p e s m args below meth c s₁ B hml hv
  obtain ⟨rfl, hsz, hP, hK, hD0, hZ⟩ := hv
  have hx := B.exec
  have hb := B.bytes
  have hr := B.returns
  have hts := atoms_spec (ws := wsX6_piece) B.pre
  have hown : s.vm.findClass RX6 = some m.cls := findClass_of_methodNamed B.named
  have hlocks := B.notSynchronized
  subst hsz
  have hD := hD0.self (sz := s.heap.size)
  generalize hAe : va_A (W_X6_piece cyI cyJ cyO h_o h_told h_seas h_kept h_walk h_trial h_ends h_otherEnds h_tape a_sheets a_told_settings a_told_howFar a_told_tones a_told_currents a_told_warmths a_told_depths a_told_fars a_told_pieceCells a_told_pieceMonths a_told_pieceHighs a_told_pieceAges a_told_pieceNeeds a_told_dragCells a_told_dragEighths a_seas_known o_hasImage o_walkIsOld o_endsAreOld told_pieceCount told_dragCount told_pieceCells told_pieceMonths told_pieceHighs told_pieceAges told_pieceNeeds seas_known) s.heap.size = A at hD hZ ⊢
  have hA : ∀ q : Nat, s.heap.size ≤ q → A q := fun q h => by rw [← hAe]; exact Or.inr h
  clear hAe hD0
  have hS : va_S A s.heap s.heap [] := va_S.rf
  have hl := lv_entry ([.ref h_o, .int x1, .int x2, .int x3, .int x4, .int x5]) (n := 7) (Nat.le_of_ble_eq_true rfl)
  rw [lg_entry_eq]
  generalize (lg_sl ([.ref h_o, .int x1, .int x2, .int x3, .int x4, .int x5]) ++ List.replicate (7 - (lg_sl ([.ref h_o, .int x1, .int x2, .int x3, .int x4, .int x5])).length) Slot.unset).toArray = ls at hl ⊢
  have hl : lv_has ls 7 [(0, .ref h_o), (1, .int x1), (2, .int x2), (3, .int x3), (4, .int x4), (5, .int x5)] := hl
  refine kW (fun Q hQ => ?_)
  have hq0 := hts _ (List.mem_cons_of_mem _ q_270)
  have hi6 : ∀ w ∈ u_ws RX6 TX6 12, w ∈ wsX6_piece := fun w h => List.mem_cons_of_mem _ (inX6 w h)
  have hq2 := hts _ (List.mem_cons_of_mem _ q_74)
  have hi4 : ∀ w ∈ u_ws RX4 TX4 16, w ∈ wsX6_piece := fun w h => List.mem_cons_of_mem _ (inX4 w h)
  have hq4 := hts _ (List.mem_cons_of_mem _ q_55)
  have hq5 := hts _ (List.mem_cons_of_mem _ q_58)
  have hq6 := hts _ (List.mem_cons_of_mem _ q_61)
  have hq7 := hts _ (List.mem_cons_of_mem _ q_64)
  have hq8 := hts _ (List.mem_cons_of_mem _ q_67)
  have hw := hf
  unfold f_X6_piece at hw
  have hP : va_P (dC, dI) vwCl (W_X6_piece cyI cyJ cyO h_o h_told h_seas h_kept h_walk h_trial h_ends h_otherEnds h_tape a_sheets a_told_settings a_told_howFar a_told_tones a_told_currents a_told_warmths a_told_depths a_told_fars a_told_pieceCells a_told_pieceMonths a_told_pieceHighs a_told_pieceAges a_told_pieceNeeds a_told_dragCells a_told_dragEighths a_seas_known o_hasImage o_walkIsOld o_endsAreOld told_pieceCount told_dragCount told_pieceCells told_pieceMonths told_pieceHighs told_pieceAges told_pieceNeeds seas_known) s.heap := hP
  obtain ⟨H, hH⟩ : ∃ H, H = s.heap := ⟨_, rfl⟩
  obtain ⟨locs, hlo⟩ : ∃ x : List Loc, x = [] := ⟨_, rfl⟩
  have hP : va_P (dC, dI) vwCl (W_X6_piece cyI cyJ cyO h_o h_told h_seas h_kept h_walk h_trial h_ends h_otherEnds h_tape a_sheets a_told_settings a_told_howFar a_told_tones a_told_currents a_told_warmths a_told_depths a_told_fars a_told_pieceCells a_told_pieceMonths a_told_pieceHighs a_told_pieceAges a_told_pieceNeeds a_told_dragCells a_told_dragEighths a_seas_known o_hasImage o_walkIsOld o_endsAreOld told_pieceCount told_dragCount told_pieceCells told_pieceMonths told_pieceHighs told_pieceAges told_pieceNeeds seas_known) H := by rw [hH]; exact hP
  have hS : va_S A s.heap H locs := by rw [hH, hlo]; exact hS
  refine kH hH hlo ?_
  clear hH hlo
  refine lv_iload_n hx hb dX6_piece_0 rfl (lv_at hl 1 rfl) ?_
  have hFc := va_free (wc := []) hD hS hA [] rfl
  refine kp_i (va_runS (As := [.int x1]) (rest := []) ⟨hx, hb, hml, hown, hts⟩ (c_X6_isCell l dC dI cyI cyJ cyO H.size x1 _ (okb1 hw)) (va_cwS 1 hts (gdS (fun w h => List.mem_cons_of_mem _ h) q_332 q_333 q_1 q_334) rfl rfl rfl (by decide +kernel) ⟨Nat.le_of_ble_eq_true rfl, Nat.le_of_ble_eq_true rfl⟩) (kpre zN_ok hK va_P0 va_D0 trivial hS hFc) rfl rfl hl.1 rfl (lv_room (Nat.le_of_ble_eq_true rfl)) dX6_piece_1 ⟨Nat.le_of_ble_eq_true rfl, Nat.le_of_ble_eq_true rfl⟩) hP hD hS hFc (fun r_1 H locs hw hP hS => ?_)
  try dsimp only at hw
  clear hFc
  refine lv_if_eq (tgt := 26) hx hb dX6_piece_4 (by decide) (fun c_2 => ?_) (fun c_2 => ?_)
  · replace hw := okT hw c_2
    clear c_2
    refine lv_iconst (v := (-1)) hx hb dX6_piece_26 (by decide) ?_
    rw [hQ]
    exact W.iret (v := (-1)) hx hb hr (fun t ht hW => ⟨⟨(-1), (o_endsAreOld, told_pieceCount, told_pieceCells, told_pieceMonths, told_pieceHighs, told_pieceAges, told_pieceNeeds, seas_known), rfl, okS hw, by rw [ht]; exact hP, va_K.moved hW.alike hK, hD⟩, hS.F ht⟩) hS.2.2 dX6_piece_27
  · replace hw := okF hw c_2
    clear c_2
    refine lv_iload_n hx hb dX6_piece_7 rfl (lv_at hl 2 rfl) ?_
    refine lv_iconst (v := 1) hx hb dX6_piece_8 (by decide) ?_
    refine lv_bipush (v := 24) hx hb dX6_piece_9 (by decide) ?_
    have hFc := va_free (wc := []) hD hS hA [] rfl
    refine kp_i (va_runS (As := [.int x2, .int 1, .int 24]) (rest := []) ⟨hx, hb, hml, hown, hts⟩ (c_X6_within l dC dI cyI cyJ cyO H.size x2 1 24 _ (okb1 hw)) (va_cwS 3 hts (gdS (fun w h => List.mem_cons_of_mem _ h) q_311 q_312 q_1 q_313) rfl rfl rfl (by decide +kernel) ⟨Nat.le_of_ble_eq_true rfl, Nat.le_of_ble_eq_true rfl⟩) (kpre zN_ok hK va_P0 va_D0 trivial hS hFc) rfl rfl hl.1 rfl (lv_room (Nat.le_of_ble_eq_true rfl)) dX6_piece_11 ⟨Nat.le_of_ble_eq_true rfl, Nat.le_of_ble_eq_true rfl⟩) hP hD hS hFc (fun r_3 H locs hw hP hS => ?_)
    try dsimp only at hw
    clear hFc
    refine lv_if_eq (tgt := 26) hx hb dX6_piece_14 (by decide) (fun c_4 => ?_) (fun c_4 => ?_)
    · replace hw := okT hw c_4
      clear c_4
      refine lv_iconst (v := (-1)) hx hb dX6_piece_26 (by decide) ?_
      rw [hQ]
      exact W.iret (v := (-1)) hx hb hr (fun t ht hW => ⟨⟨(-1), (o_endsAreOld, told_pieceCount, told_pieceCells, told_pieceMonths, told_pieceHighs, told_pieceAges, told_pieceNeeds, seas_known), rfl, okS hw, by rw [ht]; exact hP, va_K.moved hW.alike hK, hD⟩, hS.F ht⟩) hS.2.2 dX6_piece_27
    · replace hw := okF hw c_4
      clear c_4
      refine lv_iload_n hx hb dX6_piece_17 rfl (lv_at hl 3 rfl) ?_
      refine lv_iconst (v := 0) hx hb dX6_piece_18 (by decide) ?_
      refine lv_iconst (v := 1) hx hb dX6_piece_19 (by decide) ?_
      have hFc := va_free (wc := []) hD hS hA [] rfl
      refine kp_i (va_runS (As := [.int x3, .int 0, .int 1]) (rest := []) ⟨hx, hb, hml, hown, hts⟩ (c_X6_within l dC dI cyI cyJ cyO H.size x3 0 1 _ (okb1 hw)) (va_cwS 3 hts (gdS (fun w h => List.mem_cons_of_mem _ h) q_311 q_312 q_1 q_313) rfl rfl rfl (by decide +kernel) ⟨Nat.le_of_ble_eq_true rfl, Nat.le_of_ble_eq_true rfl⟩) (kpre zN_ok hK va_P0 va_D0 trivial hS hFc) rfl rfl hl.1 rfl (lv_room (Nat.le_of_ble_eq_true rfl)) dX6_piece_20 ⟨Nat.le_of_ble_eq_true rfl, Nat.le_of_ble_eq_true rfl⟩) hP hD hS hFc (fun r_5 H locs hw hP hS => ?_)
      try dsimp only at hw
      clear hFc
      refine lv_if_ne (tgt := 28) hx hb dX6_piece_23 (by decide) (fun c_6 => ?_) (fun c_6 => ?_)
      · replace hw := okF hw c_6
        clear c_6
        refine lv_iload hx hb dX6_piece_28 (lv_at hl 4 rfl) ?_
        refine lv_iconst (v := 0) hx hb dX6_piece_30 (by decide) ?_
        refine lv_iload_n hx hb dX6_piece_31 rfl (lv_at hl 2 rfl) ?_
        have hFc := va_free (wc := []) hD hS hA [] rfl
        refine kp_i (va_runS (As := [.int x4, .int 0, .int x2]) (rest := []) ⟨hx, hb, hml, hown, hts⟩ (c_X6_within l dC dI cyI cyJ cyO H.size x4 0 x2 _ (okb1 hw)) (va_cwS 3 hts (gdS (fun w h => List.mem_cons_of_mem _ h) q_311 q_312 q_1 q_313) rfl rfl rfl (by decide +kernel) ⟨Nat.le_of_ble_eq_true rfl, Nat.le_of_ble_eq_true rfl⟩) (kpre zN_ok hK va_P0 va_D0 trivial hS hFc) rfl rfl hl.1 rfl (lv_room (Nat.le_of_ble_eq_true rfl)) dX6_piece_32 ⟨Nat.le_of_ble_eq_true rfl, Nat.le_of_ble_eq_true rfl⟩) hP hD hS hFc (fun r_7 H locs hw hP hS => ?_)
        try dsimp only at hw
        clear hFc
        refine lv_if_eq (tgt := 49) hx hb dX6_piece_35 (by decide) (fun c_8 => ?_) (fun c_8 => ?_)
        · replace hw := okT hw c_8
          clear c_8
          refine lv_iconst (v := (-1)) hx hb dX6_piece_49 (by decide) ?_
          rw [hQ]
          exact W.iret (v := (-1)) hx hb hr (fun t ht hW => ⟨⟨(-1), (o_endsAreOld, told_pieceCount, told_pieceCells, told_pieceMonths, told_pieceHighs, told_pieceAges, told_pieceNeeds, seas_known), rfl, okS hw, by rw [ht]; exact hP, va_K.moved hW.alike hK, hD⟩, hS.F ht⟩) hS.2.2 dX6_piece_50
        · replace hw := okF hw c_8
          clear c_8
          refine lv_iload hx hb dX6_piece_38 (lv_at hl 5 rfl) ?_
          refine lv_iconst (v := 0) hx hb dX6_piece_40 (by decide) ?_
          refine lv_bipush (v := 9) hx hb dX6_piece_41 (by decide) ?_
          have hFc := va_free (wc := []) hD hS hA [] rfl
          refine kp_i (va_runS (As := [.int x5, .int 0, .int 9]) (rest := []) ⟨hx, hb, hml, hown, hts⟩ (c_X6_within l dC dI cyI cyJ cyO H.size x5 0 9 _ (okb1 hw)) (va_cwS 3 hts (gdS (fun w h => List.mem_cons_of_mem _ h) q_311 q_312 q_1 q_313) rfl rfl rfl (by decide +kernel) ⟨Nat.le_of_ble_eq_true rfl, Nat.le_of_ble_eq_true rfl⟩) (kpre zN_ok hK va_P0 va_D0 trivial hS hFc) rfl rfl hl.1 rfl (lv_room (Nat.le_of_ble_eq_true rfl)) dX6_piece_43 ⟨Nat.le_of_ble_eq_true rfl, Nat.le_of_ble_eq_true rfl⟩) hP hD hS hFc (fun r_9 H locs hw hP hS => ?_)
          try dsimp only at hw
          clear hFc
          refine lv_if_ne (tgt := 51) hx hb dX6_piece_46 (by decide) (fun c_10 => ?_) (fun c_10 => ?_)
          · replace hw := okF hw c_10
            clear c_10
            refine lv_aload_n hx hb dX6_piece_51 rfl (lv_at hl 0 rfl) ?_
            refine va_get (D := (dC, dI)) (ci := 6) (v := .ref h_told) (C := RX6) (T := TX6) (N := 12) hx hb hts hi6 hown hK hP 0 rfl rfl 0 (by decide) hq0 (fun _ h9 => h9) rfl dX6_piece_52 ?_
            refine va_get (D := (dC, dI)) (ci := 4) (v := .int told_pieceCount) (C := RX4) (T := TX4) (N := 16) hx hb hts hi4 hown hK hP 1 rfl rfl 14 (by decide) hq2 (fun _ h9 => h9) rfl dX6_piece_55 ?_
            refine lv_istore (lv' := [(6, .int told_pieceCount), (0, .ref h_o), (1, .int x1), (2, .int x2), (3, .int x3), (4, .int x4), (5, .int x5)]) hx hb dX6_piece_58 hl (by decide) rfl (fun ls hl => ?_)
            refine lv_iload hx hb dX6_piece_60 (lv_at hl 0 rfl) ?_
            refine lv_iconst (v := 4) hx hb dX6_piece_62 (by decide) ?_
            refine lv_icmp_lt (tgt := 69) hx hb dX6_piece_63 (by decide) (fun c_11 => ?_) (fun c_11 => ?_)
            · replace hw := okT hw c_11
              clear c_11
              refine lv_aload_n hx hb dX6_piece_69 rfl (lv_at hl 1 rfl) ?_
              refine va_get (D := (dC, dI)) (ci := 6) (v := .ref h_told) (C := RX6) (T := TX6) (N := 12) hx hb hts hi6 hown hK hP 0 rfl rfl 0 (by decide) hq0 (fun _ h9 => h9) rfl dX6_piece_70 ?_
              refine va_get (D := (dC, dI)) (ci := 4) (v := .ref a_told_pieceCells) (C := RX4) (T := TX4) (N := 16) hx hb hts hi4 hown hK hP 1 rfl rfl 7 (by decide) hq4 (fun _ h9 => h9) rfl dX6_piece_73 ?_
              refine lv_iload hx hb dX6_piece_76 (lv_at hl 0 rfl) ?_
              refine lv_iload_n hx hb dX6_piece_78 rfl (lv_at hl 2 rfl) ?_
              obtain ⟨h_12, hw⟩ := okC hw
              refine va_iast (i := told_pieceCount) (x := x1) hx hb hK hP hD hS 2 0 rfl rfl h_12 dX6_piece_79 (fun H locs hP hD hS => ?_)
              have hP : va_P (dC, dI) vwCl (W_X6_piece cyI cyJ cyO h_o h_told h_seas h_kept h_walk h_trial h_ends h_otherEnds h_tape a_sheets a_told_settings a_told_howFar a_told_tones a_told_currents a_told_warmths a_told_depths a_told_fars a_told_pieceCells a_told_pieceMonths a_told_pieceHighs a_told_pieceAges a_told_pieceNeeds a_told_dragCells a_told_dragEighths a_seas_known o_hasImage o_walkIsOld o_endsAreOld told_pieceCount told_dragCount (upd told_pieceCells told_pieceCount.toNatClampNeg x1) told_pieceMonths told_pieceHighs told_pieceAges told_pieceNeeds seas_known) H := hP
              have hD : va_D A (W_X6_piece cyI cyJ cyO h_o h_told h_seas h_kept h_walk h_trial h_ends h_otherEnds h_tape a_sheets a_told_settings a_told_howFar a_told_tones a_told_currents a_told_warmths a_told_depths a_told_fars a_told_pieceCells a_told_pieceMonths a_told_pieceHighs a_told_pieceAges a_told_pieceNeeds a_told_dragCells a_told_dragEighths a_seas_known o_hasImage o_walkIsOld o_endsAreOld told_pieceCount told_dragCount (upd told_pieceCells told_pieceCount.toNatClampNeg x1) told_pieceMonths told_pieceHighs told_pieceAges told_pieceNeeds seas_known) := hD
              refine lv_aload_n hx hb dX6_piece_80 rfl (lv_at hl 1 rfl) ?_
              refine va_get (D := (dC, dI)) (ci := 6) (v := .ref h_told) (C := RX6) (T := TX6) (N := 12) hx hb hts hi6 hown hK hP 0 rfl rfl 0 (by decide) hq0 (fun _ h9 => h9) rfl dX6_piece_81 ?_
              refine va_get (D := (dC, dI)) (ci := 4) (v := .ref a_told_pieceMonths) (C := RX4) (T := TX4) (N := 16) hx hb hts hi4 hown hK hP 1 rfl rfl 8 (by decide) hq5 (fun _ h9 => h9) rfl dX6_piece_84 ?_
              refine lv_iload hx hb dX6_piece_87 (lv_at hl 0 rfl) ?_
              refine lv_iload_n hx hb dX6_piece_89 rfl (lv_at hl 3 rfl) ?_
              obtain ⟨h_13, hw⟩ := okC hw
              refine va_iast (i := told_pieceCount) (x := x2) hx hb hK hP hD hS 3 0 rfl rfl h_13 dX6_piece_90 (fun H locs hP hD hS => ?_)
              have hP : va_P (dC, dI) vwCl (W_X6_piece cyI cyJ cyO h_o h_told h_seas h_kept h_walk h_trial h_ends h_otherEnds h_tape a_sheets a_told_settings a_told_howFar a_told_tones a_told_currents a_told_warmths a_told_depths a_told_fars a_told_pieceCells a_told_pieceMonths a_told_pieceHighs a_told_pieceAges a_told_pieceNeeds a_told_dragCells a_told_dragEighths a_seas_known o_hasImage o_walkIsOld o_endsAreOld told_pieceCount told_dragCount (upd told_pieceCells told_pieceCount.toNatClampNeg x1) (upd told_pieceMonths told_pieceCount.toNatClampNeg x2) told_pieceHighs told_pieceAges told_pieceNeeds seas_known) H := hP
              have hD : va_D A (W_X6_piece cyI cyJ cyO h_o h_told h_seas h_kept h_walk h_trial h_ends h_otherEnds h_tape a_sheets a_told_settings a_told_howFar a_told_tones a_told_currents a_told_warmths a_told_depths a_told_fars a_told_pieceCells a_told_pieceMonths a_told_pieceHighs a_told_pieceAges a_told_pieceNeeds a_told_dragCells a_told_dragEighths a_seas_known o_hasImage o_walkIsOld o_endsAreOld told_pieceCount told_dragCount (upd told_pieceCells told_pieceCount.toNatClampNeg x1) (upd told_pieceMonths told_pieceCount.toNatClampNeg x2) told_pieceHighs told_pieceAges told_pieceNeeds seas_known) := hD
              refine lv_aload_n hx hb dX6_piece_91 rfl (lv_at hl 1 rfl) ?_
              refine va_get (D := (dC, dI)) (ci := 6) (v := .ref h_told) (C := RX6) (T := TX6) (N := 12) hx hb hts hi6 hown hK hP 0 rfl rfl 0 (by decide) hq0 (fun _ h9 => h9) rfl dX6_piece_92 ?_
              refine va_get (D := (dC, dI)) (ci := 4) (v := .ref a_told_pieceHighs) (C := RX4) (T := TX4) (N := 16) hx hb hts hi4 hown hK hP 1 rfl rfl 9 (by decide) hq6 (fun _ h9 => h9) rfl dX6_piece_95 ?_
              refine lv_iload hx hb dX6_piece_98 (lv_at hl 0 rfl) ?_
              refine lv_iload_n hx hb dX6_piece_100 rfl (lv_at hl 4 rfl) ?_
              obtain ⟨h_14, hw⟩ := okC hw
              refine va_iast (i := told_pieceCount) (x := x3) hx hb hK hP hD hS 4 0 rfl rfl h_14 dX6_piece_101 (fun H locs hP hD hS => ?_)
              have hP : va_P (dC, dI) vwCl (W_X6_piece cyI cyJ cyO h_o h_told h_seas h_kept h_walk h_trial h_ends h_otherEnds h_tape a_sheets a_told_settings a_told_howFar a_told_tones a_told_currents a_told_warmths a_told_depths a_told_fars a_told_pieceCells a_told_pieceMonths a_told_pieceHighs a_told_pieceAges a_told_pieceNeeds a_told_dragCells a_told_dragEighths a_seas_known o_hasImage o_walkIsOld o_endsAreOld told_pieceCount told_dragCount (upd told_pieceCells told_pieceCount.toNatClampNeg x1) (upd told_pieceMonths told_pieceCount.toNatClampNeg x2) (upd told_pieceHighs told_pieceCount.toNatClampNeg x3) told_pieceAges told_pieceNeeds seas_known) H := hP
              have hD : va_D A (W_X6_piece cyI cyJ cyO h_o h_told h_seas h_kept h_walk h_trial h_ends h_otherEnds h_tape a_sheets a_told_settings a_told_howFar a_told_tones a_told_currents a_told_warmths a_told_depths a_told_fars a_told_pieceCells a_told_pieceMonths a_told_pieceHighs a_told_pieceAges a_told_pieceNeeds a_told_dragCells a_told_dragEighths a_seas_known o_hasImage o_walkIsOld o_endsAreOld told_pieceCount told_dragCount (upd told_pieceCells told_pieceCount.toNatClampNeg x1) (upd told_pieceMonths told_pieceCount.toNatClampNeg x2) (upd told_pieceHighs told_pieceCount.toNatClampNeg x3) told_pieceAges told_pieceNeeds seas_known) := hD
              refine lv_aload_n hx hb dX6_piece_102 rfl (lv_at hl 1 rfl) ?_
              refine va_get (D := (dC, dI)) (ci := 6) (v := .ref h_told) (C := RX6) (T := TX6) (N := 12) hx hb hts hi6 hown hK hP 0 rfl rfl 0 (by decide) hq0 (fun _ h9 => h9) rfl dX6_piece_103 ?_
              refine va_get (D := (dC, dI)) (ci := 4) (v := .ref a_told_pieceAges) (C := RX4) (T := TX4) (N := 16) hx hb hts hi4 hown hK hP 1 rfl rfl 10 (by decide) hq7 (fun _ h9 => h9) rfl dX6_piece_106 ?_
              refine lv_iload hx hb dX6_piece_109 (lv_at hl 0 rfl) ?_
              refine lv_iload hx hb dX6_piece_111 (lv_at hl 5 rfl) ?_
              obtain ⟨h_15, hw⟩ := okC hw
              refine va_iast (i := told_pieceCount) (x := x4) hx hb hK hP hD hS 5 0 rfl rfl h_15 dX6_piece_113 (fun H locs hP hD hS => ?_)
              have hP : va_P (dC, dI) vwCl (W_X6_piece cyI cyJ cyO h_o h_told h_seas h_kept h_walk h_trial h_ends h_otherEnds h_tape a_sheets a_told_settings a_told_howFar a_told_tones a_told_currents a_told_warmths a_told_depths a_told_fars a_told_pieceCells a_told_pieceMonths a_told_pieceHighs a_told_pieceAges a_told_pieceNeeds a_told_dragCells a_told_dragEighths a_seas_known o_hasImage o_walkIsOld o_endsAreOld told_pieceCount told_dragCount (upd told_pieceCells told_pieceCount.toNatClampNeg x1) (upd told_pieceMonths told_pieceCount.toNatClampNeg x2) (upd told_pieceHighs told_pieceCount.toNatClampNeg x3) (upd told_pieceAges told_pieceCount.toNatClampNeg x4) told_pieceNeeds seas_known) H := hP
              have hD : va_D A (W_X6_piece cyI cyJ cyO h_o h_told h_seas h_kept h_walk h_trial h_ends h_otherEnds h_tape a_sheets a_told_settings a_told_howFar a_told_tones a_told_currents a_told_warmths a_told_depths a_told_fars a_told_pieceCells a_told_pieceMonths a_told_pieceHighs a_told_pieceAges a_told_pieceNeeds a_told_dragCells a_told_dragEighths a_seas_known o_hasImage o_walkIsOld o_endsAreOld told_pieceCount told_dragCount (upd told_pieceCells told_pieceCount.toNatClampNeg x1) (upd told_pieceMonths told_pieceCount.toNatClampNeg x2) (upd told_pieceHighs told_pieceCount.toNatClampNeg x3) (upd told_pieceAges told_pieceCount.toNatClampNeg x4) told_pieceNeeds seas_known) := hD
              refine lv_aload_n hx hb dX6_piece_114 rfl (lv_at hl 1 rfl) ?_
              refine va_get (D := (dC, dI)) (ci := 6) (v := .ref h_told) (C := RX6) (T := TX6) (N := 12) hx hb hts hi6 hown hK hP 0 rfl rfl 0 (by decide) hq0 (fun _ h9 => h9) rfl dX6_piece_115 ?_
              refine va_get (D := (dC, dI)) (ci := 4) (v := .ref a_told_pieceNeeds) (C := RX4) (T := TX4) (N := 16) hx hb hts hi4 hown hK hP 1 rfl rfl 11 (by decide) hq8 (fun _ h9 => h9) rfl dX6_piece_118 ?_
              refine lv_iload hx hb dX6_piece_121 (lv_at hl 0 rfl) ?_
              refine lv_iload hx hb dX6_piece_123 (lv_at hl 6 rfl) ?_
              obtain ⟨h_16, hw⟩ := okC hw
              refine va_iast (i := told_pieceCount) (x := x5) hx hb hK hP hD hS 6 0 rfl rfl h_16 dX6_piece_125 (fun H locs hP hD hS => ?_)
              have hP : va_P (dC, dI) vwCl (W_X6_piece cyI cyJ cyO h_o h_told h_seas h_kept h_walk h_trial h_ends h_otherEnds h_tape a_sheets a_told_settings a_told_howFar a_told_tones a_told_currents a_told_warmths a_told_depths a_told_fars a_told_pieceCells a_told_pieceMonths a_told_pieceHighs a_told_pieceAges a_told_pieceNeeds a_told_dragCells a_told_dragEighths a_seas_known o_hasImage o_walkIsOld o_endsAreOld told_pieceCount told_dragCount (upd told_pieceCells told_pieceCount.toNatClampNeg x1) (upd told_pieceMonths told_pieceCount.toNatClampNeg x2) (upd told_pieceHighs told_pieceCount.toNatClampNeg x3) (upd told_pieceAges told_pieceCount.toNatClampNeg x4) (upd told_pieceNeeds told_pieceCount.toNatClampNeg x5) seas_known) H := hP
              have hD : va_D A (W_X6_piece cyI cyJ cyO h_o h_told h_seas h_kept h_walk h_trial h_ends h_otherEnds h_tape a_sheets a_told_settings a_told_howFar a_told_tones a_told_currents a_told_warmths a_told_depths a_told_fars a_told_pieceCells a_told_pieceMonths a_told_pieceHighs a_told_pieceAges a_told_pieceNeeds a_told_dragCells a_told_dragEighths a_seas_known o_hasImage o_walkIsOld o_endsAreOld told_pieceCount told_dragCount (upd told_pieceCells told_pieceCount.toNatClampNeg x1) (upd told_pieceMonths told_pieceCount.toNatClampNeg x2) (upd told_pieceHighs told_pieceCount.toNatClampNeg x3) (upd told_pieceAges told_pieceCount.toNatClampNeg x4) (upd told_pieceNeeds told_pieceCount.toNatClampNeg x5) seas_known) := hD
              refine lv_aload_n hx hb dX6_piece_126 rfl (lv_at hl 1 rfl) ?_
              refine va_get (D := (dC, dI)) (ci := 6) (v := .ref h_told) (C := RX6) (T := TX6) (N := 12) hx hb hts hi6 hown hK hP 0 rfl rfl 0 (by decide) hq0 (fun _ h9 => h9) rfl dX6_piece_127 ?_
              refine lv_iload hx hb dX6_piece_130 (lv_at hl 0 rfl) ?_
              refine lv_iconst (v := 1) hx hb dX6_piece_132 (by decide) ?_
              refine lv_iadd hx hb dX6_piece_133 ?_
              refine lv_topi (fun x_17 ex_17 => ?_)
              replace hw := okN ex_17 hw
              clear ex_17
              refine va_put (D := (dC, dI)) (ci := 4) (v := .int x_17) (ty := .int) (C := RX4) (T := TX4) (N := 16) hx hb hts hi4 tyX4 tyX4_ok nmX4 hown hK hP hD hS 1 rfl rfl 14 (by decide) hq2 (fun _ h9 => h9) rfl (by decide +kernel) rfl rfl (Nat.le_of_ble_eq_true rfl) dX6_piece_134 (fun H locs hP hD hS => ?_)
              have hP : va_P (dC, dI) vwCl (W_X6_piece cyI cyJ cyO h_o h_told h_seas h_kept h_walk h_trial h_ends h_otherEnds h_tape a_sheets a_told_settings a_told_howFar a_told_tones a_told_currents a_told_warmths a_told_depths a_told_fars a_told_pieceCells a_told_pieceMonths a_told_pieceHighs a_told_pieceAges a_told_pieceNeeds a_told_dragCells a_told_dragEighths a_seas_known o_hasImage o_walkIsOld o_endsAreOld x_17 told_dragCount (upd told_pieceCells told_pieceCount.toNatClampNeg x1) (upd told_pieceMonths told_pieceCount.toNatClampNeg x2) (upd told_pieceHighs told_pieceCount.toNatClampNeg x3) (upd told_pieceAges told_pieceCount.toNatClampNeg x4) (upd told_pieceNeeds told_pieceCount.toNatClampNeg x5) seas_known) H := hP
              have hD : va_D A (W_X6_piece cyI cyJ cyO h_o h_told h_seas h_kept h_walk h_trial h_ends h_otherEnds h_tape a_sheets a_told_settings a_told_howFar a_told_tones a_told_currents a_told_warmths a_told_depths a_told_fars a_told_pieceCells a_told_pieceMonths a_told_pieceHighs a_told_pieceAges a_told_pieceNeeds a_told_dragCells a_told_dragEighths a_seas_known o_hasImage o_walkIsOld o_endsAreOld x_17 told_dragCount (upd told_pieceCells told_pieceCount.toNatClampNeg x1) (upd told_pieceMonths told_pieceCount.toNatClampNeg x2) (upd told_pieceHighs told_pieceCount.toNatClampNeg x3) (upd told_pieceAges told_pieceCount.toNatClampNeg x4) (upd told_pieceNeeds told_pieceCount.toNatClampNeg x5) seas_known) := hD
              refine lv_aload_n hx hb dX6_piece_137 rfl (lv_at hl 1 rfl) ?_
              have hPc := hP.sub (ws' := (W_X6_seaChanged cyI cyJ cyO h_o h_seas h_told h_kept h_walk h_trial h_ends h_otherEnds h_tape a_sheets a_seas_known o_hasImage o_walkIsOld o_endsAreOld seas_known)) [0, 7, 8] rfl
              have hDc := hD.sub (ws' := (W_X6_seaChanged cyI cyJ cyO h_o h_seas h_told h_kept h_walk h_trial h_ends h_otherEnds h_tape a_sheets a_seas_known o_hasImage o_walkIsOld o_endsAreOld seas_known)) [0, 7, 8] (by decide +kernel) rfl
              have hFc := va_free (wc := (W_X6_seaChanged cyI cyJ cyO h_o h_seas h_told h_kept h_walk h_trial h_ends h_otherEnds h_tape a_sheets a_seas_known o_hasImage o_walkIsOld o_endsAreOld seas_known)) hD hS hA [0, 7, 8] rfl
              refine kc_v (wr := [(h_told, .inr (4, [.ref a_told_settings, .ref a_told_howFar, .ref a_told_tones, .ref a_told_currents, .ref a_told_warmths, .ref a_told_depths, .ref a_told_fars, .ref a_told_pieceCells, .ref a_told_pieceMonths, .ref a_told_pieceHighs, .ref a_told_pieceAges, .ref a_told_pieceNeeds, .ref a_told_dragCells, .ref a_told_dragEighths, .int x_17, .int told_dragCount])), (a_told_pieceCells, .inl (cyI, 4, .inl (upd told_pieceCells told_pieceCount.toNatClampNeg x1))), (a_told_pieceMonths, .inl (cyI, 4, .inl (upd told_pieceMonths told_pieceCount.toNatClampNeg x2))), (a_told_pieceHighs, .inl (cyI, 4, .inl (upd told_pieceHighs told_pieceCount.toNatClampNeg x3))), (a_told_pieceAges, .inl (cyI, 4, .inl (upd told_pieceAges told_pieceCount.toNatClampNeg x4))), (a_told_pieceNeeds, .inl (cyI, 4, .inl (upd told_pieceNeeds told_pieceCount.toNatClampNeg x5)))]) (va_runV (As := []) (rest := []) ⟨hx, hb, hml, hown, hts⟩ (c_X6_seaChanged l dC dI cyI cyJ cyO H.size h_o h_seas h_told h_kept h_walk h_trial h_ends h_otherEnds h_tape a_sheets a_seas_known o_hasImage o_walkIsOld o_endsAreOld seas_known _ (okb2 hw)) (cwV 0 hts (gdV (fun w h => List.mem_cons_of_mem _ h) q_319 q_321 qs_0 q_1 q_322) rfl rfl rfl (by decide +kernel) ⟨Nat.le_of_ble_eq_true rfl, Nat.le_of_ble_eq_true rfl⟩) ⟨(kpre zN_ok hK hPc hDc trivial hS hFc).1, va_recv hK hP (ci := 6) (q0 := 0) rfl rfl, (kpre zN_ok hK hPc hDc trivial hS hFc).2⟩ rfl rfl hl.1 rfl (lv_room (Nat.le_of_ble_eq_true rfl)) dX6_piece_138 ⟨Nat.le_of_ble_eq_true rfl, Nat.le_of_ble_eq_true rfl⟩) hP hD hS hFc [0, 7, 8] [1, 2, 3, 4, 5, 6] rfl rfl (by decide +kernel) (by decide +kernel) (fun u H locs hw hP hD hS => ?_)
              obtain ⟨w_18, w_19⟩ := u
              try dsimp only at hw
              have hP : va_P (dC, dI) vwCl (W_X6_piece cyI cyJ cyO h_o h_told h_seas h_kept h_walk h_trial h_ends h_otherEnds h_tape a_sheets a_told_settings a_told_howFar a_told_tones a_told_currents a_told_warmths a_told_depths a_told_fars a_told_pieceCells a_told_pieceMonths a_told_pieceHighs a_told_pieceAges a_told_pieceNeeds a_told_dragCells a_told_dragEighths a_seas_known o_hasImage o_walkIsOld w_18 x_17 told_dragCount (upd told_pieceCells told_pieceCount.toNatClampNeg x1) (upd told_pieceMonths told_pieceCount.toNatClampNeg x2) (upd told_pieceHighs told_pieceCount.toNatClampNeg x3) (upd told_pieceAges told_pieceCount.toNatClampNeg x4) (upd told_pieceNeeds told_pieceCount.toNatClampNeg x5) w_19) H := hP.sub [6, 0, 1, 2, 3, 4, 5, 7, 8] rfl
              have hD : va_D A (W_X6_piece cyI cyJ cyO h_o h_told h_seas h_kept h_walk h_trial h_ends h_otherEnds h_tape a_sheets a_told_settings a_told_howFar a_told_tones a_told_currents a_told_warmths a_told_depths a_told_fars a_told_pieceCells a_told_pieceMonths a_told_pieceHighs a_told_pieceAges a_told_pieceNeeds a_told_dragCells a_told_dragEighths a_seas_known o_hasImage o_walkIsOld w_18 x_17 told_dragCount (upd told_pieceCells told_pieceCount.toNatClampNeg x1) (upd told_pieceMonths told_pieceCount.toNatClampNeg x2) (upd told_pieceHighs told_pieceCount.toNatClampNeg x3) (upd told_pieceAges told_pieceCount.toNatClampNeg x4) (upd told_pieceNeeds told_pieceCount.toNatClampNeg x5) w_19) := hD.sub [6, 0, 1, 2, 3, 4, 5, 7, 8] (by decide +kernel) rfl
              clear hPc hDc hFc
              refine lv_iload hx hb dX6_piece_141 (lv_at hl 0 rfl) ?_
              rw [hQ]
              exact W.iret (v := told_pieceCount) hx hb hr (fun t ht hW => ⟨⟨told_pieceCount, (w_18, x_17, upd told_pieceCells told_pieceCount.toNatClampNeg x1, upd told_pieceMonths told_pieceCount.toNatClampNeg x2, upd told_pieceHighs told_pieceCount.toNatClampNeg x3, upd told_pieceAges told_pieceCount.toNatClampNeg x4, upd told_pieceNeeds told_pieceCount.toNatClampNeg x5, w_19), rfl, okS hw, by rw [ht]; exact hP, va_K.moved hW.alike hK, hD⟩, hS.F ht⟩) hS.2.2 dX6_piece_143
            · replace hw := okF hw c_11
              clear c_11
              refine lv_bipush (v := (-3)) hx hb dX6_piece_66 (by decide) ?_
              rw [hQ]
              exact W.iret (v := (-3)) hx hb hr (fun t ht hW => ⟨⟨(-3), (o_endsAreOld, told_pieceCount, told_pieceCells, told_pieceMonths, told_pieceHighs, told_pieceAges, told_pieceNeeds, seas_known), rfl, okS hw, by rw [ht]; exact hP, va_K.moved hW.alike hK, hD⟩, hS.F ht⟩) hS.2.2 dX6_piece_68
          · replace hw := okT hw c_10
            clear c_10
            refine lv_iconst (v := (-1)) hx hb dX6_piece_49 (by decide) ?_
            rw [hQ]
            exact W.iret (v := (-1)) hx hb hr (fun t ht hW => ⟨⟨(-1), (o_endsAreOld, told_pieceCount, told_pieceCells, told_pieceMonths, told_pieceHighs, told_pieceAges, told_pieceNeeds, seas_known), rfl, okS hw, by rw [ht]; exact hP, va_K.moved hW.alike hK, hD⟩, hS.F ht⟩) hS.2.2 dX6_piece_50
      · replace hw := okT hw c_6
        clear c_6
        refine lv_iconst (v := (-1)) hx hb dX6_piece_26 (by decide) ?_
        rw [hQ]
        exact W.iret (v := (-1)) hx hb hr (fun t ht hW => ⟨⟨(-1), (o_endsAreOld, told_pieceCount, told_pieceCells, told_pieceMonths, told_pieceHighs, told_pieceAges, told_pieceNeeds, seas_known), rfl, okS hw, by rw [ht]; exact hP, va_K.moved hW.alike hK, hD⟩, hS.F ht⟩) hS.2.2 dX6_piece_27
