/-! ===== X7_cell ===== -/
theorem dX7_cell_0 : decode cX7_cell 0 = .ok (.iload_n 1, 1) := by decide +kernel
theorem dX7_cell_1 : decode cX7_cell 1 = .ok (.i2l, 1) := by decide +kernel
theorem dX7_cell_2 : decode cX7_cell 2 = .ok (.lconst 0, 1) := by decide +kernel
theorem dX7_cell_3 : decode cX7_cell 3 = .ok (.lconst 1, 1) := by decide +kernel
theorem dX7_cell_4 : decode cX7_cell 4 = .ok (.invokestatic 100, 3) := by decide +kernel
theorem dX7_cell_7 : decode cX7_cell 7 = .ok (.ifCond .eq 43, 3) := by decide +kernel
theorem dX7_cell_10 : decode cX7_cell 10 = .ok (.iload_n 2, 1) := by decide +kernel
theorem dX7_cell_11 : decode cX7_cell 11 = .ok (.invokestatic 115, 3) := by decide +kernel
theorem dX7_cell_14 : decode cX7_cell 14 = .ok (.ifCond .eq 36, 3) := by decide +kernel
theorem dX7_cell_17 : decode cX7_cell 17 = .ok (.iload_n 3, 1) := by decide +kernel
theorem dX7_cell_18 : decode cX7_cell 18 = .ok (.i2l, 1) := by decide +kernel
theorem dX7_cell_19 : decode cX7_cell 19 = .ok (.lconst 0, 1) := by decide +kernel
theorem dX7_cell_20 : decode cX7_cell 20 = .ok (.lconst 1, 1) := by decide +kernel
theorem dX7_cell_21 : decode cX7_cell 21 = .ok (.invokestatic 100, 3) := by decide +kernel
theorem dX7_cell_24 : decode cX7_cell 24 = .ok (.ifCond .eq 26, 3) := by decide +kernel
theorem dX7_cell_27 : decode cX7_cell 27 = .ok (.iload 4, 2) := by decide +kernel
theorem dX7_cell_29 : decode cX7_cell 29 = .ok (.i2l, 1) := by decide +kernel
theorem dX7_cell_30 : decode cX7_cell 30 = .ok (.lconst 0, 1) := by decide +kernel
theorem dX7_cell_31 : decode cX7_cell 31 = .ok (.iload_n 3, 1) := by decide +kernel
theorem dX7_cell_32 : decode cX7_cell 32 = .ok (.ifCond .ne 9, 3) := by decide +kernel
theorem dX7_cell_35 : decode cX7_cell 35 = .ok (.ldc2_w 130, 3) := by decide +kernel
theorem dX7_cell_38 : decode cX7_cell 38 = .ok (.goto 6, 3) := by decide +kernel
theorem dX7_cell_41 : decode cX7_cell 41 = .ok (.ldc2_w 111, 3) := by decide +kernel
theorem dX7_cell_44 : decode cX7_cell 44 = .ok (.invokestatic 100, 3) := by decide +kernel
theorem dX7_cell_47 : decode cX7_cell 47 = .ok (.ifCond .ne 5, 3) := by decide +kernel
theorem dX7_cell_50 : decode cX7_cell 50 = .ok (.iconst (-1), 1) := by decide +kernel
theorem dX7_cell_51 : decode cX7_cell 51 = .ok (.ireturn, 1) := by decide +kernel
theorem dX7_cell_52 : decode cX7_cell 52 = .ok (.bipush 100, 2) := by decide +kernel
theorem dX7_cell_54 : decode cX7_cell 54 = .ok (.iload_n 1, 1) := by decide +kernel
theorem dX7_cell_55 : decode cX7_cell 55 = .ok (.imul, 1) := by decide +kernel
theorem dX7_cell_56 : decode cX7_cell 56 = .ok (.iload_n 2, 1) := by decide +kernel
theorem dX7_cell_57 : decode cX7_cell 57 = .ok (.iadd, 1) := by decide +kernel
theorem dX7_cell_58 : decode cX7_cell 58 = .ok (.istore 5, 2) := by decide +kernel
theorem dX7_cell_60 : decode cX7_cell 60 = .ok (.iload_n 3, 1) := by decide +kernel
theorem dX7_cell_61 : decode cX7_cell 61 = .ok (.ifCond .ne 13, 3) := by decide +kernel
theorem dX7_cell_64 : decode cX7_cell 64 = .ok (.aload_n 0, 1) := by decide +kernel
theorem dX7_cell_65 : decode cX7_cell 65 = .ok (.getfield 19, 3) := by decide +kernel
theorem dX7_cell_68 : decode cX7_cell 68 = .ok (.iload 5, 2) := by decide +kernel
theorem dX7_cell_70 : decode cX7_cell 70 = .ok (.iaload, 1) := by decide +kernel
theorem dX7_cell_71 : decode cX7_cell 71 = .ok (.goto 10, 3) := by decide +kernel
theorem dX7_cell_74 : decode cX7_cell 74 = .ok (.aload_n 0, 1) := by decide +kernel
theorem dX7_cell_75 : decode cX7_cell 75 = .ok (.getfield 22, 3) := by decide +kernel
theorem dX7_cell_78 : decode cX7_cell 78 = .ok (.iload 5, 2) := by decide +kernel
theorem dX7_cell_80 : decode cX7_cell 80 = .ok (.iaload, 1) := by decide +kernel
theorem dX7_cell_81 : decode cX7_cell 81 = .ok (.istore 6, 2) := by decide +kernel
theorem dX7_cell_83 : decode cX7_cell 83 = .ok (.iload_n 3, 1) := by decide +kernel
theorem dX7_cell_84 : decode cX7_cell 84 = .ok (.ifCond .ne 15, 3) := by decide +kernel
theorem dX7_cell_87 : decode cX7_cell 87 = .ok (.aload_n 0, 1) := by decide +kernel
theorem dX7_cell_88 : decode cX7_cell 88 = .ok (.getfield 19, 3) := by decide +kernel
theorem dX7_cell_91 : decode cX7_cell 91 = .ok (.iload 5, 2) := by decide +kernel
theorem dX7_cell_93 : decode cX7_cell 93 = .ok (.iload 4, 2) := by decide +kernel
theorem dX7_cell_95 : decode cX7_cell 95 = .ok (.iastore, 1) := by decide +kernel
theorem dX7_cell_96 : decode cX7_cell 96 = .ok (.goto 12, 3) := by decide +kernel
theorem dX7_cell_99 : decode cX7_cell 99 = .ok (.aload_n 0, 1) := by decide +kernel
theorem dX7_cell_100 : decode cX7_cell 100 = .ok (.getfield 22, 3) := by decide +kernel
theorem dX7_cell_103 : decode cX7_cell 103 = .ok (.iload 5, 2) := by decide +kernel
theorem dX7_cell_105 : decode cX7_cell 105 = .ok (.iload 4, 2) := by decide +kernel
theorem dX7_cell_107 : decode cX7_cell 107 = .ok (.iastore, 1) := by decide +kernel
theorem dX7_cell_108 : decode cX7_cell 108 = .ok (.iload 6, 2) := by decide +kernel
theorem dX7_cell_110 : decode cX7_cell 110 = .ok (.ireturn, 1) := by decide +kernel
abbrev W_X7_cell (cyI cyJ cyO : ClassId) (h_o a_o_sets a_o_ringFar a_o_ringTone a_o_currents a_o_warmths a_o_depths a_o_tape a_o_readFar a_o_readTone a_o_readSea a_o_code a_o_cellAt a_o_courseAt a_o_paceAt a_o_turnsAt a_o_slowAt a_o_fuelAt a_o_ringAt a_o_pieceParts a_o_dragCell a_o_dragBy a_o_sums a_o_shares a_o_keptFar a_o_image a_o_lanes a_o_sizes a_o_items a_o_movedItems : Nat) (o_taped : Int32) (o_at : Int32) (o_wrong : Int32) (o_level : Int32) (o_noRings : Int32) (o_noTones : Int32) (o_noFuel : Int32) (o_pieces : Int32) (o_drags : Int32) (o_all : Int64) (o_noPieces : Int32) (o_noDrags : Int32) (o_kept : Int32) (o_currents : Nat → Int32) (o_warmths : Nat → Int32) : va_W := [(h_o, .inr (7, [.ref a_o_sets, .ref a_o_ringFar, .ref a_o_ringTone, .ref a_o_currents, .ref a_o_warmths, .ref a_o_depths, .ref a_o_tape, .int o_taped, .int o_at, .int o_wrong, .ref a_o_readFar, .ref a_o_readTone, .ref a_o_readSea, .ref a_o_code, .ref a_o_cellAt, .ref a_o_courseAt, .ref a_o_paceAt, .ref a_o_turnsAt, .ref a_o_slowAt, .ref a_o_fuelAt, .ref a_o_ringAt, .int o_level, .int o_noRings, .int o_noTones, .int o_noFuel, .int o_pieces, .ref a_o_pieceParts, .int o_drags, .ref a_o_dragCell, .ref a_o_dragBy, .ref a_o_sums, .long o_all, .int o_noPieces, .int o_noDrags, .ref a_o_shares, .ref a_o_keptFar, .ref a_o_image, .int o_kept, .ref a_o_lanes, .ref a_o_sizes, .ref a_o_items, .ref a_o_movedItems])), (a_o_currents, .inl (cyI, 200, .inl o_currents)), (a_o_warmths, .inl (cyI, 200, .inl o_warmths))]
def f_X7_cell_B81 (v3 : Int32) (v4 : Int32) (v5 : Int32) (y0 : Int32) (o_currents : Nat → Int32) (o_warmths : Nat → Int32) : Option (Int32 × (Nat → Int32) × (Nat → Int32)) :=
  if v3 = 0 then
    chk (¬ (v5 < 0 ∨ 200 ≤ v5.toNatClampNeg)) <|
    some (y0, upd o_currents v5.toNatClampNeg v4, o_warmths)
  else
    chk (¬ (v5 < 0 ∨ 200 ≤ v5.toNatClampNeg)) <|
    some (y0, o_currents, upd o_warmths v5.toNatClampNeg v4)
def f_X7_cell_B44 (v1 : Int32) (v2 : Int32) (v3 : Int32) (v4 : Int32) (y0 : Int64) (y1 : Int64) (y2 : Int64) (o_currents : Nat → Int32) (o_warmths : Nat → Int32) : Option (Int32 × (Nat → Int32) × (Nat → Int32)) :=
  bd1 (f_X7_in y2 y1 y0) fun r_1 =>
  if r_1 = 0 then
    some ((-1), o_currents, o_warmths)
  else
    nm ((100 * v1) + v2) fun x_2 =>
    if v3 = 0 then
      chk (¬ (x_2 < 0 ∨ 200 ≤ x_2.toNatClampNeg)) <|
      f_X7_cell_B81 v3 v4 x_2 (o_currents x_2.toNatClampNeg) o_currents o_warmths
    else
      chk (¬ (x_2 < 0 ∨ 200 ≤ x_2.toNatClampNeg)) <|
      f_X7_cell_B81 v3 v4 x_2 (o_warmths x_2.toNatClampNeg) o_currents o_warmths
def f_X7_cell (x1 : Int32) (x2 : Int32) (x3 : Int32) (x4 : Int32) (o_currents : Nat → Int32) (o_warmths : Nat → Int32) : Option (Int32 × (Nat → Int32) × (Nat → Int32)) :=
  bd1 (f_X7_in x1.toInt64 0 1) fun r_3 =>
  if r_3 = 0 then
    some ((-1), o_currents, o_warmths)
  else
    bd1 (f_X7_isCell x2) fun r_4 =>
    if r_4 = 0 then
      some ((-1), o_currents, o_warmths)
    else
      bd1 (f_X7_in x3.toInt64 0 1) fun r_5 =>
      if r_5 = 0 then
        some ((-1), o_currents, o_warmths)
      else
        if x3 = 0 then
          f_X7_cell_B44 x1 x2 x3 x4 8 0 x4.toInt64 o_currents o_warmths
        else
          f_X7_cell_B44 x1 x2 x3 x4 9 0 x4.toInt64 o_currents o_warmths
abbrev rm_X7_cell : Room := { frames := 2, cells := 0, slots := 0, locals := 45 }
set_option maxRecDepth 100000 in
set_option maxHeartbeats 4000000 in
theorem c_X7_cell (l : Launch) (dC : Nat → ClassId) (dI : Nat → Nat → Nat) (cyI cyJ cyO : ClassId) (sz : Nat) (h_o a_o_sets a_o_ringFar a_o_ringTone a_o_currents a_o_warmths a_o_depths a_o_tape a_o_readFar a_o_readTone a_o_readSea a_o_code a_o_cellAt a_o_courseAt a_o_paceAt a_o_turnsAt a_o_slowAt a_o_fuelAt a_o_ringAt a_o_pieceParts a_o_dragCell a_o_dragBy a_o_sums a_o_shares a_o_keptFar a_o_image a_o_lanes a_o_sizes a_o_items a_o_movedItems : Nat) (o_taped : Int32) (o_at : Int32) (o_wrong : Int32) (o_level : Int32) (o_noRings : Int32) (o_noTones : Int32) (o_noFuel : Int32) (o_pieces : Int32) (o_drags : Int32) (o_all : Int64) (o_noPieces : Int32) (o_noDrags : Int32) (o_kept : Int32) (o_currents : Nat → Int32) (o_warmths : Nat → Int32) (x1 : Int32) (x2 : Int32) (x3 : Int32) (x4 : Int32) (post : (Int32 × (Nat → Int32) × (Nat → Int32)) → Prop) (hf : okP (f_X7_cell x1 x2 x3 x4 o_currents o_warmths) post) : Ci l (dC, dI) (tyL cyI cyJ cyO) yX7_cell wsX7_cell rm_X7_cell [.ref h_o, .int x1, .int x2, .int x3, .int x4] sz (W_X7_cell cyI cyJ cyO h_o a_o_sets a_o_ringFar a_o_ringTone a_o_currents a_o_warmths a_o_depths a_o_tape a_o_readFar a_o_readTone a_o_readSea a_o_code a_o_cellAt a_o_courseAt a_o_paceAt a_o_turnsAt a_o_slowAt a_o_fuelAt a_o_ringAt a_o_pieceParts a_o_dragCell a_o_dragBy a_o_sums a_o_shares a_o_keptFar a_o_image a_o_lanes a_o_sizes a_o_items a_o_movedItems o_taped o_at o_wrong o_level o_noRings o_noTones o_noFuel o_pieces o_drags o_all o_noPieces o_noDrags o_kept o_currents o_warmths) zN (fun r u => post (r, u)) (fun u => (W_X7_cell cyI cyJ cyO h_o a_o_sets a_o_ringFar a_o_ringTone a_o_currents a_o_warmths a_o_depths a_o_tape a_o_readFar a_o_readTone a_o_readSea a_o_code a_o_cellAt a_o_courseAt a_o_paceAt a_o_turnsAt a_o_slowAt a_o_fuelAt a_o_ringAt a_o_pieceParts a_o_dragCell a_o_dragBy a_o_sums a_o_shares a_o_keptFar a_o_image a_o_lanes a_o_sizes a_o_items a_o_movedItems o_taped o_at o_wrong o_level o_noRings o_noTones o_noFuel o_pieces o_drags o_all o_noPieces o_noDrags o_kept u.1 u.2)) := by
  refine Met.ofW (cc := cX7_cell) (maxL := 7) (ret := (some .int)) (by decide) rfl ?_
  intro p e s m args below meth c s₁ B hml hv
  obtain ⟨rfl, hsz, hP, hK, hD0, hZ⟩ := hv
  have hx := B.exec
  have hb := B.bytes
  have hr := B.returns
  have hts := atoms_spec (ws := wsX7_cell) B.pre
  have hown : s.vm.findClass RX7 = some m.cls := findClass_of_methodNamed B.named
  have hlocks := B.notSynchronized
  subst hsz
  have hD := hD0.self (sz := s.heap.size)
  generalize hAe : va_A (W_X7_cell cyI cyJ cyO h_o a_o_sets a_o_ringFar a_o_ringTone a_o_currents a_o_warmths a_o_depths a_o_tape a_o_readFar a_o_readTone a_o_readSea a_o_code a_o_cellAt a_o_courseAt a_o_paceAt a_o_turnsAt a_o_slowAt a_o_fuelAt a_o_ringAt a_o_pieceParts a_o_dragCell a_o_dragBy a_o_sums a_o_shares a_o_keptFar a_o_image a_o_lanes a_o_sizes a_o_items a_o_movedItems o_taped o_at o_wrong o_level o_noRings o_noTones o_noFuel o_pieces o_drags o_all o_noPieces o_noDrags o_kept o_currents o_warmths) s.heap.size = A at hD hZ ⊢
  have hA : ∀ q : Nat, s.heap.size ≤ q → A q := fun q h => by rw [← hAe]; exact Or.inr h
  clear hAe hD0
  have hS : va_S A s.heap s.heap [] := va_S.rf
  have hl := lv_entry ([.ref h_o, .int x1, .int x2, .int x3, .int x4]) (n := 7) (Nat.le_of_ble_eq_true rfl)
  rw [lg_entry_eq]
  generalize (lg_sl ([.ref h_o, .int x1, .int x2, .int x3, .int x4]) ++ List.replicate (7 - (lg_sl ([.ref h_o, .int x1, .int x2, .int x3, .int x4])).length) Slot.unset).toArray = ls at hl ⊢
  have hl : lv_has ls 7 [(0, .ref h_o), (1, .int x1), (2, .int x2), (3, .int x3), (4, .int x4)] := hl
  refine kW (fun Q hQ => ?_)
  have hq0 := hts _ (List.mem_cons_of_mem _ q_710)
  have hi7 : ∀ w ∈ u_ws RX7 TX7 42, w ∈ wsX7_cell := fun w h => List.mem_cons_of_mem _ (inX7 w h)
  have hq2 := hts _ (List.mem_cons_of_mem _ q_709)
  have hq3 := hts _ (List.mem_cons_of_mem _ q_891)
  have hq4 := hts _ (List.mem_cons_of_mem _ q_865)
  have hw := hf
  have w81 : ∀ (v3 : Int32) (v4 : Int32) (v5 : Int32) (y0 : Int32) (o_currents : Nat → Int32) (o_warmths : Nat → Int32) (H : Heap) (locs : List Loc), va_P (dC, dI) vwCl (W_X7_cell cyI cyJ cyO h_o a_o_sets a_o_ringFar a_o_ringTone a_o_currents a_o_warmths a_o_depths a_o_tape a_o_readFar a_o_readTone a_o_readSea a_o_code a_o_cellAt a_o_courseAt a_o_paceAt a_o_turnsAt a_o_slowAt a_o_fuelAt a_o_ringAt a_o_pieceParts a_o_dragCell a_o_dragBy a_o_sums a_o_shares a_o_keptFar a_o_image a_o_lanes a_o_sizes a_o_items a_o_movedItems o_taped o_at o_wrong o_level o_noRings o_noTones o_noFuel o_pieces o_drags o_all o_noPieces o_noDrags o_kept o_currents o_warmths) H → va_D A (W_X7_cell cyI cyJ cyO h_o a_o_sets a_o_ringFar a_o_ringTone a_o_currents a_o_warmths a_o_depths a_o_tape a_o_readFar a_o_readTone a_o_readSea a_o_code a_o_cellAt a_o_courseAt a_o_paceAt a_o_turnsAt a_o_slowAt a_o_fuelAt a_o_ringAt a_o_pieceParts a_o_dragCell a_o_dragBy a_o_sums a_o_shares a_o_keptFar a_o_image a_o_lanes a_o_sizes a_o_items a_o_movedItems o_taped o_at o_wrong o_level o_noRings o_noTones o_noFuel o_pieces o_drags o_all o_noPieces o_noDrags o_kept o_currents o_warmths) → va_S A s.heap H locs → ∀ (ls : Array Slot), lv_has ls 7 [(0, .ref h_o), (3, .int v3), (4, .int v4), (5, .int v5)] → okP (f_X7_cell_B81 v3 v4 v5 y0 o_currents o_warmths) post → W p l e (headSpec wsX7_cell rm_X7_cell).room s m ([.ref h_o, .int x1, .int x2, .int x3, .int x4] : List Value).toArray below meth c H locs 0 0 Q (F0 m 81 ls [.int y0]) := by
    intro v3 v4 v5 y0 o_currents o_warmths H locs hP hD hS ls hl hw
    unfold f_X7_cell_B81 at hw
    refine lv_istore (lv' := [(6, .int y0), (0, .ref h_o), (3, .int v3), (4, .int v4), (5, .int v5)]) hx hb dX7_cell_81 hl (by decide) rfl (fun ls hl => ?_)
    refine lv_iload_n hx hb dX7_cell_83 rfl (lv_at hl 2 rfl) ?_
    refine lv_if_ne (tgt := 99) hx hb dX7_cell_84 (by decide) (fun c_1 => ?_) (fun c_1 => ?_)
    · replace hw := okF hw c_1
      clear c_1
      refine lv_aload_n hx hb dX7_cell_99 rfl (lv_at hl 1 rfl) ?_
      refine va_get (D := (dC, dI)) (ci := 7) (v := .ref a_o_warmths) (C := RX7) (T := TX7) (N := 42) hx hb hts hi7 hown hK hP 0 rfl rfl 4 (by decide) hq0 (fun _ h9 => h9) rfl dX7_cell_100 ?_
      refine lv_iload hx hb dX7_cell_103 (lv_at hl 4 rfl) ?_
      refine lv_iload hx hb dX7_cell_105 (lv_at hl 3 rfl) ?_
      obtain ⟨h_2, hw⟩ := okC hw
      refine va_iast (i := v5) (x := v4) hx hb hK hP hD hS 2 0 rfl rfl h_2 dX7_cell_107 (fun H locs hP hD hS => ?_)
      have hP : va_P (dC, dI) vwCl (W_X7_cell cyI cyJ cyO h_o a_o_sets a_o_ringFar a_o_ringTone a_o_currents a_o_warmths a_o_depths a_o_tape a_o_readFar a_o_readTone a_o_readSea a_o_code a_o_cellAt a_o_courseAt a_o_paceAt a_o_turnsAt a_o_slowAt a_o_fuelAt a_o_ringAt a_o_pieceParts a_o_dragCell a_o_dragBy a_o_sums a_o_shares a_o_keptFar a_o_image a_o_lanes a_o_sizes a_o_items a_o_movedItems o_taped o_at o_wrong o_level o_noRings o_noTones o_noFuel o_pieces o_drags o_all o_noPieces o_noDrags o_kept o_currents (upd o_warmths v5.toNatClampNeg v4)) H := hP
      have hD : va_D A (W_X7_cell cyI cyJ cyO h_o a_o_sets a_o_ringFar a_o_ringTone a_o_currents a_o_warmths a_o_depths a_o_tape a_o_readFar a_o_readTone a_o_readSea a_o_code a_o_cellAt a_o_courseAt a_o_paceAt a_o_turnsAt a_o_slowAt a_o_fuelAt a_o_ringAt a_o_pieceParts a_o_dragCell a_o_dragBy a_o_sums a_o_shares a_o_keptFar a_o_image a_o_lanes a_o_sizes a_o_items a_o_movedItems o_taped o_at o_wrong o_level o_noRings o_noTones o_noFuel o_pieces o_drags o_all o_noPieces o_noDrags o_kept o_currents (upd o_warmths v5.toNatClampNeg v4)) := hD
      refine lv_iload hx hb dX7_cell_108 (lv_at hl 0 rfl) ?_
      rw [hQ]
      exact W.iret (v := y0) hx hb hr (fun t ht hW => ⟨⟨y0, (o_currents, upd o_warmths v5.toNatClampNeg v4), rfl, okS hw, by rw [ht]; exact hP, va_K.moved hW.alike hK, hD⟩, hS.F ht⟩) hS.2.2 dX7_cell_110
    · replace hw := okT hw c_1
      clear c_1
      refine lv_aload_n hx hb dX7_cell_87 rfl (lv_at hl 1 rfl) ?_
      refine va_get (D := (dC, dI)) (ci := 7) (v := .ref a_o_currents) (C := RX7) (T := TX7) (N := 42) hx hb hts hi7 hown hK hP 0 rfl rfl 3 (by decide) hq2 (fun _ h9 => h9) rfl dX7_cell_88 ?_
      refine lv_iload hx hb dX7_cell_91 (lv_at hl 4 rfl) ?_
      refine lv_iload hx hb dX7_cell_93 (lv_at hl 3 rfl) ?_
      obtain ⟨h_3, hw⟩ := okC hw
      refine va_iast (i := v5) (x := v4) hx hb hK hP hD hS 1 0 rfl rfl h_3 dX7_cell_95 (fun H locs hP hD hS => ?_)
      have hP : va_P (dC, dI) vwCl (W_X7_cell cyI cyJ cyO h_o a_o_sets a_o_ringFar a_o_ringTone a_o_currents a_o_warmths a_o_depths a_o_tape a_o_readFar a_o_readTone a_o_readSea a_o_code a_o_cellAt a_o_courseAt a_o_paceAt a_o_turnsAt a_o_slowAt a_o_fuelAt a_o_ringAt a_o_pieceParts a_o_dragCell a_o_dragBy a_o_sums a_o_shares a_o_keptFar a_o_image a_o_lanes a_o_sizes a_o_items a_o_movedItems o_taped o_at o_wrong o_level o_noRings o_noTones o_noFuel o_pieces o_drags o_all o_noPieces o_noDrags o_kept (upd o_currents v5.toNatClampNeg v4) o_warmths) H := hP
      have hD : va_D A (W_X7_cell cyI cyJ cyO h_o a_o_sets a_o_ringFar a_o_ringTone a_o_currents a_o_warmths a_o_depths a_o_tape a_o_readFar a_o_readTone a_o_readSea a_o_code a_o_cellAt a_o_courseAt a_o_paceAt a_o_turnsAt a_o_slowAt a_o_fuelAt a_o_ringAt a_o_pieceParts a_o_dragCell a_o_dragBy a_o_sums a_o_shares a_o_keptFar a_o_image a_o_lanes a_o_sizes a_o_items a_o_movedItems o_taped o_at o_wrong o_level o_noRings o_noTones o_noFuel o_pieces o_drags o_all o_noPieces o_noDrags o_kept (upd o_currents v5.toNatClampNeg v4) o_warmths) := hD
      refine lv_goto (tgt := 108) hx hb dX7_cell_96 (by decide) ?_
      refine lv_iload hx hb dX7_cell_108 (lv_at hl 0 rfl) ?_
      rw [hQ]
      exact W.iret (v := y0) hx hb hr (fun t ht hW => ⟨⟨y0, (upd o_currents v5.toNatClampNeg v4, o_warmths), rfl, okS hw, by rw [ht]; exact hP, va_K.moved hW.alike hK, hD⟩, hS.F ht⟩) hS.2.2 dX7_cell_110
  have w44 : ∀ (v1 : Int32) (v2 : Int32) (v3 : Int32) (v4 : Int32) (y0 : Int64) (y1 : Int64) (y2 : Int64) (o_currents : Nat → Int32) (o_warmths : Nat → Int32) (H : Heap) (locs : List Loc), va_P (dC, dI) vwCl (W_X7_cell cyI cyJ cyO h_o a_o_sets a_o_ringFar a_o_ringTone a_o_currents a_o_warmths a_o_depths a_o_tape a_o_readFar a_o_readTone a_o_readSea a_o_code a_o_cellAt a_o_courseAt a_o_paceAt a_o_turnsAt a_o_slowAt a_o_fuelAt a_o_ringAt a_o_pieceParts a_o_dragCell a_o_dragBy a_o_sums a_o_shares a_o_keptFar a_o_image a_o_lanes a_o_sizes a_o_items a_o_movedItems o_taped o_at o_wrong o_level o_noRings o_noTones o_noFuel o_pieces o_drags o_all o_noPieces o_noDrags o_kept o_currents o_warmths) H → va_D A (W_X7_cell cyI cyJ cyO h_o a_o_sets a_o_ringFar a_o_ringTone a_o_currents a_o_warmths a_o_depths a_o_tape a_o_readFar a_o_readTone a_o_readSea a_o_code a_o_cellAt a_o_courseAt a_o_paceAt a_o_turnsAt a_o_slowAt a_o_fuelAt a_o_ringAt a_o_pieceParts a_o_dragCell a_o_dragBy a_o_sums a_o_shares a_o_keptFar a_o_image a_o_lanes a_o_sizes a_o_items a_o_movedItems o_taped o_at o_wrong o_level o_noRings o_noTones o_noFuel o_pieces o_drags o_all o_noPieces o_noDrags o_kept o_currents o_warmths) → va_S A s.heap H locs → ∀ (ls : Array Slot), lv_has ls 7 [(0, .ref h_o), (1, .int v1), (2, .int v2), (3, .int v3), (4, .int v4)] → okP (f_X7_cell_B44 v1 v2 v3 v4 y0 y1 y2 o_currents o_warmths) post → W p l e (headSpec wsX7_cell rm_X7_cell).room s m ([.ref h_o, .int x1, .int x2, .int x3, .int x4] : List Value).toArray below meth c H locs 0 0 Q (F0 m 44 ls [.long y0, .long y1, .long y2]) := by
    intro v1 v2 v3 v4 y0 y1 y2 o_currents o_warmths H locs hP hD hS ls hl hw
    unfold f_X7_cell_B44 at hw
    have hFc := va_free (wc := []) hD hS hA [] rfl
    refine kp_i (va_runS (As := [.long y2, .long y1, .long y0]) (rest := []) ⟨hx, hb, hml, hown, hts⟩ (c_X7_in l dC dI cyI cyJ cyO H.size y2 y1 y0 _ (okb1 hw)) (va_cwS 3 hts (gdS (fun w h => List.mem_cons_of_mem _ h) q_838 q_839 q_8 q_840) rfl rfl rfl (by decide +kernel) ⟨Nat.le_of_ble_eq_true rfl, Nat.le_of_ble_eq_true rfl⟩) (kpre zN_ok hK va_P0 va_D0 trivial hS hFc) rfl rfl hl.1 rfl (lv_room (Nat.le_of_ble_eq_true rfl)) dX7_cell_44 ⟨Nat.le_of_ble_eq_true rfl, Nat.le_of_ble_eq_true rfl⟩) hP hD hS hFc (fun r_4 H locs hw hP hS => ?_)
    try dsimp only at hw
    clear hFc
    refine lv_if_ne (tgt := 52) hx hb dX7_cell_47 (by decide) (fun c_5 => ?_) (fun c_5 => ?_)
    · replace hw := okF hw c_5
      clear c_5
      refine lv_bipush (v := 100) hx hb dX7_cell_52 (by decide) ?_
      refine lv_iload_n hx hb dX7_cell_54 rfl (lv_at hl 1 rfl) ?_
      refine lv_imul hx hb dX7_cell_55 ?_
      refine lv_iload_n hx hb dX7_cell_56 rfl (lv_at hl 2 rfl) ?_
      refine lv_iadd hx hb dX7_cell_57 ?_
      refine lv_topi (fun x_6 ex_6 => ?_)
      replace hw := okN ex_6 hw
      clear ex_6
      refine lv_istore (lv' := [(5, .int x_6), (0, .ref h_o), (1, .int v1), (2, .int v2), (3, .int v3), (4, .int v4)]) hx hb dX7_cell_58 hl (by decide) rfl (fun ls hl => ?_)
      refine lv_iload_n hx hb dX7_cell_60 rfl (lv_at hl 4 rfl) ?_
      refine lv_if_ne (tgt := 74) hx hb dX7_cell_61 (by decide) (fun c_7 => ?_) (fun c_7 => ?_)
      · replace hw := okF hw c_7
        clear c_7
        refine lv_aload_n hx hb dX7_cell_74 rfl (lv_at hl 1 rfl) ?_
        refine va_get (D := (dC, dI)) (ci := 7) (v := .ref a_o_warmths) (C := RX7) (T := TX7) (N := 42) hx hb hts hi7 hown hK hP 0 rfl rfl 4 (by decide) hq0 (fun _ h9 => h9) rfl dX7_cell_75 ?_
        refine lv_iload hx hb dX7_cell_78 (lv_at hl 0 rfl) ?_
        obtain ⟨h_8, hw⟩ := okC hw
        refine va_iald (i := x_6) hx hb hK hP 2 0 rfl rfl h_8 dX7_cell_80 ?_
        exact w81 v3 v4 x_6 (o_warmths x_6.toNatClampNeg) o_currents o_warmths _ _ hP hD hS _ (lv_sub hl [1, 4, 5, 0] rfl) hw
      · replace hw := okT hw c_7
        clear c_7
        refine lv_aload_n hx hb dX7_cell_64 rfl (lv_at hl 1 rfl) ?_
        refine va_get (D := (dC, dI)) (ci := 7) (v := .ref a_o_currents) (C := RX7) (T := TX7) (N := 42) hx hb hts hi7 hown hK hP 0 rfl rfl 3 (by decide) hq2 (fun _ h9 => h9) rfl dX7_cell_65 ?_
        refine lv_iload hx hb dX7_cell_68 (lv_at hl 0 rfl) ?_
        obtain ⟨h_9, hw⟩ := okC hw
        refine va_iald (i := x_6) hx hb hK hP 1 0 rfl rfl h_9 dX7_cell_70 ?_
        refine lv_goto (tgt := 81) hx hb dX7_cell_71 (by decide) ?_
        exact w81 v3 v4 x_6 (o_currents x_6.toNatClampNeg) o_currents o_warmths _ _ hP hD hS _ (lv_sub hl [1, 4, 5, 0] rfl) hw
    · replace hw := okT hw c_5
      clear c_5
      refine lv_iconst (v := (-1)) hx hb dX7_cell_50 (by decide) ?_
      rw [hQ]
      exact W.iret (v := (-1)) hx hb hr (fun t ht hW => ⟨⟨(-1), (o_currents, o_warmths), rfl, okS hw, by rw [ht]; exact hP, va_K.moved hW.alike hK, hD⟩, hS.F ht⟩) hS.2.2 dX7_cell_51
  unfold f_X7_cell at hw
  have hP : va_P (dC, dI) vwCl (W_X7_cell cyI cyJ cyO h_o a_o_sets a_o_ringFar a_o_ringTone a_o_currents a_o_warmths a_o_depths a_o_tape a_o_readFar a_o_readTone a_o_readSea a_o_code a_o_cellAt a_o_courseAt a_o_paceAt a_o_turnsAt a_o_slowAt a_o_fuelAt a_o_ringAt a_o_pieceParts a_o_dragCell a_o_dragBy a_o_sums a_o_shares a_o_keptFar a_o_image a_o_lanes a_o_sizes a_o_items a_o_movedItems o_taped o_at o_wrong o_level o_noRings o_noTones o_noFuel o_pieces o_drags o_all o_noPieces o_noDrags o_kept o_currents o_warmths) s.heap := hP
  obtain ⟨H, hH⟩ : ∃ H, H = s.heap := ⟨_, rfl⟩
  obtain ⟨locs, hlo⟩ : ∃ x : List Loc, x = [] := ⟨_, rfl⟩
  have hP : va_P (dC, dI) vwCl (W_X7_cell cyI cyJ cyO h_o a_o_sets a_o_ringFar a_o_ringTone a_o_currents a_o_warmths a_o_depths a_o_tape a_o_readFar a_o_readTone a_o_readSea a_o_code a_o_cellAt a_o_courseAt a_o_paceAt a_o_turnsAt a_o_slowAt a_o_fuelAt a_o_ringAt a_o_pieceParts a_o_dragCell a_o_dragBy a_o_sums a_o_shares a_o_keptFar a_o_image a_o_lanes a_o_sizes a_o_items a_o_movedItems o_taped o_at o_wrong o_level o_noRings o_noTones o_noFuel o_pieces o_drags o_all o_noPieces o_noDrags o_kept o_currents o_warmths) H := by rw [hH]; exact hP
  have hS : va_S A s.heap H locs := by rw [hH, hlo]; exact hS
  refine kH hH hlo ?_
  clear hH hlo
  refine lv_iload_n hx hb dX7_cell_0 rfl (lv_at hl 1 rfl) ?_
  refine lv_i2l (v := x1.toInt64) hx hb dX7_cell_1 rfl ?_
  refine lv_lconst (v := 0) hx hb dX7_cell_2 (by decide) ?_
  refine lv_lconst (v := 1) hx hb dX7_cell_3 (by decide) ?_
  have hFc := va_free (wc := []) hD hS hA [] rfl
  refine kp_i (va_runS (As := [.long x1.toInt64, .long 0, .long 1]) (rest := []) ⟨hx, hb, hml, hown, hts⟩ (c_X7_in l dC dI cyI cyJ cyO H.size x1.toInt64 0 1 _ (okb1 hw)) (va_cwS 3 hts (gdS (fun w h => List.mem_cons_of_mem _ h) q_838 q_839 q_8 q_840) rfl rfl rfl (by decide +kernel) ⟨Nat.le_of_ble_eq_true rfl, Nat.le_of_ble_eq_true rfl⟩) (kpre zN_ok hK va_P0 va_D0 trivial hS hFc) rfl rfl hl.1 rfl (lv_room (Nat.le_of_ble_eq_true rfl)) dX7_cell_4 ⟨Nat.le_of_ble_eq_true rfl, Nat.le_of_ble_eq_true rfl⟩) hP hD hS hFc (fun r_10 H locs hw hP hS => ?_)
  try dsimp only at hw
  clear hFc
  refine lv_if_eq (tgt := 50) hx hb dX7_cell_7 (by decide) (fun c_11 => ?_) (fun c_11 => ?_)
  · replace hw := okT hw c_11
    clear c_11
    refine lv_iconst (v := (-1)) hx hb dX7_cell_50 (by decide) ?_
    rw [hQ]
    exact W.iret (v := (-1)) hx hb hr (fun t ht hW => ⟨⟨(-1), (o_currents, o_warmths), rfl, okS hw, by rw [ht]; exact hP, va_K.moved hW.alike hK, hD⟩, hS.F ht⟩) hS.2.2 dX7_cell_51
  · replace hw := okF hw c_11
    clear c_11
    refine lv_iload_n hx hb dX7_cell_10 rfl (lv_at hl 2 rfl) ?_
    have hFc := va_free (wc := []) hD hS hA [] rfl
    refine kp_i (va_runS (As := [.int x2]) (rest := []) ⟨hx, hb, hml, hown, hts⟩ (c_X7_isCell l dC dI cyI cyJ cyO H.size x2 _ (okb1 hw)) (va_cwS 1 hts (gdS (fun w h => List.mem_cons_of_mem _ h) q_845 q_846 q_8 q_847) rfl rfl rfl (by decide +kernel) ⟨Nat.le_of_ble_eq_true rfl, Nat.le_of_ble_eq_true rfl⟩) (kpre zN_ok hK va_P0 va_D0 trivial hS hFc) rfl rfl hl.1 rfl (lv_room (Nat.le_of_ble_eq_true rfl)) dX7_cell_11 ⟨Nat.le_of_ble_eq_true rfl, Nat.le_of_ble_eq_true rfl⟩) hP hD hS hFc (fun r_12 H locs hw hP hS => ?_)
    try dsimp only at hw
    clear hFc
    refine lv_if_eq (tgt := 50) hx hb dX7_cell_14 (by decide) (fun c_13 => ?_) (fun c_13 => ?_)
    · replace hw := okT hw c_13
      clear c_13
      refine lv_iconst (v := (-1)) hx hb dX7_cell_50 (by decide) ?_
      rw [hQ]
      exact W.iret (v := (-1)) hx hb hr (fun t ht hW => ⟨⟨(-1), (o_currents, o_warmths), rfl, okS hw, by rw [ht]; exact hP, va_K.moved hW.alike hK, hD⟩, hS.F ht⟩) hS.2.2 dX7_cell_51
    · replace hw := okF hw c_13
      clear c_13
      refine lv_iload_n hx hb dX7_cell_17 rfl (lv_at hl 3 rfl) ?_
      refine lv_i2l (v := x3.toInt64) hx hb dX7_cell_18 rfl ?_
      refine lv_lconst (v := 0) hx hb dX7_cell_19 (by decide) ?_
      refine lv_lconst (v := 1) hx hb dX7_cell_20 (by decide) ?_
      have hFc := va_free (wc := []) hD hS hA [] rfl
      refine kp_i (va_runS (As := [.long x3.toInt64, .long 0, .long 1]) (rest := []) ⟨hx, hb, hml, hown, hts⟩ (c_X7_in l dC dI cyI cyJ cyO H.size x3.toInt64 0 1 _ (okb1 hw)) (va_cwS 3 hts (gdS (fun w h => List.mem_cons_of_mem _ h) q_838 q_839 q_8 q_840) rfl rfl rfl (by decide +kernel) ⟨Nat.le_of_ble_eq_true rfl, Nat.le_of_ble_eq_true rfl⟩) (kpre zN_ok hK va_P0 va_D0 trivial hS hFc) rfl rfl hl.1 rfl (lv_room (Nat.le_of_ble_eq_true rfl)) dX7_cell_21 ⟨Nat.le_of_ble_eq_true rfl, Nat.le_of_ble_eq_true rfl⟩) hP hD hS hFc (fun r_14 H locs hw hP hS => ?_)
      try dsimp only at hw
      clear hFc
      refine lv_if_eq (tgt := 50) hx hb dX7_cell_24 (by decide) (fun c_15 => ?_) (fun c_15 => ?_)
      · replace hw := okT hw c_15
        clear c_15
        refine lv_iconst (v := (-1)) hx hb dX7_cell_50 (by decide) ?_
        rw [hQ]
        exact W.iret (v := (-1)) hx hb hr (fun t ht hW => ⟨⟨(-1), (o_currents, o_warmths), rfl, okS hw, by rw [ht]; exact hP, va_K.moved hW.alike hK, hD⟩, hS.F ht⟩) hS.2.2 dX7_cell_51
      · replace hw := okF hw c_15
        clear c_15
        refine lv_iload hx hb dX7_cell_27 (lv_at hl 4 rfl) ?_
        refine lv_i2l (v := x4.toInt64) hx hb dX7_cell_29 rfl ?_
        refine lv_lconst (v := 0) hx hb dX7_cell_30 (by decide) ?_
        refine lv_iload_n hx hb dX7_cell_31 rfl (lv_at hl 3 rfl) ?_
        refine lv_if_ne (tgt := 41) hx hb dX7_cell_32 (by decide) (fun c_16 => ?_) (fun c_16 => ?_)
        · replace hw := okF hw c_16
          clear c_16
          refine lv_ldc2 (v := 9) hx hb hown hq3 dX7_cell_41 ?_
          exact w44 x1 x2 x3 x4 9 0 x4.toInt64 o_currents o_warmths _ _ hP hD hS _ (lv_sub hl [0, 1, 2, 3, 4] rfl) hw
        · replace hw := okT hw c_16
          clear c_16
          refine lv_ldc2 (v := 8) hx hb hown hq4 dX7_cell_35 ?_
          refine lv_goto (tgt := 44) hx hb dX7_cell_38 (by decide) ?_
          exact w44 x1 x2 x3 x4 8 0 x4.toInt64 o_currents o_warmths _ _ hP hD hS _ (lv_sub hl [0, 1, 2, 3, 4] rfl) hw
/-! ===== X7_depth ===== -/
theorem dX7_depth_0 : decode cX7_depth 0 = .ok (.iload_n 1, 1) := by decide +kernel
theorem dX7_depth_1 : decode cX7_depth 1 = .ok (.invokestatic 115, 3) := by decide +kernel
theorem dX7_depth_4 : decode cX7_depth 4 = .ok (.ifCond .eq 15, 3) := by decide +kernel
theorem dX7_depth_7 : decode cX7_depth 7 = .ok (.iload_n 2, 1) := by decide +kernel
theorem dX7_depth_8 : decode cX7_depth 8 = .ok (.i2l, 1) := by decide +kernel
theorem dX7_depth_9 : decode cX7_depth 9 = .ok (.lconst 1, 1) := by decide +kernel
theorem dX7_depth_10 : decode cX7_depth 10 = .ok (.ldc2_w 111, 3) := by decide +kernel
theorem dX7_depth_13 : decode cX7_depth 13 = .ok (.invokestatic 100, 3) := by decide +kernel
theorem dX7_depth_16 : decode cX7_depth 16 = .ok (.ifCond .ne 5, 3) := by decide +kernel
theorem dX7_depth_19 : decode cX7_depth 19 = .ok (.iconst (-1), 1) := by decide +kernel
theorem dX7_depth_20 : decode cX7_depth 20 = .ok (.ireturn, 1) := by decide +kernel
theorem dX7_depth_21 : decode cX7_depth 21 = .ok (.aload_n 0, 1) := by decide +kernel
theorem dX7_depth_22 : decode cX7_depth 22 = .ok (.getfield 25, 3) := by decide +kernel
theorem dX7_depth_25 : decode cX7_depth 25 = .ok (.iload_n 1, 1) := by decide +kernel
theorem dX7_depth_26 : decode cX7_depth 26 = .ok (.iaload, 1) := by decide +kernel
theorem dX7_depth_27 : decode cX7_depth 27 = .ok (.istore_n 3, 1) := by decide +kernel
theorem dX7_depth_28 : decode cX7_depth 28 = .ok (.aload_n 0, 1) := by decide +kernel
theorem dX7_depth_29 : decode cX7_depth 29 = .ok (.getfield 25, 3) := by decide +kernel
theorem dX7_depth_32 : decode cX7_depth 32 = .ok (.iload_n 1, 1) := by decide +kernel
theorem dX7_depth_33 : decode cX7_depth 33 = .ok (.iload_n 2, 1) := by decide +kernel
theorem dX7_depth_34 : decode cX7_depth 34 = .ok (.iastore, 1) := by decide +kernel
theorem dX7_depth_35 : decode cX7_depth 35 = .ok (.iload_n 3, 1) := by decide +kernel
theorem dX7_depth_36 : decode cX7_depth 36 = .ok (.ireturn, 1) := by decide +kernel
abbrev W_X7_depth (cyI cyJ cyO : ClassId) (h_o a_o_sets a_o_ringFar a_o_ringTone a_o_currents a_o_warmths a_o_depths a_o_tape a_o_readFar a_o_readTone a_o_readSea a_o_code a_o_cellAt a_o_courseAt a_o_paceAt a_o_turnsAt a_o_slowAt a_o_fuelAt a_o_ringAt a_o_pieceParts a_o_dragCell a_o_dragBy a_o_sums a_o_shares a_o_keptFar a_o_image a_o_lanes a_o_sizes a_o_items a_o_movedItems : Nat) (o_taped : Int32) (o_at : Int32) (o_wrong : Int32) (o_level : Int32) (o_noRings : Int32) (o_noTones : Int32) (o_noFuel : Int32) (o_pieces : Int32) (o_drags : Int32) (o_all : Int64) (o_noPieces : Int32) (o_noDrags : Int32) (o_kept : Int32) (o_depths : Nat → Int32) : va_W := [(h_o, .inr (7, [.ref a_o_sets, .ref a_o_ringFar, .ref a_o_ringTone, .ref a_o_currents, .ref a_o_warmths, .ref a_o_depths, .ref a_o_tape, .int o_taped, .int o_at, .int o_wrong, .ref a_o_readFar, .ref a_o_readTone, .ref a_o_readSea, .ref a_o_code, .ref a_o_cellAt, .ref a_o_courseAt, .ref a_o_paceAt, .ref a_o_turnsAt, .ref a_o_slowAt, .ref a_o_fuelAt, .ref a_o_ringAt, .int o_level, .int o_noRings, .int o_noTones, .int o_noFuel, .int o_pieces, .ref a_o_pieceParts, .int o_drags, .ref a_o_dragCell, .ref a_o_dragBy, .ref a_o_sums, .long o_all, .int o_noPieces, .int o_noDrags, .ref a_o_shares, .ref a_o_keptFar, .ref a_o_image, .int o_kept, .ref a_o_lanes, .ref a_o_sizes, .ref a_o_items, .ref a_o_movedItems])), (a_o_depths, .inl (cyI, 100, .inl o_depths))]
def f_X7_depth (x1 : Int32) (x2 : Int32) (o_depths : Nat → Int32) : Option (Int32 × (Nat → Int32)) :=
  bd1 (f_X7_isCell x1) fun r_1 =>
  if r_1 = 0 then
    some ((-1), o_depths)
  else
    bd1 (f_X7_in x2.toInt64 1 9) fun r_2 =>
    if r_2 = 0 then
      some ((-1), o_depths)
    else
      chk (¬ (x1 < 0 ∨ 100 ≤ x1.toNatClampNeg)) <|
      nm (o_depths x1.toNatClampNeg) fun x_3 =>
      chk (¬ (x1 < 0 ∨ 100 ≤ x1.toNatClampNeg)) <|
      some (x_3, upd o_depths x1.toNatClampNeg x2)
abbrev rm_X7_depth : Room := { frames := 2, cells := 0, slots := 0, locals := 45 }
set_option maxRecDepth 100000 in
set_option maxHeartbeats 4000000 in
theorem c_X7_depth (l : Launch) (dC : Nat → ClassId) (dI : Nat → Nat → Nat) (cyI cyJ cyO : ClassId) (sz : Nat) (h_o a_o_sets a_o_ringFar a_o_ringTone a_o_currents a_o_warmths a_o_depths a_o_tape a_o_readFar a_o_readTone a_o_readSea a_o_code a_o_cellAt a_o_courseAt a_o_paceAt a_o_turnsAt a_o_slowAt a_o_fuelAt a_o_ringAt a_o_pieceParts a_o_dragCell a_o_dragBy a_o_sums a_o_shares a_o_keptFar a_o_image a_o_lanes a_o_sizes a_o_items a_o_movedItems : Nat) (o_taped : Int32) (o_at : Int32) (o_wrong : Int32) (o_level : Int32) (o_noRings : Int32) (o_noTones : Int32) (o_noFuel : Int32) (o_pieces : Int32) (o_drags : Int32) (o_all : Int64) (o_noPieces : Int32) (o_noDrags : Int32) (o_kept : Int32) (o_depths : Nat → Int32) (x1 : Int32) (x2 : Int32) (post : (Int32 × (Nat → Int32)) → Prop) (hf : okP (f_X7_depth x1 x2 o_depths) post) : Ci l (dC, dI) (tyL cyI cyJ cyO) yX7_depth wsX7_depth rm_X7_depth [.ref h_o, .int x1, .int x2] sz (W_X7_depth cyI cyJ cyO h_o a_o_sets a_o_ringFar a_o_ringTone a_o_currents a_o_warmths a_o_depths a_o_tape a_o_readFar a_o_readTone a_o_readSea a_o_code a_o_cellAt a_o_courseAt a_o_paceAt a_o_turnsAt a_o_slowAt a_o_fuelAt a_o_ringAt a_o_pieceParts a_o_dragCell a_o_dragBy a_o_sums a_o_shares a_o_keptFar a_o_image a_o_lanes a_o_sizes a_o_items a_o_movedItems o_taped o_at o_wrong o_level o_noRings o_noTones o_noFuel o_pieces o_drags o_all o_noPieces o_noDrags o_kept o_depths) zN (fun r u => post (r, u)) (fun u => (W_X7_depth cyI cyJ cyO h_o a_o_sets a_o_ringFar a_o_ringTone a_o_currents a_o_warmths a_o_depths a_o_tape a_o_readFar a_o_readTone a_o_readSea a_o_code a_o_cellAt a_o_courseAt a_o_paceAt a_o_turnsAt a_o_slowAt a_o_fuelAt a_o_ringAt a_o_pieceParts a_o_dragCell a_o_dragBy a_o_sums a_o_shares a_o_keptFar a_o_image a_o_lanes a_o_sizes a_o_items a_o_movedItems o_taped o_at o_wrong o_level o_noRings o_noTones o_noFuel o_pieces o_drags o_all o_noPieces o_noDrags o_kept u)) := by
  refine Met.ofW (cc := cX7_depth) (maxL := 4) (ret := (some .int)) (by decide) rfl ?_
  intro p e s m args below meth c s₁ B hml hv
  obtain ⟨rfl, hsz, hP, hK, hD0, hZ⟩ := hv
  have hx := B.exec
  have hb := B.bytes
  have hr := B.returns
  have hts := atoms_spec (ws := wsX7_depth) B.pre
  have hown : s.vm.findClass RX7 = some m.cls := findClass_of_methodNamed B.named
  have hlocks := B.notSynchronized
  subst hsz
  have hD := hD0.self (sz := s.heap.size)
  generalize hAe : va_A (W_X7_depth cyI cyJ cyO h_o a_o_sets a_o_ringFar a_o_ringTone a_o_currents a_o_warmths a_o_depths a_o_tape a_o_readFar a_o_readTone a_o_readSea a_o_code a_o_cellAt a_o_courseAt a_o_paceAt a_o_turnsAt a_o_slowAt a_o_fuelAt a_o_ringAt a_o_pieceParts a_o_dragCell a_o_dragBy a_o_sums a_o_shares a_o_keptFar a_o_image a_o_lanes a_o_sizes a_o_items a_o_movedItems o_taped o_at o_wrong o_level o_noRings o_noTones o_noFuel o_pieces o_drags o_all o_noPieces o_noDrags o_kept o_depths) s.heap.size = A at hD hZ ⊢
  have hA : ∀ q : Nat, s.heap.size ≤ q → A q := fun q h => by rw [← hAe]; exact Or.inr h
  clear hAe hD0
  have hS : va_S A s.heap s.heap [] := va_S.rf
  have hl := lv_entry ([.ref h_o, .int x1, .int x2]) (n := 4) (Nat.le_of_ble_eq_true rfl)
  rw [lg_entry_eq]
  generalize (lg_sl ([.ref h_o, .int x1, .int x2]) ++ List.replicate (4 - (lg_sl ([.ref h_o, .int x1, .int x2])).length) Slot.unset).toArray = ls at hl ⊢
  have hl : lv_has ls 4 [(0, .ref h_o), (1, .int x1), (2, .int x2)] := hl
  refine kW (fun Q hQ => ?_)
  have hq0 := hts _ (List.mem_cons_of_mem _ q_891)
  have hq1 := hts _ (List.mem_cons_of_mem _ q_711)
  have hi7 : ∀ w ∈ u_ws RX7 TX7 42, w ∈ wsX7_depth := fun w h => List.mem_cons_of_mem _ (inX7 w h)
  have hw := hf
  unfold f_X7_depth at hw
  have hP : va_P (dC, dI) vwCl (W_X7_depth cyI cyJ cyO h_o a_o_sets a_o_ringFar a_o_ringTone a_o_currents a_o_warmths a_o_depths a_o_tape a_o_readFar a_o_readTone a_o_readSea a_o_code a_o_cellAt a_o_courseAt a_o_paceAt a_o_turnsAt a_o_slowAt a_o_fuelAt a_o_ringAt a_o_pieceParts a_o_dragCell a_o_dragBy a_o_sums a_o_shares a_o_keptFar a_o_image a_o_lanes a_o_sizes a_o_items a_o_movedItems o_taped o_at o_wrong o_level o_noRings o_noTones o_noFuel o_pieces o_drags o_all o_noPieces o_noDrags o_kept o_depths) s.heap := hP
  obtain ⟨H, hH⟩ : ∃ H, H = s.heap := ⟨_, rfl⟩
  obtain ⟨locs, hlo⟩ : ∃ x : List Loc, x = [] := ⟨_, rfl⟩
  have hP : va_P (dC, dI) vwCl (W_X7_depth cyI cyJ cyO h_o a_o_sets a_o_ringFar a_o_ringTone a_o_currents a_o_warmths a_o_depths a_o_tape a_o_readFar a_o_readTone a_o_readSea a_o_code a_o_cellAt a_o_courseAt a_o_paceAt a_o_turnsAt a_o_slowAt a_o_fuelAt a_o_ringAt a_o_pieceParts a_o_dragCell a_o_dragBy a_o_sums a_o_shares a_o_keptFar a_o_image a_o_lanes a_o_sizes a_o_items a_o_movedItems o_taped o_at o_wrong o_level o_noRings o_noTones o_noFuel o_pieces o_drags o_all o_noPieces o_noDrags o_kept o_depths) H := by rw [hH]; exact hP
  have hS : va_S A s.heap H locs := by rw [hH, hlo]; exact hS
  refine kH hH hlo ?_
  clear hH hlo
  refine lv_iload_n hx hb dX7_depth_0 rfl (lv_at hl 1 rfl) ?_
  have hFc := va_free (wc := []) hD hS hA [] rfl
  refine kp_i (va_runS (As := [.int x1]) (rest := []) ⟨hx, hb, hml, hown, hts⟩ (c_X7_isCell l dC dI cyI cyJ cyO H.size x1 _ (okb1 hw)) (va_cwS 1 hts (gdS (fun w h => List.mem_cons_of_mem _ h) q_845 q_846 q_8 q_847) rfl rfl rfl (by decide +kernel) ⟨Nat.le_of_ble_eq_true rfl, Nat.le_of_ble_eq_true rfl⟩) (kpre zN_ok hK va_P0 va_D0 trivial hS hFc) rfl rfl hl.1 rfl (lv_room (Nat.le_of_ble_eq_true rfl)) dX7_depth_1 ⟨Nat.le_of_ble_eq_true rfl, Nat.le_of_ble_eq_true rfl⟩) hP hD hS hFc (fun r_1 H locs hw hP hS => ?_)
  try dsimp only at hw
  clear hFc
  refine lv_if_eq (tgt := 19) hx hb dX7_depth_4 (by decide) (fun c_2 => ?_) (fun c_2 => ?_)
  · replace hw := okT hw c_2
    clear c_2
    refine lv_iconst (v := (-1)) hx hb dX7_depth_19 (by decide) ?_
    rw [hQ]
    exact W.iret (v := (-1)) hx hb hr (fun t ht hW => ⟨⟨(-1), o_depths, rfl, okS hw, by rw [ht]; exact hP, va_K.moved hW.alike hK, hD⟩, hS.F ht⟩) hS.2.2 dX7_depth_20
  · replace hw := okF hw c_2
    clear c_2
    refine lv_iload_n hx hb dX7_depth_7 rfl (lv_at hl 2 rfl) ?_
    refine lv_i2l (v := x2.toInt64) hx hb dX7_depth_8 rfl ?_
    refine lv_lconst (v := 1) hx hb dX7_depth_9 (by decide) ?_
    refine lv_ldc2 (v := 9) hx hb hown hq0 dX7_depth_10 ?_
    have hFc := va_free (wc := []) hD hS hA [] rfl
    refine kp_i (va_runS (As := [.long x2.toInt64, .long 1, .long 9]) (rest := []) ⟨hx, hb, hml, hown, hts⟩ (c_X7_in l dC dI cyI cyJ cyO H.size x2.toInt64 1 9 _ (okb1 hw)) (va_cwS 3 hts (gdS (fun w h => List.mem_cons_of_mem _ h) q_838 q_839 q_8 q_840) rfl rfl rfl (by decide +kernel) ⟨Nat.le_of_ble_eq_true rfl, Nat.le_of_ble_eq_true rfl⟩) (kpre zN_ok hK va_P0 va_D0 trivial hS hFc) rfl rfl hl.1 rfl (lv_room (Nat.le_of_ble_eq_true rfl)) dX7_depth_13 ⟨Nat.le_of_ble_eq_true rfl, Nat.le_of_ble_eq_true rfl⟩) hP hD hS hFc (fun r_3 H locs hw hP hS => ?_)
    try dsimp only at hw
    clear hFc
    refine lv_if_ne (tgt := 21) hx hb dX7_depth_16 (by decide) (fun c_4 => ?_) (fun c_4 => ?_)
    · replace hw := okF hw c_4
      clear c_4
      refine lv_aload_n hx hb dX7_depth_21 rfl (lv_at hl 0 rfl) ?_
      refine va_get (D := (dC, dI)) (ci := 7) (v := .ref a_o_depths) (C := RX7) (T := TX7) (N := 42) hx hb hts hi7 hown hK hP 0 rfl rfl 5 (by decide) hq1 (fun _ h9 => h9) rfl dX7_depth_22 ?_
      refine lv_iload_n hx hb dX7_depth_25 rfl (lv_at hl 1 rfl) ?_
      obtain ⟨h_5, hw⟩ := okC hw
      refine va_iald (i := x1) hx hb hK hP 1 0 rfl rfl h_5 dX7_depth_26 ?_
      refine lv_topi (fun x_6 ex_6 => ?_)
      replace hw := okN ex_6 hw
      clear ex_6
      refine lv_istore_n (lv' := [(3, .int x_6), (0, .ref h_o), (1, .int x1), (2, .int x2)]) hx hb dX7_depth_27 rfl hl (by decide) rfl (fun ls hl => ?_)
      refine lv_aload_n hx hb dX7_depth_28 rfl (lv_at hl 1 rfl) ?_
      refine va_get (D := (dC, dI)) (ci := 7) (v := .ref a_o_depths) (C := RX7) (T := TX7) (N := 42) hx hb hts hi7 hown hK hP 0 rfl rfl 5 (by decide) hq1 (fun _ h9 => h9) rfl dX7_depth_29 ?_
      refine lv_iload_n hx hb dX7_depth_32 rfl (lv_at hl 2 rfl) ?_
      refine lv_iload_n hx hb dX7_depth_33 rfl (lv_at hl 3 rfl) ?_
      obtain ⟨h_7, hw⟩ := okC hw
      refine va_iast (i := x1) (x := x2) hx hb hK hP hD hS 1 0 rfl rfl h_7 dX7_depth_34 (fun H locs hP hD hS => ?_)
      have hP : va_P (dC, dI) vwCl (W_X7_depth cyI cyJ cyO h_o a_o_sets a_o_ringFar a_o_ringTone a_o_currents a_o_warmths a_o_depths a_o_tape a_o_readFar a_o_readTone a_o_readSea a_o_code a_o_cellAt a_o_courseAt a_o_paceAt a_o_turnsAt a_o_slowAt a_o_fuelAt a_o_ringAt a_o_pieceParts a_o_dragCell a_o_dragBy a_o_sums a_o_shares a_o_keptFar a_o_image a_o_lanes a_o_sizes a_o_items a_o_movedItems o_taped o_at o_wrong o_level o_noRings o_noTones o_noFuel o_pieces o_drags o_all o_noPieces o_noDrags o_kept (upd o_depths x1.toNatClampNeg x2)) H := hP
      have hD : va_D A (W_X7_depth cyI cyJ cyO h_o a_o_sets a_o_ringFar a_o_ringTone a_o_currents a_o_warmths a_o_depths a_o_tape a_o_readFar a_o_readTone a_o_readSea a_o_code a_o_cellAt a_o_courseAt a_o_paceAt a_o_turnsAt a_o_slowAt a_o_fuelAt a_o_ringAt a_o_pieceParts a_o_dragCell a_o_dragBy a_o_sums a_o_shares a_o_keptFar a_o_image a_o_lanes a_o_sizes a_o_items a_o_movedItems o_taped o_at o_wrong o_level o_noRings o_noTones o_noFuel o_pieces o_drags o_all o_noPieces o_noDrags o_kept (upd o_depths x1.toNatClampNeg x2)) := hD
      refine lv_iload_n hx hb dX7_depth_35 rfl (lv_at hl 0 rfl) ?_
      rw [hQ]
      exact W.iret (v := x_6) hx hb hr (fun t ht hW => ⟨⟨x_6, (upd o_depths x1.toNatClampNeg x2), rfl, okS hw, by rw [ht]; exact hP, va_K.moved hW.alike hK, hD⟩, hS.F ht⟩) hS.2.2 dX7_depth_36
    · replace hw := okT hw c_4
      clear c_4
      refine lv_iconst (v := (-1)) hx hb dX7_depth_19 (by decide) ?_
      rw [hQ]
      exact W.iret (v := (-1)) hx hb hr (fun t ht hW => ⟨⟨(-1), o_depths, rfl, okS hw, by rw [ht]; exact hP, va_K.moved hW.alike hK, hD⟩, hS.F ht⟩) hS.2.2 dX7_depth_20
/-! ===== X7_piece ===== -/
theorem dX7_piece_0 : decode cX7_piece 0 = .ok (.iload_n 1, 1) := by decide +kernel
theorem dX7_piece_1 : decode cX7_piece 1 = .ok (.invokestatic 115, 3) := by decide +kernel
theorem dX7_piece_4 : decode cX7_piece 4 = .ok (.ifCond .eq 50, 3) := by decide +kernel
theorem dX7_piece_7 : decode cX7_piece 7 = .ok (.iload_n 2, 1) := by decide +kernel
theorem dX7_piece_8 : decode cX7_piece 8 = .ok (.i2l, 1) := by decide +kernel
theorem dX7_piece_9 : decode cX7_piece 9 = .ok (.lconst 1, 1) := by decide +kernel
theorem dX7_piece_10 : decode cX7_piece 10 = .ok (.ldc2_w 204, 3) := by decide +kernel
theorem dX7_piece_13 : decode cX7_piece 13 = .ok (.invokestatic 100, 3) := by decide +kernel
theorem dX7_piece_16 : decode cX7_piece 16 = .ok (.ifCond .eq 38, 3) := by decide +kernel
theorem dX7_piece_19 : decode cX7_piece 19 = .ok (.iload_n 3, 1) := by decide +kernel
theorem dX7_piece_20 : decode cX7_piece 20 = .ok (.i2l, 1) := by decide +kernel
theorem dX7_piece_21 : decode cX7_piece 21 = .ok (.lconst 0, 1) := by decide +kernel
theorem dX7_piece_22 : decode cX7_piece 22 = .ok (.lconst 1, 1) := by decide +kernel
theorem dX7_piece_23 : decode cX7_piece 23 = .ok (.invokestatic 100, 3) := by decide +kernel
theorem dX7_piece_26 : decode cX7_piece 26 = .ok (.ifCond .eq 28, 3) := by decide +kernel
theorem dX7_piece_29 : decode cX7_piece 29 = .ok (.iload 4, 2) := by decide +kernel
theorem dX7_piece_31 : decode cX7_piece 31 = .ok (.i2l, 1) := by decide +kernel
theorem dX7_piece_32 : decode cX7_piece 32 = .ok (.lconst 0, 1) := by decide +kernel
theorem dX7_piece_33 : decode cX7_piece 33 = .ok (.iload_n 2, 1) := by decide +kernel
theorem dX7_piece_34 : decode cX7_piece 34 = .ok (.i2l, 1) := by decide +kernel
theorem dX7_piece_35 : decode cX7_piece 35 = .ok (.invokestatic 100, 3) := by decide +kernel
theorem dX7_piece_38 : decode cX7_piece 38 = .ok (.ifCond .eq 16, 3) := by decide +kernel
theorem dX7_piece_41 : decode cX7_piece 41 = .ok (.iload 5, 2) := by decide +kernel
theorem dX7_piece_43 : decode cX7_piece 43 = .ok (.i2l, 1) := by decide +kernel
theorem dX7_piece_44 : decode cX7_piece 44 = .ok (.lconst 0, 1) := by decide +kernel
theorem dX7_piece_45 : decode cX7_piece 45 = .ok (.ldc2_w 111, 3) := by decide +kernel
theorem dX7_piece_48 : decode cX7_piece 48 = .ok (.invokestatic 100, 3) := by decide +kernel
theorem dX7_piece_51 : decode cX7_piece 51 = .ok (.ifCond .ne 5, 3) := by decide +kernel
theorem dX7_piece_54 : decode cX7_piece 54 = .ok (.iconst (-1), 1) := by decide +kernel
theorem dX7_piece_55 : decode cX7_piece 55 = .ok (.ireturn, 1) := by decide +kernel
theorem dX7_piece_56 : decode cX7_piece 56 = .ok (.aload_n 0, 1) := by decide +kernel
theorem dX7_piece_57 : decode cX7_piece 57 = .ok (.getfield 206, 3) := by decide +kernel
theorem dX7_piece_60 : decode cX7_piece 60 = .ok (.iconst 4, 1) := by decide +kernel
theorem dX7_piece_61 : decode cX7_piece 61 = .ok (.if_icmp .ne 6, 3) := by decide +kernel
theorem dX7_piece_64 : decode cX7_piece 64 = .ok (.bipush (-3), 2) := by decide +kernel
theorem dX7_piece_66 : decode cX7_piece 66 = .ok (.ireturn, 1) := by decide +kernel
theorem dX7_piece_67 : decode cX7_piece 67 = .ok (.iconst 5, 1) := by decide +kernel
theorem dX7_piece_68 : decode cX7_piece 68 = .ok (.aload_n 0, 1) := by decide +kernel
theorem dX7_piece_69 : decode cX7_piece 69 = .ok (.getfield 206, 3) := by decide +kernel
theorem dX7_piece_72 : decode cX7_piece 72 = .ok (.imul, 1) := by decide +kernel
theorem dX7_piece_73 : decode cX7_piece 73 = .ok (.istore 6, 2) := by decide +kernel
theorem dX7_piece_75 : decode cX7_piece 75 = .ok (.aload_n 0, 1) := by decide +kernel
theorem dX7_piece_76 : decode cX7_piece 76 = .ok (.getfield 64, 3) := by decide +kernel
theorem dX7_piece_79 : decode cX7_piece 79 = .ok (.iload 6, 2) := by decide +kernel
theorem dX7_piece_81 : decode cX7_piece 81 = .ok (.iload_n 1, 1) := by decide +kernel
theorem dX7_piece_82 : decode cX7_piece 82 = .ok (.iastore, 1) := by decide +kernel
theorem dX7_piece_83 : decode cX7_piece 83 = .ok (.aload_n 0, 1) := by decide +kernel
theorem dX7_piece_84 : decode cX7_piece 84 = .ok (.getfield 64, 3) := by decide +kernel
theorem dX7_piece_87 : decode cX7_piece 87 = .ok (.iload 6, 2) := by decide +kernel
theorem dX7_piece_89 : decode cX7_piece 89 = .ok (.iconst 1, 1) := by decide +kernel
theorem dX7_piece_90 : decode cX7_piece 90 = .ok (.iadd, 1) := by decide +kernel
theorem dX7_piece_91 : decode cX7_piece 91 = .ok (.iload_n 2, 1) := by decide +kernel
theorem dX7_piece_92 : decode cX7_piece 92 = .ok (.iastore, 1) := by decide +kernel
theorem dX7_piece_93 : decode cX7_piece 93 = .ok (.aload_n 0, 1) := by decide +kernel
theorem dX7_piece_94 : decode cX7_piece 94 = .ok (.getfield 64, 3) := by decide +kernel
theorem dX7_piece_97 : decode cX7_piece 97 = .ok (.iload 6, 2) := by decide +kernel
theorem dX7_piece_99 : decode cX7_piece 99 = .ok (.iconst 2, 1) := by decide +kernel
theorem dX7_piece_100 : decode cX7_piece 100 = .ok (.iadd, 1) := by decide +kernel
theorem dX7_piece_101 : decode cX7_piece 101 = .ok (.iload_n 3, 1) := by decide +kernel
theorem dX7_piece_102 : decode cX7_piece 102 = .ok (.iastore, 1) := by decide +kernel
theorem dX7_piece_103 : decode cX7_piece 103 = .ok (.aload_n 0, 1) := by decide +kernel
theorem dX7_piece_104 : decode cX7_piece 104 = .ok (.getfield 64, 3) := by decide +kernel
theorem dX7_piece_107 : decode cX7_piece 107 = .ok (.iload 6, 2) := by decide +kernel
theorem dX7_piece_109 : decode cX7_piece 109 = .ok (.iconst 3, 1) := by decide +kernel
theorem dX7_piece_110 : decode cX7_piece 110 = .ok (.iadd, 1) := by decide +kernel
theorem dX7_piece_111 : decode cX7_piece 111 = .ok (.iload 4, 2) := by decide +kernel
theorem dX7_piece_113 : decode cX7_piece 113 = .ok (.iastore, 1) := by decide +kernel
theorem dX7_piece_114 : decode cX7_piece 114 = .ok (.aload_n 0, 1) := by decide +kernel
theorem dX7_piece_115 : decode cX7_piece 115 = .ok (.getfield 64, 3) := by decide +kernel
theorem dX7_piece_118 : decode cX7_piece 118 = .ok (.iload 6, 2) := by decide +kernel
theorem dX7_piece_120 : decode cX7_piece 120 = .ok (.iconst 4, 1) := by decide +kernel
theorem dX7_piece_121 : decode cX7_piece 121 = .ok (.iadd, 1) := by decide +kernel
theorem dX7_piece_122 : decode cX7_piece 122 = .ok (.iload 5, 2) := by decide +kernel
theorem dX7_piece_124 : decode cX7_piece 124 = .ok (.iastore, 1) := by decide +kernel
theorem dX7_piece_125 : decode cX7_piece 125 = .ok (.aload_n 0, 1) := by decide +kernel
theorem dX7_piece_126 : decode cX7_piece 126 = .ok (.dup, 1) := by decide +kernel
theorem dX7_piece_127 : decode cX7_piece 127 = .ok (.getfield 206, 3) := by decide +kernel
theorem dX7_piece_130 : decode cX7_piece 130 = .ok (.iconst 1, 1) := by decide +kernel
theorem dX7_piece_131 : decode cX7_piece 131 = .ok (.iadd, 1) := by decide +kernel
theorem dX7_piece_132 : decode cX7_piece 132 = .ok (.putfield 206, 3) := by decide +kernel
theorem dX7_piece_135 : decode cX7_piece 135 = .ok (.aload_n 0, 1) := by decide +kernel
theorem dX7_piece_136 : decode cX7_piece 136 = .ok (.getfield 206, 3) := by decide +kernel
theorem dX7_piece_139 : decode cX7_piece 139 = .ok (.iconst 1, 1) := by decide +kernel
theorem dX7_piece_140 : decode cX7_piece 140 = .ok (.isub, 1) := by decide +kernel
theorem dX7_piece_141 : decode cX7_piece 141 = .ok (.ireturn, 1) := by decide +kernel
abbrev W_X7_piece (cyI cyJ cyO : ClassId) (h_o a_o_sets a_o_ringFar a_o_ringTone a_o_currents a_o_warmths a_o_depths a_o_tape a_o_readFar a_o_readTone a_o_readSea a_o_code a_o_cellAt a_o_courseAt a_o_paceAt a_o_turnsAt a_o_slowAt a_o_fuelAt a_o_ringAt a_o_pieceParts a_o_dragCell a_o_dragBy a_o_sums a_o_shares a_o_keptFar a_o_image a_o_lanes a_o_sizes a_o_items a_o_movedItems : Nat) (o_taped : Int32) (o_at : Int32) (o_wrong : Int32) (o_level : Int32) (o_noRings : Int32) (o_noTones : Int32) (o_noFuel : Int32) (o_pieces : Int32) (o_drags : Int32) (o_all : Int64) (o_noPieces : Int32) (o_noDrags : Int32) (o_kept : Int32) (o_pieceParts : Nat → Int32) : va_W := [(h_o, .inr (7, [.ref a_o_sets, .ref a_o_ringFar, .ref a_o_ringTone, .ref a_o_currents, .ref a_o_warmths, .ref a_o_depths, .ref a_o_tape, .int o_taped, .int o_at, .int o_wrong, .ref a_o_readFar, .ref a_o_readTone, .ref a_o_readSea, .ref a_o_code, .ref a_o_cellAt, .ref a_o_courseAt, .ref a_o_paceAt, .ref a_o_turnsAt, .ref a_o_slowAt, .ref a_o_fuelAt, .ref a_o_ringAt, .int o_level, .int o_noRings, .int o_noTones, .int o_noFuel, .int o_pieces, .ref a_o_pieceParts, .int o_drags, .ref a_o_dragCell, .ref a_o_dragBy, .ref a_o_sums, .long o_all, .int o_noPieces, .int o_noDrags, .ref a_o_shares, .ref a_o_keptFar, .ref a_o_image, .int o_kept, .ref a_o_lanes, .ref a_o_sizes, .ref a_o_items, .ref a_o_movedItems])), (a_o_pieceParts, .inl (cyI, 20, .inl o_pieceParts))]
def f_X7_piece (x1 : Int32) (x2 : Int32) (x3 : Int32) (x4 : Int32) (x5 : Int32) (o_pieces : Int32) (o_pieceParts : Nat → Int32) : Option (Int32 × Int32 × (Nat → Int32)) :=
  bd1 (f_X7_isCell x1) fun r_1 =>
  if r_1 = 0 then
    some ((-1), o_pieces, o_pieceParts)
  else
    bd1 (f_X7_in x2.toInt64 1 24) fun r_2 =>
    if r_2 = 0 then
      some ((-1), o_pieces, o_pieceParts)
    else
      bd1 (f_X7_in x3.toInt64 0 1) fun r_3 =>
      if r_3 = 0 then
        some ((-1), o_pieces, o_pieceParts)
      else
        bd1 (f_X7_in x4.toInt64 0 x2.toInt64) fun r_4 =>
        if r_4 = 0 then
          some ((-1), o_pieces, o_pieceParts)
        else
          bd1 (f_X7_in x5.toInt64 0 9) fun r_5 =>
          if r_5 = 0 then
            some ((-1), o_pieces, o_pieceParts)
          else
            if o_pieces = 4 then
              some ((-3), o_pieces, o_pieceParts)
            else
              nm (5 * o_pieces) fun x_6 =>
              chk (¬ (x_6 < 0 ∨ 20 ≤ x_6.toNatClampNeg)) <|
              chk (¬ (x_6 + 1 < 0 ∨ 20 ≤ (x_6 + 1).toNatClampNeg)) <|
              chk (¬ (x_6 + 2 < 0 ∨ 20 ≤ (x_6 + 2).toNatClampNeg)) <|
              chk (¬ (x_6 + 3 < 0 ∨ 20 ≤ (x_6 + 3).toNatClampNeg)) <|
              chk (¬ (x_6 + 4 < 0 ∨ 20 ≤ (x_6 + 4).toNatClampNeg)) <|
              nm (o_pieces + 1) fun x_7 =>
              some (x_7 - 1, x_7, upd (upd (upd (upd (upd o_pieceParts x_6.toNatClampNeg x1) (x_6 + 1).toNatClampNeg x2) (x_6 + 2).toNatClampNeg x3) (x_6 + 3).toNatClampNeg x4) (x_6 + 4).toNatClampNeg x5)
abbrev rm_X7_piece : Room := { frames := 2, cells := 0, slots := 0, locals := 45 }
set_option maxRecDepth 100000 in
set_option maxHeartbeats 4000000 in
theorem c_X7_piece (l : Launch) (dC : Nat → ClassId) (dI : Nat → Nat → Nat) (cyI cyJ cyO : ClassId) (sz : Nat) (h_o a_o_sets a_o_ringFar a_o_ringTone a_o_currents a_o_warmths a_o_depths a_o_tape a_o_readFar a_o_readTone a_o_readSea a_o_code a_o_cellAt a_o_courseAt a_o_paceAt a_o_turnsAt a_o_slowAt a_o_fuelAt a_o_ringAt a_o_pieceParts a_o_dragCell a_o_dragBy a_o_sums a_o_shares a_o_keptFar a_o_image a_o_lanes a_o_sizes a_o_items a_o_movedItems : Nat) (o_taped : Int32) (o_at : Int32) (o_wrong : Int32) (o_level : Int32) (o_noRings : Int32) (o_noTones : Int32) (o_noFuel : Int32) (o_pieces : Int32) (o_drags : Int32) (o_all : Int64) (o_noPieces : Int32) (o_noDrags : Int32) (o_kept : Int32) (o_pieceParts : Nat → Int32) (x1 : Int32) (x2 : Int32) (x3 : Int32) (x4 : Int32) (x5 : Int32) (post : (Int32 × Int32 × (Nat → Int32)) → Prop) (hf : okP (f_X7_piece x1 x2 x3 x4 x5 o_pieces o_pieceParts) post) : Ci l (dC, dI) (tyL cyI cyJ cyO) yX7_piece wsX7_piece rm_X7_piece [.ref h_o, .int x1, .int x2, .int x3, .int x4, .int x5] sz (W_X7_piece cyI cyJ cyO h_o a_o_sets a_o_ringFar a_o_ringTone a_o_currents a_o_warmths a_o_depths a_o_tape a_o_readFar a_o_readTone a_o_readSea a_o_code a_o_cellAt a_o_courseAt a_o_paceAt a_o_turnsAt a_o_slowAt a_o_fuelAt a_o_ringAt a_o_pieceParts a_o_dragCell a_o_dragBy a_o_sums a_o_shares a_o_keptFar a_o_image a_o_lanes a_o_sizes a_o_items a_o_movedItems o_taped o_at o_wrong o_level o_noRings o_noTones o_noFuel o_pieces o_drags o_all o_noPieces o_noDrags o_kept o_pieceParts) zN (fun r u => post (r, u)) (fun u => (W_X7_piece cyI cyJ cyO h_o a_o_sets a_o_ringFar a_o_ringTone a_o_currents a_o_warmths a_o_depths a_o_tape a_o_readFar a_o_readTone a_o_readSea a_o_code a_o_cellAt a_o_courseAt a_o_paceAt a_o_turnsAt a_o_slowAt a_o_fuelAt a_o_ringAt a_o_pieceParts a_o_dragCell a_o_dragBy a_o_sums a_o_shares a_o_keptFar a_o_image a_o_lanes a_o_sizes a_o_items a_o_movedItems o_taped o_at o_wrong o_level o_noRings o_noTones o_noFuel u.1 o_drags o_all o_noPieces o_noDrags o_kept u.2)) := by
  refine Met.ofW (cc := cX7_piece) (maxL := 7) (ret := (some .int)) (by decide) rfl ?_
  intro p e s m args below meth c s₁ B hml hv
  obtain ⟨rfl, hsz, hP, hK, hD0, hZ⟩ := hv
  have hx := B.exec
  have hb := B.bytes
  have hr := B.returns
  have hts := atoms_spec (ws := wsX7_piece) B.pre
  have hown : s.vm.findClass RX7 = some m.cls := findClass_of_methodNamed B.named
  have hlocks := B.notSynchronized
  subst hsz
  have hD := hD0.self (sz := s.heap.size)
  generalize hAe : va_A (W_X7_piece cyI cyJ cyO h_o a_o_sets a_o_ringFar a_o_ringTone a_o_currents a_o_warmths a_o_depths a_o_tape a_o_readFar a_o_readTone a_o_readSea a_o_code a_o_cellAt a_o_courseAt a_o_paceAt a_o_turnsAt a_o_slowAt a_o_fuelAt a_o_ringAt a_o_pieceParts a_o_dragCell a_o_dragBy a_o_sums a_o_shares a_o_keptFar a_o_image a_o_lanes a_o_sizes a_o_items a_o_movedItems o_taped o_at o_wrong o_level o_noRings o_noTones o_noFuel o_pieces o_drags o_all o_noPieces o_noDrags o_kept o_pieceParts) s.heap.size = A at hD hZ ⊢
  have hA : ∀ q : Nat, s.heap.size ≤ q → A q := fun q h => by rw [← hAe]; exact Or.inr h
  clear hAe hD0
  have hS : va_S A s.heap s.heap [] := va_S.rf
  have hl := lv_entry ([.ref h_o, .int x1, .int x2, .int x3, .int x4, .int x5]) (n := 7) (Nat.le_of_ble_eq_true rfl)
  rw [lg_entry_eq]
  generalize (lg_sl ([.ref h_o, .int x1, .int x2, .int x3, .int x4, .int x5]) ++ List.replicate (7 - (lg_sl ([.ref h_o, .int x1, .int x2, .int x3, .int x4, .int x5])).length) Slot.unset).toArray = ls at hl ⊢
  have hl : lv_has ls 7 [(0, .ref h_o), (1, .int x1), (2, .int x2), (3, .int x3), (4, .int x4), (5, .int x5)] := hl
  refine kW (fun Q hQ => ?_)
  have hq0 := hts _ (List.mem_cons_of_mem _ q_958)
  have hq1 := hts _ (List.mem_cons_of_mem _ q_891)
  have hq2 := hts _ (List.mem_cons_of_mem _ q_731)
  have hi7 : ∀ w ∈ u_ws RX7 TX7 42, w ∈ wsX7_piece := fun w h => List.mem_cons_of_mem _ (inX7 w h)
  have hq4 := hts _ (List.mem_cons_of_mem _ q_732)
  have hw := hf
  unfold f_X7_piece at hw
  have hP : va_P (dC, dI) vwCl (W_X7_piece cyI cyJ cyO h_o a_o_sets a_o_ringFar a_o_ringTone a_o_currents a_o_warmths a_o_depths a_o_tape a_o_readFar a_o_readTone a_o_readSea a_o_code a_o_cellAt a_o_courseAt a_o_paceAt a_o_turnsAt a_o_slowAt a_o_fuelAt a_o_ringAt a_o_pieceParts a_o_dragCell a_o_dragBy a_o_sums a_o_shares a_o_keptFar a_o_image a_o_lanes a_o_sizes a_o_items a_o_movedItems o_taped o_at o_wrong o_level o_noRings o_noTones o_noFuel o_pieces o_drags o_all o_noPieces o_noDrags o_kept o_pieceParts) s.heap := hP
  obtain ⟨H, hH⟩ : ∃ H, H = s.heap := ⟨_, rfl⟩
  obtain ⟨locs, hlo⟩ : ∃ x : List Loc, x = [] := ⟨_, rfl⟩
  have hP : va_P (dC, dI) vwCl (W_X7_piece cyI cyJ cyO h_o a_o_sets a_o_ringFar a_o_ringTone a_o_currents a_o_warmths a_o_depths a_o_tape a_o_readFar a_o_readTone a_o_readSea a_o_code a_o_cellAt a_o_courseAt a_o_paceAt a_o_turnsAt a_o_slowAt a_o_fuelAt a_o_ringAt a_o_pieceParts a_o_dragCell a_o_dragBy a_o_sums a_o_shares a_o_keptFar a_o_image a_o_lanes a_o_sizes a_o_items a_o_movedItems o_taped o_at o_wrong o_level o_noRings o_noTones o_noFuel o_pieces o_drags o_all o_noPieces o_noDrags o_kept o_pieceParts) H := by rw [hH]; exact hP
  have hS : va_S A s.heap H locs := by rw [hH, hlo]; exact hS
  refine kH hH hlo ?_
  clear hH hlo
  refine lv_iload_n hx hb dX7_piece_0 rfl (lv_at hl 1 rfl) ?_
  have hFc := va_free (wc := []) hD hS hA [] rfl
  refine kp_i (va_runS (As := [.int x1]) (rest := []) ⟨hx, hb, hml, hown, hts⟩ (c_X7_isCell l dC dI cyI cyJ cyO H.size x1 _ (okb1 hw)) (va_cwS 1 hts (gdS (fun w h => List.mem_cons_of_mem _ h) q_845 q_846 q_8 q_847) rfl rfl rfl (by decide +kernel) ⟨Nat.le_of_ble_eq_true rfl, Nat.le_of_ble_eq_true rfl⟩) (kpre zN_ok hK va_P0 va_D0 trivial hS hFc) rfl rfl hl.1 rfl (lv_room (Nat.le_of_ble_eq_true rfl)) dX7_piece_1 ⟨Nat.le_of_ble_eq_true rfl, Nat.le_of_ble_eq_true rfl⟩) hP hD hS hFc (fun r_1 H locs hw hP hS => ?_)
  try dsimp only at hw
  clear hFc
  refine lv_if_eq (tgt := 54) hx hb dX7_piece_4 (by decide) (fun c_2 => ?_) (fun c_2 => ?_)
  · replace hw := okT hw c_2
    clear c_2
    refine lv_iconst (v := (-1)) hx hb dX7_piece_54 (by decide) ?_
    rw [hQ]
    exact W.iret (v := (-1)) hx hb hr (fun t ht hW => ⟨⟨(-1), (o_pieces, o_pieceParts), rfl, okS hw, by rw [ht]; exact hP, va_K.moved hW.alike hK, hD⟩, hS.F ht⟩) hS.2.2 dX7_piece_55
  · replace hw := okF hw c_2
    clear c_2
    refine lv_iload_n hx hb dX7_piece_7 rfl (lv_at hl 2 rfl) ?_
    refine lv_i2l (v := x2.toInt64) hx hb dX7_piece_8 rfl ?_
    refine lv_lconst (v := 1) hx hb dX7_piece_9 (by decide) ?_
    refine lv_ldc2 (v := 24) hx hb hown hq0 dX7_piece_10 ?_
    have hFc := va_free (wc := []) hD hS hA [] rfl
    refine kp_i (va_runS (As := [.long x2.toInt64, .long 1, .long 24]) (rest := []) ⟨hx, hb, hml, hown, hts⟩ (c_X7_in l dC dI cyI cyJ cyO H.size x2.toInt64 1 24 _ (okb1 hw)) (va_cwS 3 hts (gdS (fun w h => List.mem_cons_of_mem _ h) q_838 q_839 q_8 q_840) rfl rfl rfl (by decide +kernel) ⟨Nat.le_of_ble_eq_true rfl, Nat.le_of_ble_eq_true rfl⟩) (kpre zN_ok hK va_P0 va_D0 trivial hS hFc) rfl rfl hl.1 rfl (lv_room (Nat.le_of_ble_eq_true rfl)) dX7_piece_13 ⟨Nat.le_of_ble_eq_true rfl, Nat.le_of_ble_eq_true rfl⟩) hP hD hS hFc (fun r_3 H locs hw hP hS => ?_)
    try dsimp only at hw
    clear hFc
    refine lv_if_eq (tgt := 54) hx hb dX7_piece_16 (by decide) (fun c_4 => ?_) (fun c_4 => ?_)
    · replace hw := okT hw c_4
      clear c_4
      refine lv_iconst (v := (-1)) hx hb dX7_piece_54 (by decide) ?_
      rw [hQ]
      exact W.iret (v := (-1)) hx hb hr (fun t ht hW => ⟨⟨(-1), (o_pieces, o_pieceParts), rfl, okS hw, by rw [ht]; exact hP, va_K.moved hW.alike hK, hD⟩, hS.F ht⟩) hS.2.2 dX7_piece_55
    · replace hw := okF hw c_4
      clear c_4
      refine lv_iload_n hx hb dX7_piece_19 rfl (lv_at hl 3 rfl) ?_
      refine lv_i2l (v := x3.toInt64) hx hb dX7_piece_20 rfl ?_
      refine lv_lconst (v := 0) hx hb dX7_piece_21 (by decide) ?_
      refine lv_lconst (v := 1) hx hb dX7_piece_22 (by decide) ?_
      have hFc := va_free (wc := []) hD hS hA [] rfl
      refine kp_i (va_runS (As := [.long x3.toInt64, .long 0, .long 1]) (rest := []) ⟨hx, hb, hml, hown, hts⟩ (c_X7_in l dC dI cyI cyJ cyO H.size x3.toInt64 0 1 _ (okb1 hw)) (va_cwS 3 hts (gdS (fun w h => List.mem_cons_of_mem _ h) q_838 q_839 q_8 q_840) rfl rfl rfl (by decide +kernel) ⟨Nat.le_of_ble_eq_true rfl, Nat.le_of_ble_eq_true rfl⟩) (kpre zN_ok hK va_P0 va_D0 trivial hS hFc) rfl rfl hl.1 rfl (lv_room (Nat.le_of_ble_eq_true rfl)) dX7_piece_23 ⟨Nat.le_of_ble_eq_true rfl, Nat.le_of_ble_eq_true rfl⟩) hP hD hS hFc (fun r_5 H locs hw hP hS => ?_)
      try dsimp only at hw
      clear hFc
      refine lv_if_eq (tgt := 54) hx hb dX7_piece_26 (by decide) (fun c_6 => ?_) (fun c_6 => ?_)
      · replace hw := okT hw c_6
        clear c_6
        refine lv_iconst (v := (-1)) hx hb dX7_piece_54 (by decide) ?_
        rw [hQ]
        exact W.iret (v := (-1)) hx hb hr (fun t ht hW => ⟨⟨(-1), (o_pieces, o_pieceParts), rfl, okS hw, by rw [ht]; exact hP, va_K.moved hW.alike hK, hD⟩, hS.F ht⟩) hS.2.2 dX7_piece_55
      · replace hw := okF hw c_6
        clear c_6
        refine lv_iload hx hb dX7_piece_29 (lv_at hl 4 rfl) ?_
        refine lv_i2l (v := x4.toInt64) hx hb dX7_piece_31 rfl ?_
        refine lv_lconst (v := 0) hx hb dX7_piece_32 (by decide) ?_
        refine lv_iload_n hx hb dX7_piece_33 rfl (lv_at hl 2 rfl) ?_
        refine lv_i2l (v := x2.toInt64) hx hb dX7_piece_34 rfl ?_
        have hFc := va_free (wc := []) hD hS hA [] rfl
        refine kp_i (va_runS (As := [.long x4.toInt64, .long 0, .long x2.toInt64]) (rest := []) ⟨hx, hb, hml, hown, hts⟩ (c_X7_in l dC dI cyI cyJ cyO H.size x4.toInt64 0 x2.toInt64 _ (okb1 hw)) (va_cwS 3 hts (gdS (fun w h => List.mem_cons_of_mem _ h) q_838 q_839 q_8 q_840) rfl rfl rfl (by decide +kernel) ⟨Nat.le_of_ble_eq_true rfl, Nat.le_of_ble_eq_true rfl⟩) (kpre zN_ok hK va_P0 va_D0 trivial hS hFc) rfl rfl hl.1 rfl (lv_room (Nat.le_of_ble_eq_true rfl)) dX7_piece_35 ⟨Nat.le_of_ble_eq_true rfl, Nat.le_of_ble_eq_true rfl⟩) hP hD hS hFc (fun r_7 H locs hw hP hS => ?_)
        try dsimp only at hw
        clear hFc
        refine lv_if_eq (tgt := 54) hx hb dX7_piece_38 (by decide) (fun c_8 => ?_) (fun c_8 => ?_)
        · replace hw := okT hw c_8
          clear c_8
          refine lv_iconst (v := (-1)) hx hb dX7_piece_54 (by decide) ?_
          rw [hQ]
          exact W.iret (v := (-1)) hx hb hr (fun t ht hW => ⟨⟨(-1), (o_pieces, o_pieceParts), rfl, okS hw, by rw [ht]; exact hP, va_K.moved hW.alike hK, hD⟩, hS.F ht⟩) hS.2.2 dX7_piece_55
        · replace hw := okF hw c_8
          clear c_8
          refine lv_iload hx hb dX7_piece_41 (lv_at hl 5 rfl) ?_
          refine lv_i2l (v := x5.toInt64) hx hb dX7_piece_43 rfl ?_
          refine lv_lconst (v := 0) hx hb dX7_piece_44 (by decide) ?_
          refine lv_ldc2 (v := 9) hx hb hown hq1 dX7_piece_45 ?_
          have hFc := va_free (wc := []) hD hS hA [] rfl
          refine kp_i (va_runS (As := [.long x5.toInt64, .long 0, .long 9]) (rest := []) ⟨hx, hb, hml, hown, hts⟩ (c_X7_in l dC dI cyI cyJ cyO H.size x5.toInt64 0 9 _ (okb1 hw)) (va_cwS 3 hts (gdS (fun w h => List.mem_cons_of_mem _ h) q_838 q_839 q_8 q_840) rfl rfl rfl (by decide +kernel) ⟨Nat.le_of_ble_eq_true rfl, Nat.le_of_ble_eq_true rfl⟩) (kpre zN_ok hK va_P0 va_D0 trivial hS hFc) rfl rfl hl.1 rfl (lv_room (Nat.le_of_ble_eq_true rfl)) dX7_piece_48 ⟨Nat.le_of_ble_eq_true rfl, Nat.le_of_ble_eq_true rfl⟩) hP hD hS hFc (fun r_9 H locs hw hP hS => ?_)
          try dsimp only at hw
          clear hFc
          refine lv_if_ne (tgt := 56) hx hb dX7_piece_51 (by decide) (fun c_10 => ?_) (fun c_10 => ?_)
          · replace hw := okF hw c_10
            clear c_10
            refine lv_aload_n hx hb dX7_piece_56 rfl (lv_at hl 0 rfl) ?_
            refine va_get (D := (dC, dI)) (ci := 7) (v := .int o_pieces) (C := RX7) (T := TX7) (N := 42) hx hb hts hi7 hown hK hP 0 rfl rfl 25 (by decide) hq2 (fun _ h9 => h9) rfl dX7_piece_57 ?_
            refine lv_iconst (v := 4) hx hb dX7_piece_60 (by decide) ?_
            refine lv_icmp_ne (tgt := 67) hx hb dX7_piece_61 (by decide) (fun c_11 => ?_) (fun c_11 => ?_)
            · replace hw := okF hw c_11
              clear c_11
              refine lv_iconst (v := 5) hx hb dX7_piece_67 (by decide) ?_
              refine lv_aload_n hx hb dX7_piece_68 rfl (lv_at hl 0 rfl) ?_
              refine va_get (D := (dC, dI)) (ci := 7) (v := .int o_pieces) (C := RX7) (T := TX7) (N := 42) hx hb hts hi7 hown hK hP 0 rfl rfl 25 (by decide) hq2 (fun _ h9 => h9) rfl dX7_piece_69 ?_
              refine lv_imul hx hb dX7_piece_72 ?_
              refine lv_topi (fun x_12 ex_12 => ?_)
              replace hw := okN ex_12 hw
              clear ex_12
              refine lv_istore (lv' := [(6, .int x_12), (0, .ref h_o), (1, .int x1), (2, .int x2), (3, .int x3), (4, .int x4), (5, .int x5)]) hx hb dX7_piece_73 hl (by decide) rfl (fun ls hl => ?_)
              refine lv_aload_n hx hb dX7_piece_75 rfl (lv_at hl 1 rfl) ?_
              refine va_get (D := (dC, dI)) (ci := 7) (v := .ref a_o_pieceParts) (C := RX7) (T := TX7) (N := 42) hx hb hts hi7 hown hK hP 0 rfl rfl 26 (by decide) hq4 (fun _ h9 => h9) rfl dX7_piece_76 ?_
              refine lv_iload hx hb dX7_piece_79 (lv_at hl 0 rfl) ?_
              refine lv_iload_n hx hb dX7_piece_81 rfl (lv_at hl 2 rfl) ?_
              obtain ⟨h_13, hw⟩ := okC hw
              refine va_iast (i := x_12) (x := x1) hx hb hK hP hD hS 1 0 rfl rfl h_13 dX7_piece_82 (fun H locs hP hD hS => ?_)
              have hP : va_P (dC, dI) vwCl (W_X7_piece cyI cyJ cyO h_o a_o_sets a_o_ringFar a_o_ringTone a_o_currents a_o_warmths a_o_depths a_o_tape a_o_readFar a_o_readTone a_o_readSea a_o_code a_o_cellAt a_o_courseAt a_o_paceAt a_o_turnsAt a_o_slowAt a_o_fuelAt a_o_ringAt a_o_pieceParts a_o_dragCell a_o_dragBy a_o_sums a_o_shares a_o_keptFar a_o_image a_o_lanes a_o_sizes a_o_items a_o_movedItems o_taped o_at o_wrong o_level o_noRings o_noTones o_noFuel o_pieces o_drags o_all o_noPieces o_noDrags o_kept (upd o_pieceParts x_12.toNatClampNeg x1)) H := hP
              have hD : va_D A (W_X7_piece cyI cyJ cyO h_o a_o_sets a_o_ringFar a_o_ringTone a_o_currents a_o_warmths a_o_depths a_o_tape a_o_readFar a_o_readTone a_o_readSea a_o_code a_o_cellAt a_o_courseAt a_o_paceAt a_o_turnsAt a_o_slowAt a_o_fuelAt a_o_ringAt a_o_pieceParts a_o_dragCell a_o_dragBy a_o_sums a_o_shares a_o_keptFar a_o_image a_o_lanes a_o_sizes a_o_items a_o_movedItems o_taped o_at o_wrong o_level o_noRings o_noTones o_noFuel o_pieces o_drags o_all o_noPieces o_noDrags o_kept (upd o_pieceParts x_12.toNatClampNeg x1)) := hD
              refine lv_aload_n hx hb dX7_piece_83 rfl (lv_at hl 1 rfl) ?_
              refine va_get (D := (dC, dI)) (ci := 7) (v := .ref a_o_pieceParts) (C := RX7) (T := TX7) (N := 42) hx hb hts hi7 hown hK hP 0 rfl rfl 26 (by decide) hq4 (fun _ h9 => h9) rfl dX7_piece_84 ?_
              refine lv_iload hx hb dX7_piece_87 (lv_at hl 0 rfl) ?_
              refine lv_iconst (v := 1) hx hb dX7_piece_89 (by decide) ?_
              refine lv_iadd hx hb dX7_piece_90 ?_
              refine lv_iload_n hx hb dX7_piece_91 rfl (lv_at hl 3 rfl) ?_
              obtain ⟨h_14, hw⟩ := okC hw
              refine va_iast (i := x_12 + 1) (x := x2) hx hb hK hP hD hS 1 0 rfl rfl h_14 dX7_piece_92 (fun H locs hP hD hS => ?_)
              have hP : va_P (dC, dI) vwCl (W_X7_piece cyI cyJ cyO h_o a_o_sets a_o_ringFar a_o_ringTone a_o_currents a_o_warmths a_o_depths a_o_tape a_o_readFar a_o_readTone a_o_readSea a_o_code a_o_cellAt a_o_courseAt a_o_paceAt a_o_turnsAt a_o_slowAt a_o_fuelAt a_o_ringAt a_o_pieceParts a_o_dragCell a_o_dragBy a_o_sums a_o_shares a_o_keptFar a_o_image a_o_lanes a_o_sizes a_o_items a_o_movedItems o_taped o_at o_wrong o_level o_noRings o_noTones o_noFuel o_pieces o_drags o_all o_noPieces o_noDrags o_kept (upd (upd o_pieceParts x_12.toNatClampNeg x1) (x_12 + 1).toNatClampNeg x2)) H := hP
              have hD : va_D A (W_X7_piece cyI cyJ cyO h_o a_o_sets a_o_ringFar a_o_ringTone a_o_currents a_o_warmths a_o_depths a_o_tape a_o_readFar a_o_readTone a_o_readSea a_o_code a_o_cellAt a_o_courseAt a_o_paceAt a_o_turnsAt a_o_slowAt a_o_fuelAt a_o_ringAt a_o_pieceParts a_o_dragCell a_o_dragBy a_o_sums a_o_shares a_o_keptFar a_o_image a_o_lanes a_o_sizes a_o_items a_o_movedItems o_taped o_at o_wrong o_level o_noRings o_noTones o_noFuel o_pieces o_drags o_all o_noPieces o_noDrags o_kept (upd (upd o_pieceParts x_12.toNatClampNeg x1) (x_12 + 1).toNatClampNeg x2)) := hD
              refine lv_aload_n hx hb dX7_piece_93 rfl (lv_at hl 1 rfl) ?_
              refine va_get (D := (dC, dI)) (ci := 7) (v := .ref a_o_pieceParts) (C := RX7) (T := TX7) (N := 42) hx hb hts hi7 hown hK hP 0 rfl rfl 26 (by decide) hq4 (fun _ h9 => h9) rfl dX7_piece_94 ?_
              refine lv_iload hx hb dX7_piece_97 (lv_at hl 0 rfl) ?_
              refine lv_iconst (v := 2) hx hb dX7_piece_99 (by decide) ?_
              refine lv_iadd hx hb dX7_piece_100 ?_
              refine lv_iload_n hx hb dX7_piece_101 rfl (lv_at hl 4 rfl) ?_
              obtain ⟨h_15, hw⟩ := okC hw
              refine va_iast (i := x_12 + 2) (x := x3) hx hb hK hP hD hS 1 0 rfl rfl h_15 dX7_piece_102 (fun H locs hP hD hS => ?_)
              have hP : va_P (dC, dI) vwCl (W_X7_piece cyI cyJ cyO h_o a_o_sets a_o_ringFar a_o_ringTone a_o_currents a_o_warmths a_o_depths a_o_tape a_o_readFar a_o_readTone a_o_readSea a_o_code a_o_cellAt a_o_courseAt a_o_paceAt a_o_turnsAt a_o_slowAt a_o_fuelAt a_o_ringAt a_o_pieceParts a_o_dragCell a_o_dragBy a_o_sums a_o_shares a_o_keptFar a_o_image a_o_lanes a_o_sizes a_o_items a_o_movedItems o_taped o_at o_wrong o_level o_noRings o_noTones o_noFuel o_pieces o_drags o_all o_noPieces o_noDrags o_kept (upd (upd (upd o_pieceParts x_12.toNatClampNeg x1) (x_12 + 1).toNatClampNeg x2) (x_12 + 2).toNatClampNeg x3)) H := hP
              have hD : va_D A (W_X7_piece cyI cyJ cyO h_o a_o_sets a_o_ringFar a_o_ringTone a_o_currents a_o_warmths a_o_depths a_o_tape a_o_readFar a_o_readTone a_o_readSea a_o_code a_o_cellAt a_o_courseAt a_o_paceAt a_o_turnsAt a_o_slowAt a_o_fuelAt a_o_ringAt a_o_pieceParts a_o_dragCell a_o_dragBy a_o_sums a_o_shares a_o_keptFar a_o_image a_o_lanes a_o_sizes a_o_items a_o_movedItems o_taped o_at o_wrong o_level o_noRings o_noTones o_noFuel o_pieces o_drags o_all o_noPieces o_noDrags o_kept (upd (upd (upd o_pieceParts x_12.toNatClampNeg x1) (x_12 + 1).toNatClampNeg x2) (x_12 + 2).toNatClampNeg x3)) := hD
              refine lv_aload_n hx hb dX7_piece_103 rfl (lv_at hl 1 rfl) ?_
              refine va_get (D := (dC, dI)) (ci := 7) (v := .ref a_o_pieceParts) (C := RX7) (T := TX7) (N := 42) hx hb hts hi7 hown hK hP 0 rfl rfl 26 (by decide) hq4 (fun _ h9 => h9) rfl dX7_piece_104 ?_
              refine lv_iload hx hb dX7_piece_107 (lv_at hl 0 rfl) ?_
              refine lv_iconst (v := 3) hx hb dX7_piece_109 (by decide) ?_
              refine lv_iadd hx hb dX7_piece_110 ?_
              refine lv_iload hx hb dX7_piece_111 (lv_at hl 5 rfl) ?_
              obtain ⟨h_16, hw⟩ := okC hw
              refine va_iast (i := x_12 + 3) (x := x4) hx hb hK hP hD hS 1 0 rfl rfl h_16 dX7_piece_113 (fun H locs hP hD hS => ?_)
              have hP : va_P (dC, dI) vwCl (W_X7_piece cyI cyJ cyO h_o a_o_sets a_o_ringFar a_o_ringTone a_o_currents a_o_warmths a_o_depths a_o_tape a_o_readFar a_o_readTone a_o_readSea a_o_code a_o_cellAt a_o_courseAt a_o_paceAt a_o_turnsAt a_o_slowAt a_o_fuelAt a_o_ringAt a_o_pieceParts a_o_dragCell a_o_dragBy a_o_sums a_o_shares a_o_keptFar a_o_image a_o_lanes a_o_sizes a_o_items a_o_movedItems o_taped o_at o_wrong o_level o_noRings o_noTones o_noFuel o_pieces o_drags o_all o_noPieces o_noDrags o_kept (upd (upd (upd (upd o_pieceParts x_12.toNatClampNeg x1) (x_12 + 1).toNatClampNeg x2) (x_12 + 2).toNatClampNeg x3) (x_12 + 3).toNatClampNeg x4)) H := hP
              have hD : va_D A (W_X7_piece cyI cyJ cyO h_o a_o_sets a_o_ringFar a_o_ringTone a_o_currents a_o_warmths a_o_depths a_o_tape a_o_readFar a_o_readTone a_o_readSea a_o_code a_o_cellAt a_o_courseAt a_o_paceAt a_o_turnsAt a_o_slowAt a_o_fuelAt a_o_ringAt a_o_pieceParts a_o_dragCell a_o_dragBy a_o_sums a_o_shares a_o_keptFar a_o_image a_o_lanes a_o_sizes a_o_items a_o_movedItems o_taped o_at o_wrong o_level o_noRings o_noTones o_noFuel o_pieces o_drags o_all o_noPieces o_noDrags o_kept (upd (upd (upd (upd o_pieceParts x_12.toNatClampNeg x1) (x_12 + 1).toNatClampNeg x2) (x_12 + 2).toNatClampNeg x3) (x_12 + 3).toNatClampNeg x4)) := hD
              refine lv_aload_n hx hb dX7_piece_114 rfl (lv_at hl 1 rfl) ?_
              refine va_get (D := (dC, dI)) (ci := 7) (v := .ref a_o_pieceParts) (C := RX7) (T := TX7) (N := 42) hx hb hts hi7 hown hK hP 0 rfl rfl 26 (by decide) hq4 (fun _ h9 => h9) rfl dX7_piece_115 ?_
              refine lv_iload hx hb dX7_piece_118 (lv_at hl 0 rfl) ?_
              refine lv_iconst (v := 4) hx hb dX7_piece_120 (by decide) ?_
              refine lv_iadd hx hb dX7_piece_121 ?_
              refine lv_iload hx hb dX7_piece_122 (lv_at hl 6 rfl) ?_
              obtain ⟨h_17, hw⟩ := okC hw
              refine va_iast (i := x_12 + 4) (x := x5) hx hb hK hP hD hS 1 0 rfl rfl h_17 dX7_piece_124 (fun H locs hP hD hS => ?_)
              have hP : va_P (dC, dI) vwCl (W_X7_piece cyI cyJ cyO h_o a_o_sets a_o_ringFar a_o_ringTone a_o_currents a_o_warmths a_o_depths a_o_tape a_o_readFar a_o_readTone a_o_readSea a_o_code a_o_cellAt a_o_courseAt a_o_paceAt a_o_turnsAt a_o_slowAt a_o_fuelAt a_o_ringAt a_o_pieceParts a_o_dragCell a_o_dragBy a_o_sums a_o_shares a_o_keptFar a_o_image a_o_lanes a_o_sizes a_o_items a_o_movedItems o_taped o_at o_wrong o_level o_noRings o_noTones o_noFuel o_pieces o_drags o_all o_noPieces o_noDrags o_kept (upd (upd (upd (upd (upd o_pieceParts x_12.toNatClampNeg x1) (x_12 + 1).toNatClampNeg x2) (x_12 + 2).toNatClampNeg x3) (x_12 + 3).toNatClampNeg x4) (x_12 + 4).toNatClampNeg x5)) H := hP
              have hD : va_D A (W_X7_piece cyI cyJ cyO h_o a_o_sets a_o_ringFar a_o_ringTone a_o_currents a_o_warmths a_o_depths a_o_tape a_o_readFar a_o_readTone a_o_readSea a_o_code a_o_cellAt a_o_courseAt a_o_paceAt a_o_turnsAt a_o_slowAt a_o_fuelAt a_o_ringAt a_o_pieceParts a_o_dragCell a_o_dragBy a_o_sums a_o_shares a_o_keptFar a_o_image a_o_lanes a_o_sizes a_o_items a_o_movedItems o_taped o_at o_wrong o_level o_noRings o_noTones o_noFuel o_pieces o_drags o_all o_noPieces o_noDrags o_kept (upd (upd (upd (upd (upd o_pieceParts x_12.toNatClampNeg x1) (x_12 + 1).toNatClampNeg x2) (x_12 + 2).toNatClampNeg x3) (x_12 + 3).toNatClampNeg x4) (x_12 + 4).toNatClampNeg x5)) := hD
              refine lv_aload_n hx hb dX7_piece_125 rfl (lv_at hl 1 rfl) ?_
              refine lv_dup hx hb dX7_piece_126 rfl ?_
              refine va_get (D := (dC, dI)) (ci := 7) (v := .int o_pieces) (C := RX7) (T := TX7) (N := 42) hx hb hts hi7 hown hK hP 0 rfl rfl 25 (by decide) hq2 (fun _ h9 => h9) rfl dX7_piece_127 ?_
              refine lv_iconst (v := 1) hx hb dX7_piece_130 (by decide) ?_
              refine lv_iadd hx hb dX7_piece_131 ?_
              refine lv_topi (fun x_18 ex_18 => ?_)
              replace hw := okN ex_18 hw
              clear ex_18
              refine va_put (D := (dC, dI)) (ci := 7) (v := .int x_18) (ty := .int) (C := RX7) (T := TX7) (N := 42) hx hb hts hi7 tyX7 tyX7_ok nmX7 hown hK hP hD hS 0 rfl rfl 25 (by decide) hq2 (fun _ h9 => h9) rfl (by decide +kernel) rfl rfl (Nat.le_of_ble_eq_true rfl) dX7_piece_132 (fun H locs hP hD hS => ?_)
              have hP : va_P (dC, dI) vwCl (W_X7_piece cyI cyJ cyO h_o a_o_sets a_o_ringFar a_o_ringTone a_o_currents a_o_warmths a_o_depths a_o_tape a_o_readFar a_o_readTone a_o_readSea a_o_code a_o_cellAt a_o_courseAt a_o_paceAt a_o_turnsAt a_o_slowAt a_o_fuelAt a_o_ringAt a_o_pieceParts a_o_dragCell a_o_dragBy a_o_sums a_o_shares a_o_keptFar a_o_image a_o_lanes a_o_sizes a_o_items a_o_movedItems o_taped o_at o_wrong o_level o_noRings o_noTones o_noFuel x_18 o_drags o_all o_noPieces o_noDrags o_kept (upd (upd (upd (upd (upd o_pieceParts x_12.toNatClampNeg x1) (x_12 + 1).toNatClampNeg x2) (x_12 + 2).toNatClampNeg x3) (x_12 + 3).toNatClampNeg x4) (x_12 + 4).toNatClampNeg x5)) H := hP
              have hD : va_D A (W_X7_piece cyI cyJ cyO h_o a_o_sets a_o_ringFar a_o_ringTone a_o_currents a_o_warmths a_o_depths a_o_tape a_o_readFar a_o_readTone a_o_readSea a_o_code a_o_cellAt a_o_courseAt a_o_paceAt a_o_turnsAt a_o_slowAt a_o_fuelAt a_o_ringAt a_o_pieceParts a_o_dragCell a_o_dragBy a_o_sums a_o_shares a_o_keptFar a_o_image a_o_lanes a_o_sizes a_o_items a_o_movedItems o_taped o_at o_wrong o_level o_noRings o_noTones o_noFuel x_18 o_drags o_all o_noPieces o_noDrags o_kept (upd (upd (upd (upd (upd o_pieceParts x_12.toNatClampNeg x1) (x_12 + 1).toNatClampNeg x2) (x_12 + 2).toNatClampNeg x3) (x_12 + 3).toNatClampNeg x4) (x_12 + 4).toNatClampNeg x5)) := hD
              refine lv_aload_n hx hb dX7_piece_135 rfl (lv_at hl 1 rfl) ?_
              refine va_get (D := (dC, dI)) (ci := 7) (v := .int x_18) (C := RX7) (T := TX7) (N := 42) hx hb hts hi7 hown hK hP 0 rfl rfl 25 (by decide) hq2 (fun _ h9 => h9) rfl dX7_piece_136 ?_
              refine lv_iconst (v := 1) hx hb dX7_piece_139 (by decide) ?_
              refine lv_isub hx hb dX7_piece_140 ?_
              rw [hQ]
              exact W.iret (v := x_18 - 1) hx hb hr (fun t ht hW => ⟨⟨x_18 - 1, (x_18, upd (upd (upd (upd (upd o_pieceParts x_12.toNatClampNeg x1) (x_12 + 1).toNatClampNeg x2) (x_12 + 2).toNatClampNeg x3) (x_12 + 3).toNatClampNeg x4) (x_12 + 4).toNatClampNeg x5), rfl, okS hw, by rw [ht]; exact hP, va_K.moved hW.alike hK, hD⟩, hS.F ht⟩) hS.2.2 dX7_piece_141
            · replace hw := okT hw c_11
              clear c_11
              refine lv_bipush (v := (-3)) hx hb dX7_piece_64 (by decide) ?_
              rw [hQ]
              exact W.iret (v := (-3)) hx hb hr (fun t ht hW => ⟨⟨(-3), (o_pieces, o_pieceParts), rfl, okS hw, by rw [ht]; exact hP, va_K.moved hW.alike hK, hD⟩, hS.F ht⟩) hS.2.2 dX7_piece_66
          · replace hw := okT hw c_10
            clear c_10
            refine lv_iconst (v := (-1)) hx hb dX7_piece_54 (by decide) ?_
            rw [hQ]
            exact W.iret (v := (-1)) hx hb hr (fun t ht hW => ⟨⟨(-1), (o_pieces, o_pieceParts), rfl, okS hw, by rw [ht]; exact hP, va_K.moved hW.alike hK, hD⟩, hS.F ht⟩) hS.2.2 dX7_piece_55
/-! ===== X7_drifted ===== -/
theorem dX7_drifted_0 : decode cX7_drifted 0 = .ok (.aload_n 0, 1) := by decide +kernel
theorem dX7_drifted_1 : decode cX7_drifted 1 = .ok (.getfield 19, 3) := by decide +kernel
theorem dX7_drifted_4 : decode cX7_drifted 4 = .ok (.bipush 100, 2) := by decide +kernel
theorem dX7_drifted_6 : decode cX7_drifted 6 = .ok (.iload_n 2, 1) := by decide +kernel
theorem dX7_drifted_7 : decode cX7_drifted 7 = .ok (.iconst 2, 1) := by decide +kernel
theorem dX7_drifted_8 : decode cX7_drifted 8 = .ok (.irem, 1) := by decide +kernel
theorem dX7_drifted_9 : decode cX7_drifted 9 = .ok (.imul, 1) := by decide +kernel
theorem dX7_drifted_10 : decode cX7_drifted 10 = .ok (.iload_n 1, 1) := by decide +kernel
theorem dX7_drifted_11 : decode cX7_drifted 11 = .ok (.iadd, 1) := by decide +kernel
theorem dX7_drifted_12 : decode cX7_drifted 12 = .ok (.iaload, 1) := by decide +kernel
theorem dX7_drifted_13 : decode cX7_drifted 13 = .ok (.istore 4, 2) := by decide +kernel
theorem dX7_drifted_15 : decode cX7_drifted 15 = .ok (.iload 4, 2) := by decide +kernel
theorem dX7_drifted_17 : decode cX7_drifted 17 = .ok (.bipush 8, 2) := by decide +kernel
theorem dX7_drifted_19 : decode cX7_drifted 19 = .ok (.if_icmp .ne 7, 3) := by decide +kernel
theorem dX7_drifted_22 : decode cX7_drifted 22 = .ok (.iload_n 1, 1) := by decide +kernel
theorem dX7_drifted_23 : decode cX7_drifted 23 = .ok (.goto 10, 3) := by decide +kernel
theorem dX7_drifted_26 : decode cX7_drifted 26 = .ok (.iload_n 1, 1) := by decide +kernel
theorem dX7_drifted_27 : decode cX7_drifted 27 = .ok (.iload 4, 2) := by decide +kernel
theorem dX7_drifted_29 : decode cX7_drifted 29 = .ok (.iconst 1, 1) := by decide +kernel
theorem dX7_drifted_30 : decode cX7_drifted 30 = .ok (.invokestatic 173, 3) := by decide +kernel
theorem dX7_drifted_33 : decode cX7_drifted 33 = .ok (.istore 5, 2) := by decide +kernel
theorem dX7_drifted_35 : decode cX7_drifted 35 = .ok (.iload 5, 2) := by decide +kernel
theorem dX7_drifted_37 : decode cX7_drifted 37 = .ok (.ifCond .ge 7, 3) := by decide +kernel
theorem dX7_drifted_40 : decode cX7_drifted 40 = .ok (.iload_n 1, 1) := by decide +kernel
theorem dX7_drifted_41 : decode cX7_drifted 41 = .ok (.goto 5, 3) := by decide +kernel
theorem dX7_drifted_44 : decode cX7_drifted 44 = .ok (.iload 5, 2) := by decide +kernel
theorem dX7_drifted_46 : decode cX7_drifted 46 = .ok (.istore 5, 2) := by decide +kernel
theorem dX7_drifted_48 : decode cX7_drifted 48 = .ok (.iload_n 3, 1) := by decide +kernel
theorem dX7_drifted_49 : decode cX7_drifted 49 = .ok (.ifCond .eq 15, 3) := by decide +kernel
theorem dX7_drifted_52 : decode cX7_drifted 52 = .ok (.aload_n 0, 1) := by decide +kernel
theorem dX7_drifted_53 : decode cX7_drifted 53 = .ok (.getfield 7, 3) := by decide +kernel
theorem dX7_drifted_56 : decode cX7_drifted 56 = .ok (.bipush 7, 2) := by decide +kernel
theorem dX7_drifted_58 : decode cX7_drifted 58 = .ok (.iaload, 1) := by decide +kernel
theorem dX7_drifted_59 : decode cX7_drifted 59 = .ok (.bipush 8, 2) := by decide +kernel
theorem dX7_drifted_61 : decode cX7_drifted 61 = .ok (.if_icmp .ne 8, 3) := by decide +kernel
theorem dX7_drifted_64 : decode cX7_drifted 64 = .ok (.iload 5, 2) := by decide +kernel
theorem dX7_drifted_66 : decode cX7_drifted 66 = .ok (.goto 16, 3) := by decide +kernel
theorem dX7_drifted_69 : decode cX7_drifted 69 = .ok (.iload 5, 2) := by decide +kernel
theorem dX7_drifted_71 : decode cX7_drifted 71 = .ok (.aload_n 0, 1) := by decide +kernel
theorem dX7_drifted_72 : decode cX7_drifted 72 = .ok (.getfield 7, 3) := by decide +kernel
theorem dX7_drifted_75 : decode cX7_drifted 75 = .ok (.bipush 7, 2) := by decide +kernel
theorem dX7_drifted_77 : decode cX7_drifted 77 = .ok (.iaload, 1) := by decide +kernel
theorem dX7_drifted_78 : decode cX7_drifted 78 = .ok (.iconst 1, 1) := by decide +kernel
theorem dX7_drifted_79 : decode cX7_drifted 79 = .ok (.invokestatic 173, 3) := by decide +kernel
theorem dX7_drifted_82 : decode cX7_drifted 82 = .ok (.istore 6, 2) := by decide +kernel
theorem dX7_drifted_84 : decode cX7_drifted 84 = .ok (.iload 6, 2) := by decide +kernel
theorem dX7_drifted_86 : decode cX7_drifted 86 = .ok (.ifCond .ge 8, 3) := by decide +kernel
theorem dX7_drifted_89 : decode cX7_drifted 89 = .ok (.iload 5, 2) := by decide +kernel
theorem dX7_drifted_91 : decode cX7_drifted 91 = .ok (.goto 5, 3) := by decide +kernel
theorem dX7_drifted_94 : decode cX7_drifted 94 = .ok (.iload 6, 2) := by decide +kernel
theorem dX7_drifted_96 : decode cX7_drifted 96 = .ok (.ireturn, 1) := by decide +kernel
abbrev W_X7_drifted (cyI cyJ cyO : ClassId) (h_o a_o_sets a_o_ringFar a_o_ringTone a_o_currents a_o_warmths a_o_depths a_o_tape a_o_readFar a_o_readTone a_o_readSea a_o_code a_o_cellAt a_o_courseAt a_o_paceAt a_o_turnsAt a_o_slowAt a_o_fuelAt a_o_ringAt a_o_pieceParts a_o_dragCell a_o_dragBy a_o_sums a_o_shares a_o_keptFar a_o_image a_o_lanes a_o_sizes a_o_items a_o_movedItems : Nat) (o_taped : Int32) (o_at : Int32) (o_wrong : Int32) (o_level : Int32) (o_noRings : Int32) (o_noTones : Int32) (o_noFuel : Int32) (o_pieces : Int32) (o_drags : Int32) (o_all : Int64) (o_noPieces : Int32) (o_noDrags : Int32) (o_kept : Int32) (o_sets : Nat → Int32) (o_currents : Nat → Int32) : va_W := [(h_o, .inr (7, [.ref a_o_sets, .ref a_o_ringFar, .ref a_o_ringTone, .ref a_o_currents, .ref a_o_warmths, .ref a_o_depths, .ref a_o_tape, .int o_taped, .int o_at, .int o_wrong, .ref a_o_readFar, .ref a_o_readTone, .ref a_o_readSea, .ref a_o_code, .ref a_o_cellAt, .ref a_o_courseAt, .ref a_o_paceAt, .ref a_o_turnsAt, .ref a_o_slowAt, .ref a_o_fuelAt, .ref a_o_ringAt, .int o_level, .int o_noRings, .int o_noTones, .int o_noFuel, .int o_pieces, .ref a_o_pieceParts, .int o_drags, .ref a_o_dragCell, .ref a_o_dragBy, .ref a_o_sums, .long o_all, .int o_noPieces, .int o_noDrags, .ref a_o_shares, .ref a_o_keptFar, .ref a_o_image, .int o_kept, .ref a_o_lanes, .ref a_o_sizes, .ref a_o_items, .ref a_o_movedItems])), (a_o_sets, .inl (cyI, 8, .inl o_sets)), (a_o_currents, .inl (cyI, 200, .inl o_currents))]
def f_X7_drifted_B82 (v5 : Int32) (y0 : Int32) (o_sets : Nat → Int32) (o_currents : Nat → Int32) : Option (Int32) :=
  if 0 ≤ y0 then
    some y0
  else
    some v5
def f_X7_drifted_B64 (v5 : Int32) (o_sets : Nat → Int32) (o_currents : Nat → Int32) : Option (Int32) :=
  f_X7_drifted_B82 v5 v5 o_sets o_currents
def f_X7_drifted_B46 (v3 : Int32) (y0 : Int32) (o_sets : Nat → Int32) (o_currents : Nat → Int32) : Option (Int32) :=
  if v3 = 0 then
    f_X7_drifted_B64 y0 o_sets o_currents
  else
    if (o_sets 7) = 8 then
      f_X7_drifted_B64 y0 o_sets o_currents
    else
      bd1 (f_X7_gone y0 (o_sets 7) 1) fun r_1 =>
      f_X7_drifted_B82 y0 r_1 o_sets o_currents
def f_X7_drifted_B33 (v1 : Int32) (v3 : Int32) (y0 : Int32) (o_sets : Nat → Int32) (o_currents : Nat → Int32) : Option (Int32) :=
  if 0 ≤ y0 then
    f_X7_drifted_B46 v3 y0 o_sets o_currents
  else
    f_X7_drifted_B46 v3 v1 o_sets o_currents
def f_X7_drifted (x1 : Int32) (x2 : Int32) (x3 : Int32) (o_sets : Nat → Int32) (o_currents : Nat → Int32) : Option (Int32) :=
  chk (¬ ((100 * (x2 - x2 / 2 * 2)) + x1 < 0 ∨ 200 ≤ ((100 * (x2 - x2 / 2 * 2)) + x1).toNatClampNeg)) <|
  nm (o_currents ((100 * (x2 - x2 / 2 * 2)) + x1).toNatClampNeg) fun x_2 =>
  if x_2 = 8 then
    f_X7_drifted_B33 x1 x3 x1 o_sets o_currents
  else
    bd1 (f_X7_gone x1 x_2 1) fun r_3 =>
    f_X7_drifted_B33 x1 x3 r_3 o_sets o_currents
abbrev rm_X7_drifted : Room := { frames := 2, cells := 0, slots := 0, locals := 49 }
set_option maxRecDepth 100000 in
set_option maxHeartbeats 4000000 in
theorem c_X7_drifted (l : Launch) (dC : Nat → ClassId) (dI : Nat → Nat → Nat) (cyI cyJ cyO : ClassId) (sz : Nat) (h_o a_o_sets a_o_ringFar a_o_ringTone a_o_currents a_o_warmths a_o_depths a_o_tape a_o_readFar a_o_readTone a_o_readSea a_o_code a_o_cellAt a_o_courseAt a_o_paceAt a_o_turnsAt a_o_slowAt a_o_fuelAt a_o_ringAt a_o_pieceParts a_o_dragCell a_o_dragBy a_o_sums a_o_shares a_o_keptFar a_o_image a_o_lanes a_o_sizes a_o_items a_o_movedItems : Nat) (o_taped : Int32) (o_at : Int32) (o_wrong : Int32) (o_level : Int32) (o_noRings : Int32) (o_noTones : Int32) (o_noFuel : Int32) (o_pieces : Int32) (o_drags : Int32) (o_all : Int64) (o_noPieces : Int32) (o_noDrags : Int32) (o_kept : Int32) (o_sets : Nat → Int32) (o_currents : Nat → Int32) (x1 : Int32) (x2 : Int32) (x3 : Int32) (post : Int32 → Prop) (hf : okP (f_X7_drifted x1 x2 x3 o_sets o_currents) post) : Ci l (dC, dI) (tyL cyI cyJ cyO) yX7_drifted wsX7_drifted rm_X7_drifted [.ref h_o, .int x1, .int x2, .int x3] sz (W_X7_drifted cyI cyJ cyO h_o a_o_sets a_o_ringFar a_o_ringTone a_o_currents a_o_warmths a_o_depths a_o_tape a_o_readFar a_o_readTone a_o_readSea a_o_code a_o_cellAt a_o_courseAt a_o_paceAt a_o_turnsAt a_o_slowAt a_o_fuelAt a_o_ringAt a_o_pieceParts a_o_dragCell a_o_dragBy a_o_sums a_o_shares a_o_keptFar a_o_image a_o_lanes a_o_sizes a_o_items a_o_movedItems o_taped o_at o_wrong o_level o_noRings o_noTones o_noFuel o_pieces o_drags o_all o_noPieces o_noDrags o_kept o_sets o_currents) zN (fun r (_ : Unit) => post r) (fun _ => (W_X7_drifted cyI cyJ cyO h_o a_o_sets a_o_ringFar a_o_ringTone a_o_currents a_o_warmths a_o_depths a_o_tape a_o_readFar a_o_readTone a_o_readSea a_o_code a_o_cellAt a_o_courseAt a_o_paceAt a_o_turnsAt a_o_slowAt a_o_fuelAt a_o_ringAt a_o_pieceParts a_o_dragCell a_o_dragBy a_o_sums a_o_shares a_o_keptFar a_o_image a_o_lanes a_o_sizes a_o_items a_o_movedItems o_taped o_at o_wrong o_level o_noRings o_noTones o_noFuel o_pieces o_drags o_all o_noPieces o_noDrags o_kept o_sets o_currents)) := by
  refine Met.ofW (cc := cX7_drifted) (maxL := 7) (ret := (some .int)) (by decide) rfl ?_
  intro p e s m args below meth c s₁ B hml hv
  obtain ⟨rfl, hsz, hP, hK, hD0, hZ⟩ := hv
  have hx := B.exec
  have hb := B.bytes
  have hr := B.returns
  have hts := atoms_spec (ws := wsX7_drifted) B.pre
  have hown : s.vm.findClass RX7 = some m.cls := findClass_of_methodNamed B.named
  have hlocks := B.notSynchronized
  subst hsz
  have hD := hD0.self (sz := s.heap.size)
  generalize hAe : va_A (W_X7_drifted cyI cyJ cyO h_o a_o_sets a_o_ringFar a_o_ringTone a_o_currents a_o_warmths a_o_depths a_o_tape a_o_readFar a_o_readTone a_o_readSea a_o_code a_o_cellAt a_o_courseAt a_o_paceAt a_o_turnsAt a_o_slowAt a_o_fuelAt a_o_ringAt a_o_pieceParts a_o_dragCell a_o_dragBy a_o_sums a_o_shares a_o_keptFar a_o_image a_o_lanes a_o_sizes a_o_items a_o_movedItems o_taped o_at o_wrong o_level o_noRings o_noTones o_noFuel o_pieces o_drags o_all o_noPieces o_noDrags o_kept o_sets o_currents) s.heap.size = A at hD hZ ⊢
  have hA : ∀ q : Nat, s.heap.size ≤ q → A q := fun q h => by rw [← hAe]; exact Or.inr h
  clear hAe hD0
  have hS : va_S A s.heap s.heap [] := va_S.rf
  have hl := lv_entry ([.ref h_o, .int x1, .int x2, .int x3]) (n := 7) (Nat.le_of_ble_eq_true rfl)
  rw [lg_entry_eq]
  generalize (lg_sl ([.ref h_o, .int x1, .int x2, .int x3]) ++ List.replicate (7 - (lg_sl ([.ref h_o, .int x1, .int x2, .int x3])).length) Slot.unset).toArray = ls at hl ⊢
  have hl : lv_has ls 7 [(0, .ref h_o), (1, .int x1), (2, .int x2), (3, .int x3)] := hl
  refine kW (fun Q hQ => ?_)
  have hq0 := hts _ (List.mem_cons_of_mem _ q_706)
  have hi7 : ∀ w ∈ u_ws RX7 TX7 42, w ∈ wsX7_drifted := fun w h => List.mem_cons_of_mem _ (inX7 w h)
  have hq2 := hts _ (List.mem_cons_of_mem _ q_709)
  have hw := hf
  have w82 : ∀ (v5 : Int32) (y0 : Int32) (H : Heap) (locs : List Loc), va_P (dC, dI) vwCl (W_X7_drifted cyI cyJ cyO h_o a_o_sets a_o_ringFar a_o_ringTone a_o_currents a_o_warmths a_o_depths a_o_tape a_o_readFar a_o_readTone a_o_readSea a_o_code a_o_cellAt a_o_courseAt a_o_paceAt a_o_turnsAt a_o_slowAt a_o_fuelAt a_o_ringAt a_o_pieceParts a_o_dragCell a_o_dragBy a_o_sums a_o_shares a_o_keptFar a_o_image a_o_lanes a_o_sizes a_o_items a_o_movedItems o_taped o_at o_wrong o_level o_noRings o_noTones o_noFuel o_pieces o_drags o_all o_noPieces o_noDrags o_kept o_sets o_currents) H → va_D A (W_X7_drifted cyI cyJ cyO h_o a_o_sets a_o_ringFar a_o_ringTone a_o_currents a_o_warmths a_o_depths a_o_tape a_o_readFar a_o_readTone a_o_readSea a_o_code a_o_cellAt a_o_courseAt a_o_paceAt a_o_turnsAt a_o_slowAt a_o_fuelAt a_o_ringAt a_o_pieceParts a_o_dragCell a_o_dragBy a_o_sums a_o_shares a_o_keptFar a_o_image a_o_lanes a_o_sizes a_o_items a_o_movedItems o_taped o_at o_wrong o_level o_noRings o_noTones o_noFuel o_pieces o_drags o_all o_noPieces o_noDrags o_kept o_sets o_currents) → va_S A s.heap H locs → ∀ (ls : Array Slot), lv_has ls 7 [(5, .int v5)] → okP (f_X7_drifted_B82 v5 y0 o_sets o_currents) post → W p l e (headSpec wsX7_drifted rm_X7_drifted).room s m ([.ref h_o, .int x1, .int x2, .int x3] : List Value).toArray below meth c H locs 0 0 Q (F0 m 82 ls [.int y0]) := by
    intro v5 y0 H locs hP hD hS ls hl hw
    unfold f_X7_drifted_B82 at hw
    refine lv_istore (lv' := [(6, .int y0), (5, .int v5)]) hx hb dX7_drifted_82 hl (by decide) rfl (fun ls hl => ?_)
    refine lv_iload hx hb dX7_drifted_84 (lv_at hl 0 rfl) ?_
    refine lv_if_ge (tgt := 94) hx hb dX7_drifted_86 (by decide) (fun c_1 => ?_) (fun c_1 => ?_)
    · replace hw := okT hw c_1
      clear c_1
      refine lv_iload hx hb dX7_drifted_94 (lv_at hl 0 rfl) ?_
      rw [hQ]
      exact W.iret (v := y0) hx hb hr (fun t ht hW => ⟨⟨y0, (), rfl, okS hw, by rw [ht]; exact hP, va_K.moved hW.alike hK, hD⟩, hS.F ht⟩) hS.2.2 dX7_drifted_96
    · replace hw := okF hw c_1
      clear c_1
      refine lv_iload hx hb dX7_drifted_89 (lv_at hl 1 rfl) ?_
      refine lv_goto (tgt := 96) hx hb dX7_drifted_91 (by decide) ?_
      rw [hQ]
      exact W.iret (v := v5) hx hb hr (fun t ht hW => ⟨⟨v5, (), rfl, okS hw, by rw [ht]; exact hP, va_K.moved hW.alike hK, hD⟩, hS.F ht⟩) hS.2.2 dX7_drifted_96
  have w64 : ∀ (v5 : Int32) (H : Heap) (locs : List Loc), va_P (dC, dI) vwCl (W_X7_drifted cyI cyJ cyO h_o a_o_sets a_o_ringFar a_o_ringTone a_o_currents a_o_warmths a_o_depths a_o_tape a_o_readFar a_o_readTone a_o_readSea a_o_code a_o_cellAt a_o_courseAt a_o_paceAt a_o_turnsAt a_o_slowAt a_o_fuelAt a_o_ringAt a_o_pieceParts a_o_dragCell a_o_dragBy a_o_sums a_o_shares a_o_keptFar a_o_image a_o_lanes a_o_sizes a_o_items a_o_movedItems o_taped o_at o_wrong o_level o_noRings o_noTones o_noFuel o_pieces o_drags o_all o_noPieces o_noDrags o_kept o_sets o_currents) H → va_D A (W_X7_drifted cyI cyJ cyO h_o a_o_sets a_o_ringFar a_o_ringTone a_o_currents a_o_warmths a_o_depths a_o_tape a_o_readFar a_o_readTone a_o_readSea a_o_code a_o_cellAt a_o_courseAt a_o_paceAt a_o_turnsAt a_o_slowAt a_o_fuelAt a_o_ringAt a_o_pieceParts a_o_dragCell a_o_dragBy a_o_sums a_o_shares a_o_keptFar a_o_image a_o_lanes a_o_sizes a_o_items a_o_movedItems o_taped o_at o_wrong o_level o_noRings o_noTones o_noFuel o_pieces o_drags o_all o_noPieces o_noDrags o_kept o_sets o_currents) → va_S A s.heap H locs → ∀ (ls : Array Slot), lv_has ls 7 [(5, .int v5)] → okP (f_X7_drifted_B64 v5 o_sets o_currents) post → W p l e (headSpec wsX7_drifted rm_X7_drifted).room s m ([.ref h_o, .int x1, .int x2, .int x3] : List Value).toArray below meth c H locs 0 0 Q (F0 m 64 ls []) := by
    intro v5 H locs hP hD hS ls hl hw
    unfold f_X7_drifted_B64 at hw
    refine lv_iload hx hb dX7_drifted_64 (lv_at hl 0 rfl) ?_
    refine lv_goto (tgt := 82) hx hb dX7_drifted_66 (by decide) ?_
    exact w82 v5 v5 _ _ hP hD hS _ (lv_sub hl [0] rfl) hw
  have w46 : ∀ (v3 : Int32) (y0 : Int32) (H : Heap) (locs : List Loc), va_P (dC, dI) vwCl (W_X7_drifted cyI cyJ cyO h_o a_o_sets a_o_ringFar a_o_ringTone a_o_currents a_o_warmths a_o_depths a_o_tape a_o_readFar a_o_readTone a_o_readSea a_o_code a_o_cellAt a_o_courseAt a_o_paceAt a_o_turnsAt a_o_slowAt a_o_fuelAt a_o_ringAt a_o_pieceParts a_o_dragCell a_o_dragBy a_o_sums a_o_shares a_o_keptFar a_o_image a_o_lanes a_o_sizes a_o_items a_o_movedItems o_taped o_at o_wrong o_level o_noRings o_noTones o_noFuel o_pieces o_drags o_all o_noPieces o_noDrags o_kept o_sets o_currents) H → va_D A (W_X7_drifted cyI cyJ cyO h_o a_o_sets a_o_ringFar a_o_ringTone a_o_currents a_o_warmths a_o_depths a_o_tape a_o_readFar a_o_readTone a_o_readSea a_o_code a_o_cellAt a_o_courseAt a_o_paceAt a_o_turnsAt a_o_slowAt a_o_fuelAt a_o_ringAt a_o_pieceParts a_o_dragCell a_o_dragBy a_o_sums a_o_shares a_o_keptFar a_o_image a_o_lanes a_o_sizes a_o_items a_o_movedItems o_taped o_at o_wrong o_level o_noRings o_noTones o_noFuel o_pieces o_drags o_all o_noPieces o_noDrags o_kept o_sets o_currents) → va_S A s.heap H locs → ∀ (ls : Array Slot), lv_has ls 7 [(0, .ref h_o), (3, .int v3)] → okP (f_X7_drifted_B46 v3 y0 o_sets o_currents) post → W p l e (headSpec wsX7_drifted rm_X7_drifted).room s m ([.ref h_o, .int x1, .int x2, .int x3] : List Value).toArray below meth c H locs 0 0 Q (F0 m 46 ls [.int y0]) := by
    intro v3 y0 H locs hP hD hS ls hl hw
    unfold f_X7_drifted_B46 at hw
    refine lv_istore (lv' := [(5, .int y0), (0, .ref h_o), (3, .int v3)]) hx hb dX7_drifted_46 hl (by decide) rfl (fun ls hl => ?_)
    refine lv_iload_n hx hb dX7_drifted_48 rfl (lv_at hl 2 rfl) ?_
    refine lv_if_eq (tgt := 64) hx hb dX7_drifted_49 (by decide) (fun c_2 => ?_) (fun c_2 => ?_)
    · replace hw := okT hw c_2
      clear c_2
      exact w64 y0 _ _ hP hD hS _ (lv_sub hl [0] rfl) hw
    · replace hw := okF hw c_2
      clear c_2
      refine lv_aload_n hx hb dX7_drifted_52 rfl (lv_at hl 1 rfl) ?_
      refine va_get (D := (dC, dI)) (ci := 7) (v := .ref a_o_sets) (C := RX7) (T := TX7) (N := 42) hx hb hts hi7 hown hK hP 0 rfl rfl 0 (by decide) hq0 (fun _ h9 => h9) rfl dX7_drifted_53 ?_
      refine lv_bipush (v := 7) hx hb dX7_drifted_56 (by decide) ?_
      refine va_iald (i := 7) hx hb hK hP 1 0 rfl rfl (show ¬ _ by decide) dX7_drifted_58 ?_
      refine lv_bipush (v := 8) hx hb dX7_drifted_59 (by decide) ?_
      refine lv_icmp_ne (tgt := 69) hx hb dX7_drifted_61 (by decide) (fun c_3 => ?_) (fun c_3 => ?_)
      · replace hw := okF hw c_3
        clear c_3
        refine lv_iload hx hb dX7_drifted_69 (lv_at hl 0 rfl) ?_
        refine lv_aload_n hx hb dX7_drifted_71 rfl (lv_at hl 1 rfl) ?_
        refine va_get (D := (dC, dI)) (ci := 7) (v := .ref a_o_sets) (C := RX7) (T := TX7) (N := 42) hx hb hts hi7 hown hK hP 0 rfl rfl 0 (by decide) hq0 (fun _ h9 => h9) rfl dX7_drifted_72 ?_
        refine lv_bipush (v := 7) hx hb dX7_drifted_75 (by decide) ?_
        refine va_iald (i := 7) hx hb hK hP 1 0 rfl rfl (show ¬ _ by decide) dX7_drifted_77 ?_
        refine lv_iconst (v := 1) hx hb dX7_drifted_78 (by decide) ?_
        have hFc := va_free (wc := []) hD hS hA [] rfl
        refine kp_i (va_runS (As := [.int y0, .int (o_sets 7), .int 1]) (rest := []) ⟨hx, hb, hml, hown, hts⟩ (c_X7_gone l dC dI cyI cyJ cyO H.size y0 (o_sets 7) 1 _ (okb1 hw)) (va_cwS 3 hts (gdS (fun w h => List.mem_cons_of_mem _ h) q_912 q_913 q_8 q_914) rfl rfl rfl (by decide +kernel) ⟨Nat.le_of_ble_eq_true rfl, Nat.le_of_ble_eq_true rfl⟩) (kpre zN_ok hK va_P0 va_D0 trivial hS hFc) rfl rfl hl.1 rfl (lv_room (Nat.le_of_ble_eq_true rfl)) dX7_drifted_79 ⟨Nat.le_of_ble_eq_true rfl, Nat.le_of_ble_eq_true rfl⟩) hP hD hS hFc (fun r_4 H locs hw hP hS => ?_)
        try dsimp only at hw
        clear hFc
        exact w82 y0 r_4 _ _ hP hD hS _ (lv_sub hl [0] rfl) hw
      · replace hw := okT hw c_3
        clear c_3
        exact w64 y0 _ _ hP hD hS _ (lv_sub hl [0] rfl) hw
  have w33 : ∀ (v1 : Int32) (v3 : Int32) (y0 : Int32) (H : Heap) (locs : List Loc), va_P (dC, dI) vwCl (W_X7_drifted cyI cyJ cyO h_o a_o_sets a_o_ringFar a_o_ringTone a_o_currents a_o_warmths a_o_depths a_o_tape a_o_readFar a_o_readTone a_o_readSea a_o_code a_o_cellAt a_o_courseAt a_o_paceAt a_o_turnsAt a_o_slowAt a_o_fuelAt a_o_ringAt a_o_pieceParts a_o_dragCell a_o_dragBy a_o_sums a_o_shares a_o_keptFar a_o_image a_o_lanes a_o_sizes a_o_items a_o_movedItems o_taped o_at o_wrong o_level o_noRings o_noTones o_noFuel o_pieces o_drags o_all o_noPieces o_noDrags o_kept o_sets o_currents) H → va_D A (W_X7_drifted cyI cyJ cyO h_o a_o_sets a_o_ringFar a_o_ringTone a_o_currents a_o_warmths a_o_depths a_o_tape a_o_readFar a_o_readTone a_o_readSea a_o_code a_o_cellAt a_o_courseAt a_o_paceAt a_o_turnsAt a_o_slowAt a_o_fuelAt a_o_ringAt a_o_pieceParts a_o_dragCell a_o_dragBy a_o_sums a_o_shares a_o_keptFar a_o_image a_o_lanes a_o_sizes a_o_items a_o_movedItems o_taped o_at o_wrong o_level o_noRings o_noTones o_noFuel o_pieces o_drags o_all o_noPieces o_noDrags o_kept o_sets o_currents) → va_S A s.heap H locs → ∀ (ls : Array Slot), lv_has ls 7 [(0, .ref h_o), (1, .int v1), (3, .int v3)] → okP (f_X7_drifted_B33 v1 v3 y0 o_sets o_currents) post → W p l e (headSpec wsX7_drifted rm_X7_drifted).room s m ([.ref h_o, .int x1, .int x2, .int x3] : List Value).toArray below meth c H locs 0 0 Q (F0 m 33 ls [.int y0]) := by
    intro v1 v3 y0 H locs hP hD hS ls hl hw
    unfold f_X7_drifted_B33 at hw
    refine lv_istore (lv' := [(5, .int y0), (0, .ref h_o), (1, .int v1), (3, .int v3)]) hx hb dX7_drifted_33 hl (by decide) rfl (fun ls hl => ?_)
    refine lv_iload hx hb dX7_drifted_35 (lv_at hl 0 rfl) ?_
    refine lv_if_ge (tgt := 44) hx hb dX7_drifted_37 (by decide) (fun c_5 => ?_) (fun c_5 => ?_)
    · replace hw := okT hw c_5
      clear c_5
      refine lv_iload hx hb dX7_drifted_44 (lv_at hl 0 rfl) ?_
      exact w46 v3 y0 _ _ hP hD hS _ (lv_sub hl [1, 3] rfl) hw
    · replace hw := okF hw c_5
      clear c_5
      refine lv_iload_n hx hb dX7_drifted_40 rfl (lv_at hl 2 rfl) ?_
      refine lv_goto (tgt := 46) hx hb dX7_drifted_41 (by decide) ?_
      exact w46 v3 v1 _ _ hP hD hS _ (lv_sub hl [1, 3] rfl) hw
  unfold f_X7_drifted at hw
  have hP : va_P (dC, dI) vwCl (W_X7_drifted cyI cyJ cyO h_o a_o_sets a_o_ringFar a_o_ringTone a_o_currents a_o_warmths a_o_depths a_o_tape a_o_readFar a_o_readTone a_o_readSea a_o_code a_o_cellAt a_o_courseAt a_o_paceAt a_o_turnsAt a_o_slowAt a_o_fuelAt a_o_ringAt a_o_pieceParts a_o_dragCell a_o_dragBy a_o_sums a_o_shares a_o_keptFar a_o_image a_o_lanes a_o_sizes a_o_items a_o_movedItems o_taped o_at o_wrong o_level o_noRings o_noTones o_noFuel o_pieces o_drags o_all o_noPieces o_noDrags o_kept o_sets o_currents) s.heap := hP
  obtain ⟨H, hH⟩ : ∃ H, H = s.heap := ⟨_, rfl⟩
  obtain ⟨locs, hlo⟩ : ∃ x : List Loc, x = [] := ⟨_, rfl⟩
  have hP : va_P (dC, dI) vwCl (W_X7_drifted cyI cyJ cyO h_o a_o_sets a_o_ringFar a_o_ringTone a_o_currents a_o_warmths a_o_depths a_o_tape a_o_readFar a_o_readTone a_o_readSea a_o_code a_o_cellAt a_o_courseAt a_o_paceAt a_o_turnsAt a_o_slowAt a_o_fuelAt a_o_ringAt a_o_pieceParts a_o_dragCell a_o_dragBy a_o_sums a_o_shares a_o_keptFar a_o_image a_o_lanes a_o_sizes a_o_items a_o_movedItems o_taped o_at o_wrong o_level o_noRings o_noTones o_noFuel o_pieces o_drags o_all o_noPieces o_noDrags o_kept o_sets o_currents) H := by rw [hH]; exact hP
  have hS : va_S A s.heap H locs := by rw [hH, hlo]; exact hS
  refine kH hH hlo ?_
  clear hH hlo
  refine lv_aload_n hx hb dX7_drifted_0 rfl (lv_at hl 0 rfl) ?_
  refine va_get (D := (dC, dI)) (ci := 7) (v := .ref a_o_currents) (C := RX7) (T := TX7) (N := 42) hx hb hts hi7 hown hK hP 0 rfl rfl 3 (by decide) hq2 (fun _ h9 => h9) rfl dX7_drifted_1 ?_
  refine lv_bipush (v := 100) hx hb dX7_drifted_4 (by decide) ?_
  refine lv_iload_n hx hb dX7_drifted_6 rfl (lv_at hl 2 rfl) ?_
  refine lv_iconst (v := 2) hx hb dX7_drifted_7 (by decide) ?_
  refine lv_irem hx hb dX7_drifted_8 (by decide) ?_
  refine lv_imul hx hb dX7_drifted_9 ?_
  refine lv_iload_n hx hb dX7_drifted_10 rfl (lv_at hl 1 rfl) ?_
  refine lv_iadd hx hb dX7_drifted_11 ?_
  obtain ⟨h_6, hw⟩ := okC hw
  refine va_iald (i := (100 * (x2 - x2 / 2 * 2)) + x1) hx hb hK hP 2 0 rfl rfl h_6 dX7_drifted_12 ?_
  refine lv_topi (fun x_7 ex_7 => ?_)
  replace hw := okN ex_7 hw
  clear ex_7
  refine lv_istore (lv' := [(4, .int x_7), (0, .ref h_o), (1, .int x1), (2, .int x2), (3, .int x3)]) hx hb dX7_drifted_13 hl (by decide) rfl (fun ls hl => ?_)
  refine lv_iload hx hb dX7_drifted_15 (lv_at hl 0 rfl) ?_
  refine lv_bipush (v := 8) hx hb dX7_drifted_17 (by decide) ?_
  refine lv_icmp_ne (tgt := 26) hx hb dX7_drifted_19 (by decide) (fun c_8 => ?_) (fun c_8 => ?_)
  · replace hw := okF hw c_8
    clear c_8
    refine lv_iload_n hx hb dX7_drifted_26 rfl (lv_at hl 2 rfl) ?_
    refine lv_iload hx hb dX7_drifted_27 (lv_at hl 0 rfl) ?_
    refine lv_iconst (v := 1) hx hb dX7_drifted_29 (by decide) ?_
    have hFc := va_free (wc := []) hD hS hA [] rfl
    refine kp_i (va_runS (As := [.int x1, .int x_7, .int 1]) (rest := []) ⟨hx, hb, hml, hown, hts⟩ (c_X7_gone l dC dI cyI cyJ cyO H.size x1 x_7 1 _ (okb1 hw)) (va_cwS 3 hts (gdS (fun w h => List.mem_cons_of_mem _ h) q_912 q_913 q_8 q_914) rfl rfl rfl (by decide +kernel) ⟨Nat.le_of_ble_eq_true rfl, Nat.le_of_ble_eq_true rfl⟩) (kpre zN_ok hK va_P0 va_D0 trivial hS hFc) rfl rfl hl.1 rfl (lv_room (Nat.le_of_ble_eq_true rfl)) dX7_drifted_30 ⟨Nat.le_of_ble_eq_true rfl, Nat.le_of_ble_eq_true rfl⟩) hP hD hS hFc (fun r_9 H locs hw hP hS => ?_)
    try dsimp only at hw
    clear hFc
    exact w33 x1 x3 r_9 _ _ hP hD hS _ (lv_sub hl [1, 2, 4] rfl) hw
  · replace hw := okT hw c_8
    clear c_8
    refine lv_iload_n hx hb dX7_drifted_22 rfl (lv_at hl 2 rfl) ?_
    refine lv_goto (tgt := 33) hx hb dX7_drifted_23 (by decide) ?_
    exact w33 x1 x3 x1 _ _ hP hD hS _ (lv_sub hl [1, 2, 4] rfl) hw
/-! ===== X7_driftTo ===== -/
theorem dX7_driftTo_0 : decode cX7_driftTo 0 = .ok (.iload_n 1, 1) := by decide +kernel
theorem dX7_driftTo_1 : decode cX7_driftTo 1 = .ok (.istore 4, 2) := by decide +kernel
theorem dX7_driftTo_3 : decode cX7_driftTo 3 = .ok (.iconst 0, 1) := by decide +kernel
theorem dX7_driftTo_4 : decode cX7_driftTo 4 = .ok (.istore 5, 2) := by decide +kernel
theorem dX7_driftTo_6 : decode cX7_driftTo 6 = .ok (.iload 5, 2) := by decide +kernel
theorem dX7_driftTo_8 : decode cX7_driftTo 8 = .ok (.iload_n 2, 1) := by decide +kernel
theorem dX7_driftTo_9 : decode cX7_driftTo 9 = .ok (.if_icmp .ge 20, 3) := by decide +kernel
theorem dX7_driftTo_12 : decode cX7_driftTo 12 = .ok (.aload_n 0, 1) := by decide +kernel
theorem dX7_driftTo_13 : decode cX7_driftTo 13 = .ok (.iload 4, 2) := by decide +kernel
theorem dX7_driftTo_15 : decode cX7_driftTo 15 = .ok (.iload 5, 2) := by decide +kernel
theorem dX7_driftTo_17 : decode cX7_driftTo 17 = .ok (.iload_n 3, 1) := by decide +kernel
theorem dX7_driftTo_18 : decode cX7_driftTo 18 = .ok (.invokevirtual 209, 3) := by decide +kernel
theorem dX7_driftTo_21 : decode cX7_driftTo 21 = .ok (.istore 4, 2) := by decide +kernel
theorem dX7_driftTo_23 : decode cX7_driftTo 23 = .ok (.iinc 5 1, 3) := by decide +kernel
theorem dX7_driftTo_26 : decode cX7_driftTo 26 = .ok (.goto (-20), 3) := by decide +kernel
theorem dX7_driftTo_29 : decode cX7_driftTo 29 = .ok (.iload 4, 2) := by decide +kernel
theorem dX7_driftTo_31 : decode cX7_driftTo 31 = .ok (.ireturn, 1) := by decide +kernel
abbrev W_X7_driftTo (cyI cyJ cyO : ClassId) (h_o a_o_sets a_o_ringFar a_o_ringTone a_o_currents a_o_warmths a_o_depths a_o_tape a_o_readFar a_o_readTone a_o_readSea a_o_code a_o_cellAt a_o_courseAt a_o_paceAt a_o_turnsAt a_o_slowAt a_o_fuelAt a_o_ringAt a_o_pieceParts a_o_dragCell a_o_dragBy a_o_sums a_o_shares a_o_keptFar a_o_image a_o_lanes a_o_sizes a_o_items a_o_movedItems : Nat) (o_taped : Int32) (o_at : Int32) (o_wrong : Int32) (o_level : Int32) (o_noRings : Int32) (o_noTones : Int32) (o_noFuel : Int32) (o_pieces : Int32) (o_drags : Int32) (o_all : Int64) (o_noPieces : Int32) (o_noDrags : Int32) (o_kept : Int32) (o_sets : Nat → Int32) (o_currents : Nat → Int32) : va_W := [(h_o, .inr (7, [.ref a_o_sets, .ref a_o_ringFar, .ref a_o_ringTone, .ref a_o_currents, .ref a_o_warmths, .ref a_o_depths, .ref a_o_tape, .int o_taped, .int o_at, .int o_wrong, .ref a_o_readFar, .ref a_o_readTone, .ref a_o_readSea, .ref a_o_code, .ref a_o_cellAt, .ref a_o_courseAt, .ref a_o_paceAt, .ref a_o_turnsAt, .ref a_o_slowAt, .ref a_o_fuelAt, .ref a_o_ringAt, .int o_level, .int o_noRings, .int o_noTones, .int o_noFuel, .int o_pieces, .ref a_o_pieceParts, .int o_drags, .ref a_o_dragCell, .ref a_o_dragBy, .ref a_o_sums, .long o_all, .int o_noPieces, .int o_noDrags, .ref a_o_shares, .ref a_o_keptFar, .ref a_o_image, .int o_kept, .ref a_o_lanes, .ref a_o_sizes, .ref a_o_items, .ref a_o_movedItems])), (a_o_sets, .inl (cyI, 8, .inl o_sets)), (a_o_currents, .inl (cyI, 200, .inl o_currents))]
def f_X7_driftTo_L6b (k6 : Int32 → Int32 → Int32 → Int32 → (Nat → Int32) → (Nat → Int32) → Option (Int32)) (v2 : Int32) (v3 : Int32) (v4 : Int32) (v5 : Int32) (o_sets : Nat → Int32) (o_currents : Nat → Int32) : Option (Int32) :=
  if v2 ≤ v5 then
    some v4
  else
    bd1 (f_X7_drifted v4 v5 v3 o_sets o_currents) fun r_1 =>
    nm (v5 + 1) fun x_2 =>
    k6 v2 v3 r_1 x_2 o_sets o_currents
def f_X7_driftTo_L6 : Nat → Int32 → Int32 → Int32 → Int32 → (Nat → Int32) → (Nat → Int32) → Option (Int32)
  | 0 => fun _ _ _ _ _ _ => none
  | n + 1 => f_X7_driftTo_L6b (f_X7_driftTo_L6 n)
def f_X7_driftTo (x1 : Int32) (x2 : Int32) (x3 : Int32) (o_sets : Nat → Int32) (o_currents : Nat → Int32) : Option (Int32) :=
  f_X7_driftTo_L6 FU x2 x3 x1 0 o_sets o_currents
abbrev rm_X7_driftTo : Room := { frames := 3, cells := 0, slots := 0, locals := 75 }
set_option maxRecDepth 100000 in
set_option maxHeartbeats 4000000 in
theorem c_X7_driftTo (l : Launch) (dC : Nat → ClassId) (dI : Nat → Nat → Nat) (cyI cyJ cyO : ClassId) (sz : Nat) (h_o a_o_sets a_o_ringFar a_o_ringTone a_o_currents a_o_warmths a_o_depths a_o_tape a_o_readFar a_o_readTone a_o_readSea a_o_code a_o_cellAt a_o_courseAt a_o_paceAt a_o_turnsAt a_o_slowAt a_o_fuelAt a_o_ringAt a_o_pieceParts a_o_dragCell a_o_dragBy a_o_sums a_o_shares a_o_keptFar a_o_image a_o_lanes a_o_sizes a_o_items a_o_movedItems : Nat) (o_taped : Int32) (o_at : Int32) (o_wrong : Int32) (o_level : Int32) (o_noRings : Int32) (o_noTones : Int32) (o_noFuel : Int32) (o_pieces : Int32) (o_drags : Int32) (o_all : Int64) (o_noPieces : Int32) (o_noDrags : Int32) (o_kept : Int32) (o_sets : Nat → Int32) (o_currents : Nat → Int32) (x1 : Int32) (x2 : Int32) (x3 : Int32) (post : Int32 → Prop) (hf : okP (f_X7_driftTo x1 x2 x3 o_sets o_currents) post) : Ci l (dC, dI) (tyL cyI cyJ cyO) yX7_driftTo wsX7_driftTo rm_X7_driftTo [.ref h_o, .int x1, .int x2, .int x3] sz (W_X7_driftTo cyI cyJ cyO h_o a_o_sets a_o_ringFar a_o_ringTone a_o_currents a_o_warmths a_o_depths a_o_tape a_o_readFar a_o_readTone a_o_readSea a_o_code a_o_cellAt a_o_courseAt a_o_paceAt a_o_turnsAt a_o_slowAt a_o_fuelAt a_o_ringAt a_o_pieceParts a_o_dragCell a_o_dragBy a_o_sums a_o_shares a_o_keptFar a_o_image a_o_lanes a_o_sizes a_o_items a_o_movedItems o_taped o_at o_wrong o_level o_noRings o_noTones o_noFuel o_pieces o_drags o_all o_noPieces o_noDrags o_kept o_sets o_currents) zN (fun r (_ : Unit) => post r) (fun _ => (W_X7_driftTo cyI cyJ cyO h_o a_o_sets a_o_ringFar a_o_ringTone a_o_currents a_o_warmths a_o_depths a_o_tape a_o_readFar a_o_readTone a_o_readSea a_o_code a_o_cellAt a_o_courseAt a_o_paceAt a_o_turnsAt a_o_slowAt a_o_fuelAt a_o_ringAt a_o_pieceParts a_o_dragCell a_o_dragBy a_o_sums a_o_shares a_o_keptFar a_o_image a_o_lanes a_o_sizes a_o_items a_o_movedItems o_taped o_at o_wrong o_level o_noRings o_noTones o_noFuel o_pieces o_drags o_all o_noPieces o_noDrags o_kept o_sets o_currents)) := by
  refine Met.ofW (cc := cX7_driftTo) (maxL := 6) (ret := (some .int)) (by decide) rfl ?_
  intro p e s m args below meth c s₁ B hml hv
  obtain ⟨rfl, hsz, hP, hK, hD0, hZ⟩ := hv
  have hx := B.exec
  have hb := B.bytes
  have hr := B.returns
  have hts := atoms_spec (ws := wsX7_driftTo) B.pre
  have hown : s.vm.findClass RX7 = some m.cls := findClass_of_methodNamed B.named
  have hlocks := B.notSynchronized
  subst hsz
  have hD := hD0.self (sz := s.heap.size)
  generalize hAe : va_A (W_X7_driftTo cyI cyJ cyO h_o a_o_sets a_o_ringFar a_o_ringTone a_o_currents a_o_warmths a_o_depths a_o_tape a_o_readFar a_o_readTone a_o_readSea a_o_code a_o_cellAt a_o_courseAt a_o_paceAt a_o_turnsAt a_o_slowAt a_o_fuelAt a_o_ringAt a_o_pieceParts a_o_dragCell a_o_dragBy a_o_sums a_o_shares a_o_keptFar a_o_image a_o_lanes a_o_sizes a_o_items a_o_movedItems o_taped o_at o_wrong o_level o_noRings o_noTones o_noFuel o_pieces o_drags o_all o_noPieces o_noDrags o_kept o_sets o_currents) s.heap.size = A at hD hZ ⊢
  have hA : ∀ q : Nat, s.heap.size ≤ q → A q := fun q h => by rw [← hAe]; exact Or.inr h
  clear hAe hD0
  have hS : va_S A s.heap s.heap [] := va_S.rf
  have hl := lv_entry ([.ref h_o, .int x1, .int x2, .int x3]) (n := 6) (Nat.le_of_ble_eq_true rfl)
  rw [lg_entry_eq]
  generalize (lg_sl ([.ref h_o, .int x1, .int x2, .int x3]) ++ List.replicate (6 - (lg_sl ([.ref h_o, .int x1, .int x2, .int x3])).length) Slot.unset).toArray = ls at hl ⊢
  have hl : lv_has ls 6 [(0, .ref h_o), (1, .int x1), (2, .int x2), (3, .int x3)] := hl
  refine kW (fun Q hQ => ?_)
  have hw := hf
  have w6 : ∀ (n : Nat), ∀ (v2 : Int32) (v3 : Int32) (v4 : Int32) (v5 : Int32) (H : Heap) (locs : List Loc), va_P (dC, dI) vwCl (W_X7_driftTo cyI cyJ cyO h_o a_o_sets a_o_ringFar a_o_ringTone a_o_currents a_o_warmths a_o_depths a_o_tape a_o_readFar a_o_readTone a_o_readSea a_o_code a_o_cellAt a_o_courseAt a_o_paceAt a_o_turnsAt a_o_slowAt a_o_fuelAt a_o_ringAt a_o_pieceParts a_o_dragCell a_o_dragBy a_o_sums a_o_shares a_o_keptFar a_o_image a_o_lanes a_o_sizes a_o_items a_o_movedItems o_taped o_at o_wrong o_level o_noRings o_noTones o_noFuel o_pieces o_drags o_all o_noPieces o_noDrags o_kept o_sets o_currents) H → va_D A (W_X7_driftTo cyI cyJ cyO h_o a_o_sets a_o_ringFar a_o_ringTone a_o_currents a_o_warmths a_o_depths a_o_tape a_o_readFar a_o_readTone a_o_readSea a_o_code a_o_cellAt a_o_courseAt a_o_paceAt a_o_turnsAt a_o_slowAt a_o_fuelAt a_o_ringAt a_o_pieceParts a_o_dragCell a_o_dragBy a_o_sums a_o_shares a_o_keptFar a_o_image a_o_lanes a_o_sizes a_o_items a_o_movedItems o_taped o_at o_wrong o_level o_noRings o_noTones o_noFuel o_pieces o_drags o_all o_noPieces o_noDrags o_kept o_sets o_currents) → va_S A s.heap H locs → ∀ (ls : Array Slot), lv_has ls 6 [(0, .ref h_o), (2, .int v2), (3, .int v3), (4, .int v4), (5, .int v5)] → okP (f_X7_driftTo_L6 n v2 v3 v4 v5 o_sets o_currents) post → W p l e (headSpec wsX7_driftTo rm_X7_driftTo).room s m ([.ref h_o, .int x1, .int x2, .int x3] : List Value).toArray below meth c H locs 0 0 Q (F0 m 6 ls []) := by
    intro n
    induction n with
    | zero =>
      intro v2 v3 v4 v5 H locs hP hD hS ls hl hw
      exact (ok0 hw).elim
    | succ n6 ih6 =>
      intro v2 v3 v4 v5 H locs hP hD hS ls hl hw
      replace hw : okP (f_X7_driftTo_L6b (f_X7_driftTo_L6 n6) v2 v3 v4 v5 o_sets o_currents) post := hw
      unfold f_X7_driftTo_L6b at hw
      refine lv_iload hx hb dX7_driftTo_6 (lv_at hl 4 rfl) ?_
      refine lv_iload_n hx hb dX7_driftTo_8 rfl (lv_at hl 1 rfl) ?_
      refine lv_icmp_ge (tgt := 29) hx hb dX7_driftTo_9 (by decide) (fun c_1 => ?_) (fun c_1 => ?_)
      · replace hw := okT hw c_1
        clear c_1
        refine lv_iload hx hb dX7_driftTo_29 (lv_at hl 3 rfl) ?_
        rw [hQ]
        exact W.iret (v := v4) hx hb hr (fun t ht hW => ⟨⟨v4, (), rfl, okS hw, by rw [ht]; exact hP, va_K.moved hW.alike hK, hD⟩, hS.F ht⟩) hS.2.2 dX7_driftTo_31
      · replace hw := okF hw c_1
        clear c_1
        refine lv_aload_n hx hb dX7_driftTo_12 rfl (lv_at hl 0 rfl) ?_
        refine lv_iload hx hb dX7_driftTo_13 (lv_at hl 3 rfl) ?_
        refine lv_iload hx hb dX7_driftTo_15 (lv_at hl 4 rfl) ?_
        refine lv_iload_n hx hb dX7_driftTo_17 rfl (lv_at hl 2 rfl) ?_
        have hPc := hP.sub (ws' := (W_X7_drifted cyI cyJ cyO h_o a_o_sets a_o_ringFar a_o_ringTone a_o_currents a_o_warmths a_o_depths a_o_tape a_o_readFar a_o_readTone a_o_readSea a_o_code a_o_cellAt a_o_courseAt a_o_paceAt a_o_turnsAt a_o_slowAt a_o_fuelAt a_o_ringAt a_o_pieceParts a_o_dragCell a_o_dragBy a_o_sums a_o_shares a_o_keptFar a_o_image a_o_lanes a_o_sizes a_o_items a_o_movedItems o_taped o_at o_wrong o_level o_noRings o_noTones o_noFuel o_pieces o_drags o_all o_noPieces o_noDrags o_kept o_sets o_currents)) [0, 1, 2] rfl
        have hDc := hD.sub (ws' := (W_X7_drifted cyI cyJ cyO h_o a_o_sets a_o_ringFar a_o_ringTone a_o_currents a_o_warmths a_o_depths a_o_tape a_o_readFar a_o_readTone a_o_readSea a_o_code a_o_cellAt a_o_courseAt a_o_paceAt a_o_turnsAt a_o_slowAt a_o_fuelAt a_o_ringAt a_o_pieceParts a_o_dragCell a_o_dragBy a_o_sums a_o_shares a_o_keptFar a_o_image a_o_lanes a_o_sizes a_o_items a_o_movedItems o_taped o_at o_wrong o_level o_noRings o_noTones o_noFuel o_pieces o_drags o_all o_noPieces o_noDrags o_kept o_sets o_currents)) [0, 1, 2] (by decide +kernel) rfl
        have hFc := va_free (wc := (W_X7_drifted cyI cyJ cyO h_o a_o_sets a_o_ringFar a_o_ringTone a_o_currents a_o_warmths a_o_depths a_o_tape a_o_readFar a_o_readTone a_o_readSea a_o_code a_o_cellAt a_o_courseAt a_o_paceAt a_o_turnsAt a_o_slowAt a_o_fuelAt a_o_ringAt a_o_pieceParts a_o_dragCell a_o_dragBy a_o_sums a_o_shares a_o_keptFar a_o_image a_o_lanes a_o_sizes a_o_items a_o_movedItems o_taped o_at o_wrong o_level o_noRings o_noTones o_noFuel o_pieces o_drags o_all o_noPieces o_noDrags o_kept o_sets o_currents)) hD hS hA [0, 1, 2] rfl
        refine kc_i (wr := []) (va_runV (As := [.int v4, .int v5, .int v3]) (rest := []) ⟨hx, hb, hml, hown, hts⟩ (c_X7_drifted l dC dI cyI cyJ cyO H.size h_o a_o_sets a_o_ringFar a_o_ringTone a_o_currents a_o_warmths a_o_depths a_o_tape a_o_readFar a_o_readTone a_o_readSea a_o_code a_o_cellAt a_o_courseAt a_o_paceAt a_o_turnsAt a_o_slowAt a_o_fuelAt a_o_ringAt a_o_pieceParts a_o_dragCell a_o_dragBy a_o_sums a_o_shares a_o_keptFar a_o_image a_o_lanes a_o_sizes a_o_items a_o_movedItems o_taped o_at o_wrong o_level o_noRings o_noTones o_noFuel o_pieces o_drags o_all o_noPieces o_noDrags o_kept o_sets o_currents v4 v5 v3 _ (okb1 hw)) (cwV 3 hts (gdV (fun w h => List.mem_cons_of_mem _ h) q_967 q_969 qs_36 q_8 q_970) rfl rfl rfl (by decide +kernel) ⟨Nat.le_of_ble_eq_true rfl, Nat.le_of_ble_eq_true rfl⟩) ⟨(kpre zN_ok hK hPc hDc trivial hS hFc).1, va_recv hK hP (ci := 7) (q0 := 0) rfl rfl, (kpre zN_ok hK hPc hDc trivial hS hFc).2⟩ rfl rfl hl.1 rfl (lv_room (Nat.le_of_ble_eq_true rfl)) dX7_driftTo_18 ⟨Nat.le_of_ble_eq_true rfl, Nat.le_of_ble_eq_true rfl⟩) hP hD hS hFc [0, 1, 2] [] rfl rfl (by decide +kernel) (by decide +kernel) (fun r_2 u H locs hw hP hD hS => ?_)
        try dsimp only at hw
        have hP : va_P (dC, dI) vwCl (W_X7_driftTo cyI cyJ cyO h_o a_o_sets a_o_ringFar a_o_ringTone a_o_currents a_o_warmths a_o_depths a_o_tape a_o_readFar a_o_readTone a_o_readSea a_o_code a_o_cellAt a_o_courseAt a_o_paceAt a_o_turnsAt a_o_slowAt a_o_fuelAt a_o_ringAt a_o_pieceParts a_o_dragCell a_o_dragBy a_o_sums a_o_shares a_o_keptFar a_o_image a_o_lanes a_o_sizes a_o_items a_o_movedItems o_taped o_at o_wrong o_level o_noRings o_noTones o_noFuel o_pieces o_drags o_all o_noPieces o_noDrags o_kept o_sets o_currents) H := hP.sub [0, 1, 2] rfl
        have hD : va_D A (W_X7_driftTo cyI cyJ cyO h_o a_o_sets a_o_ringFar a_o_ringTone a_o_currents a_o_warmths a_o_depths a_o_tape a_o_readFar a_o_readTone a_o_readSea a_o_code a_o_cellAt a_o_courseAt a_o_paceAt a_o_turnsAt a_o_slowAt a_o_fuelAt a_o_ringAt a_o_pieceParts a_o_dragCell a_o_dragBy a_o_sums a_o_shares a_o_keptFar a_o_image a_o_lanes a_o_sizes a_o_items a_o_movedItems o_taped o_at o_wrong o_level o_noRings o_noTones o_noFuel o_pieces o_drags o_all o_noPieces o_noDrags o_kept o_sets o_currents) := hD.sub [0, 1, 2] (by decide +kernel) rfl
        clear hPc hDc hFc
        refine lv_istore (lv' := [(4, .int r_2), (0, .ref h_o), (2, .int v2), (3, .int v3), (5, .int v5)]) hx hb dX7_driftTo_21 hl (by decide) rfl (fun ls hl => ?_)
        obtain ⟨x_3, ex_3⟩ : ∃ y : Int32, y = v5 + 1 := ⟨_, rfl⟩
        replace hw := okN ex_3 hw
        refine lv_iinc (v := x_3) (lv' := [(5, .int x_3), (4, .int r_2), (0, .ref h_o), (2, .int v2), (3, .int v3)]) hx hb dX7_driftTo_23 hl (k := 4) rfl (by rw [ex_3]; rfl) (by decide) rfl (fun ls hl => ?_)
        clear ex_3
        refine lv_goto (tgt := 6) hx hb dX7_driftTo_26 (by decide) ?_
        exact ih6 v2 v3 r_2 x_3 _ _ hP hD hS _ (lv_sub hl [2, 3, 4, 1, 0] rfl) hw
  unfold f_X7_driftTo at hw
  have hP : va_P (dC, dI) vwCl (W_X7_driftTo cyI cyJ cyO h_o a_o_sets a_o_ringFar a_o_ringTone a_o_currents a_o_warmths a_o_depths a_o_tape a_o_readFar a_o_readTone a_o_readSea a_o_code a_o_cellAt a_o_courseAt a_o_paceAt a_o_turnsAt a_o_slowAt a_o_fuelAt a_o_ringAt a_o_pieceParts a_o_dragCell a_o_dragBy a_o_sums a_o_shares a_o_keptFar a_o_image a_o_lanes a_o_sizes a_o_items a_o_movedItems o_taped o_at o_wrong o_level o_noRings o_noTones o_noFuel o_pieces o_drags o_all o_noPieces o_noDrags o_kept o_sets o_currents) s.heap := hP
  obtain ⟨H, hH⟩ : ∃ H, H = s.heap := ⟨_, rfl⟩
  obtain ⟨locs, hlo⟩ : ∃ x : List Loc, x = [] := ⟨_, rfl⟩
  have hP : va_P (dC, dI) vwCl (W_X7_driftTo cyI cyJ cyO h_o a_o_sets a_o_ringFar a_o_ringTone a_o_currents a_o_warmths a_o_depths a_o_tape a_o_readFar a_o_readTone a_o_readSea a_o_code a_o_cellAt a_o_courseAt a_o_paceAt a_o_turnsAt a_o_slowAt a_o_fuelAt a_o_ringAt a_o_pieceParts a_o_dragCell a_o_dragBy a_o_sums a_o_shares a_o_keptFar a_o_image a_o_lanes a_o_sizes a_o_items a_o_movedItems o_taped o_at o_wrong o_level o_noRings o_noTones o_noFuel o_pieces o_drags o_all o_noPieces o_noDrags o_kept o_sets o_currents) H := by rw [hH]; exact hP
  have hS : va_S A s.heap H locs := by rw [hH, hlo]; exact hS
  refine kH hH hlo ?_
  clear hH hlo
  refine lv_iload_n hx hb dX7_driftTo_0 rfl (lv_at hl 1 rfl) ?_
  refine lv_istore (lv' := [(4, .int x1), (0, .ref h_o), (1, .int x1), (2, .int x2), (3, .int x3)]) hx hb dX7_driftTo_1 hl (by decide) rfl (fun ls hl => ?_)
  refine lv_iconst (v := 0) hx hb dX7_driftTo_3 (by decide) ?_
  refine lv_istore (lv' := [(5, .int 0), (4, .int x1), (0, .ref h_o), (1, .int x1), (2, .int x2), (3, .int x3)]) hx hb dX7_driftTo_4 hl (by decide) rfl (fun ls hl => ?_)
  exact w6 FU x2 x3 x1 0 _ _ hP hD hS _ (lv_sub hl [2, 4, 5, 1, 0] rfl) hw
/-! ===== X7_drift ===== -/
theorem dX7_drift_0 : decode cX7_drift 0 = .ok (.iload_n 1, 1) := by decide +kernel
theorem dX7_drift_1 : decode cX7_drift 1 = .ok (.invokestatic 115, 3) := by decide +kernel
theorem dX7_drift_4 : decode cX7_drift 4 = .ok (.ifCond .eq 35, 3) := by decide +kernel
theorem dX7_drift_7 : decode cX7_drift 7 = .ok (.iload_n 2, 1) := by decide +kernel
theorem dX7_drift_8 : decode cX7_drift 8 = .ok (.i2l, 1) := by decide +kernel
theorem dX7_drift_9 : decode cX7_drift 9 = .ok (.lconst 0, 1) := by decide +kernel
theorem dX7_drift_10 : decode cX7_drift 10 = .ok (.ldc2_w 204, 3) := by decide +kernel
theorem dX7_drift_13 : decode cX7_drift 13 = .ok (.invokestatic 100, 3) := by decide +kernel
theorem dX7_drift_16 : decode cX7_drift 16 = .ok (.ifCond .eq 23, 3) := by decide +kernel
theorem dX7_drift_19 : decode cX7_drift 19 = .ok (.iload_n 3, 1) := by decide +kernel
theorem dX7_drift_20 : decode cX7_drift 20 = .ok (.i2l, 1) := by decide +kernel
theorem dX7_drift_21 : decode cX7_drift 21 = .ok (.lconst 0, 1) := by decide +kernel
theorem dX7_drift_22 : decode cX7_drift 22 = .ok (.lconst 1, 1) := by decide +kernel
theorem dX7_drift_23 : decode cX7_drift 23 = .ok (.invokestatic 100, 3) := by decide +kernel
theorem dX7_drift_26 : decode cX7_drift 26 = .ok (.ifCond .eq 13, 3) := by decide +kernel
theorem dX7_drift_29 : decode cX7_drift 29 = .ok (.aload_n 0, 1) := by decide +kernel
theorem dX7_drift_30 : decode cX7_drift 30 = .ok (.iload_n 1, 1) := by decide +kernel
theorem dX7_drift_31 : decode cX7_drift 31 = .ok (.iload_n 2, 1) := by decide +kernel
theorem dX7_drift_32 : decode cX7_drift 32 = .ok (.iload_n 3, 1) := by decide +kernel
theorem dX7_drift_33 : decode cX7_drift 33 = .ok (.invokevirtual 212, 3) := by decide +kernel
theorem dX7_drift_36 : decode cX7_drift 36 = .ok (.goto 4, 3) := by decide +kernel
theorem dX7_drift_39 : decode cX7_drift 39 = .ok (.iconst (-1), 1) := by decide +kernel
theorem dX7_drift_40 : decode cX7_drift 40 = .ok (.ireturn, 1) := by decide +kernel
abbrev W_X7_drift (cyI cyJ cyO : ClassId) (h_o a_o_sets a_o_ringFar a_o_ringTone a_o_currents a_o_warmths a_o_depths a_o_tape a_o_readFar a_o_readTone a_o_readSea a_o_code a_o_cellAt a_o_courseAt a_o_paceAt a_o_turnsAt a_o_slowAt a_o_fuelAt a_o_ringAt a_o_pieceParts a_o_dragCell a_o_dragBy a_o_sums a_o_shares a_o_keptFar a_o_image a_o_lanes a_o_sizes a_o_items a_o_movedItems : Nat) (o_taped : Int32) (o_at : Int32) (o_wrong : Int32) (o_level : Int32) (o_noRings : Int32) (o_noTones : Int32) (o_noFuel : Int32) (o_pieces : Int32) (o_drags : Int32) (o_all : Int64) (o_noPieces : Int32) (o_noDrags : Int32) (o_kept : Int32) (o_sets : Nat → Int32) (o_currents : Nat → Int32) : va_W := [(h_o, .inr (7, [.ref a_o_sets, .ref a_o_ringFar, .ref a_o_ringTone, .ref a_o_currents, .ref a_o_warmths, .ref a_o_depths, .ref a_o_tape, .int o_taped, .int o_at, .int o_wrong, .ref a_o_readFar, .ref a_o_readTone, .ref a_o_readSea, .ref a_o_code, .ref a_o_cellAt, .ref a_o_courseAt, .ref a_o_paceAt, .ref a_o_turnsAt, .ref a_o_slowAt, .ref a_o_fuelAt, .ref a_o_ringAt, .int o_level, .int o_noRings, .int o_noTones, .int o_noFuel, .int o_pieces, .ref a_o_pieceParts, .int o_drags, .ref a_o_dragCell, .ref a_o_dragBy, .ref a_o_sums, .long o_all, .int o_noPieces, .int o_noDrags, .ref a_o_shares, .ref a_o_keptFar, .ref a_o_image, .int o_kept, .ref a_o_lanes, .ref a_o_sizes, .ref a_o_items, .ref a_o_movedItems])), (a_o_sets, .inl (cyI, 8, .inl o_sets)), (a_o_currents, .inl (cyI, 200, .inl o_currents))]
def f_X7_drift (x1 : Int32) (x2 : Int32) (x3 : Int32) (o_sets : Nat → Int32) (o_currents : Nat → Int32) : Option (Int32) :=
  bd1 (f_X7_isCell x1) fun r_1 =>
  if r_1 = 0 then
    some (-1)
  else
    bd1 (f_X7_in x2.toInt64 0 24) fun r_2 =>
    if r_2 = 0 then
      some (-1)
    else
      bd1 (f_X7_in x3.toInt64 0 1) fun r_3 =>
      if r_3 = 0 then
        some (-1)
      else
        bd1 (f_X7_driftTo x1 x2 x3 o_sets o_currents) fun r_4 =>
        some r_4
abbrev rm_X7_drift : Room := { frames := 4, cells := 0, slots := 0, locals := 100 }
set_option maxRecDepth 100000 in
set_option maxHeartbeats 4000000 in
theorem c_X7_drift (l : Launch) (dC : Nat → ClassId) (dI : Nat → Nat → Nat) (cyI cyJ cyO : ClassId) (sz : Nat) (h_o a_o_sets a_o_ringFar a_o_ringTone a_o_currents a_o_warmths a_o_depths a_o_tape a_o_readFar a_o_readTone a_o_readSea a_o_code a_o_cellAt a_o_courseAt a_o_paceAt a_o_turnsAt a_o_slowAt a_o_fuelAt a_o_ringAt a_o_pieceParts a_o_dragCell a_o_dragBy a_o_sums a_o_shares a_o_keptFar a_o_image a_o_lanes a_o_sizes a_o_items a_o_movedItems : Nat) (o_taped : Int32) (o_at : Int32) (o_wrong : Int32) (o_level : Int32) (o_noRings : Int32) (o_noTones : Int32) (o_noFuel : Int32) (o_pieces : Int32) (o_drags : Int32) (o_all : Int64) (o_noPieces : Int32) (o_noDrags : Int32) (o_kept : Int32) (o_sets : Nat → Int32) (o_currents : Nat → Int32) (x1 : Int32) (x2 : Int32) (x3 : Int32) (post : Int32 → Prop) (hf : okP (f_X7_drift x1 x2 x3 o_sets o_currents) post) : Ci l (dC, dI) (tyL cyI cyJ cyO) yX7_drift wsX7_drift rm_X7_drift [.ref h_o, .int x1, .int x2, .int x3] sz (W_X7_drift cyI cyJ cyO h_o a_o_sets a_o_ringFar a_o_ringTone a_o_currents a_o_warmths a_o_depths a_o_tape a_o_readFar a_o_readTone a_o_readSea a_o_code a_o_cellAt a_o_courseAt a_o_paceAt a_o_turnsAt a_o_slowAt a_o_fuelAt a_o_ringAt a_o_pieceParts a_o_dragCell a_o_dragBy a_o_sums a_o_shares a_o_keptFar a_o_image a_o_lanes a_o_sizes a_o_items a_o_movedItems o_taped o_at o_wrong o_level o_noRings o_noTones o_noFuel o_pieces o_drags o_all o_noPieces o_noDrags o_kept o_sets o_currents) zN (fun r (_ : Unit) => post r) (fun _ => (W_X7_drift cyI cyJ cyO h_o a_o_sets a_o_ringFar a_o_ringTone a_o_currents a_o_warmths a_o_depths a_o_tape a_o_readFar a_o_readTone a_o_readSea a_o_code a_o_cellAt a_o_courseAt a_o_paceAt a_o_turnsAt a_o_slowAt a_o_fuelAt a_o_ringAt a_o_pieceParts a_o_dragCell a_o_dragBy a_o_sums a_o_shares a_o_keptFar a_o_image a_o_lanes a_o_sizes a_o_items a_o_movedItems o_taped o_at o_wrong o_level o_noRings o_noTones o_noFuel o_pieces o_drags o_all o_noPieces o_noDrags o_kept o_sets o_currents)) := by
  refine Met.ofW (cc := cX7_drift) (maxL := 4) (ret := (some .int)) (by decide) rfl ?_
  intro p e s m args below meth c s₁ B hml hv
  obtain ⟨rfl, hsz, hP, hK, hD0, hZ⟩ := hv
  have hx := B.exec
  have hb := B.bytes
  have hr := B.returns
  have hts := atoms_spec (ws := wsX7_drift) B.pre
  have hown : s.vm.findClass RX7 = some m.cls := findClass_of_methodNamed B.named
  have hlocks := B.notSynchronized
  subst hsz
  have hD := hD0.self (sz := s.heap.size)
  generalize hAe : va_A (W_X7_drift cyI cyJ cyO h_o a_o_sets a_o_ringFar a_o_ringTone a_o_currents a_o_warmths a_o_depths a_o_tape a_o_readFar a_o_readTone a_o_readSea a_o_code a_o_cellAt a_o_courseAt a_o_paceAt a_o_turnsAt a_o_slowAt a_o_fuelAt a_o_ringAt a_o_pieceParts a_o_dragCell a_o_dragBy a_o_sums a_o_shares a_o_keptFar a_o_image a_o_lanes a_o_sizes a_o_items a_o_movedItems o_taped o_at o_wrong o_level o_noRings o_noTones o_noFuel o_pieces o_drags o_all o_noPieces o_noDrags o_kept o_sets o_currents) s.heap.size = A at hD hZ ⊢
  have hA : ∀ q : Nat, s.heap.size ≤ q → A q := fun q h => by rw [← hAe]; exact Or.inr h
  clear hAe hD0
  have hS : va_S A s.heap s.heap [] := va_S.rf
  have hl := lv_entry ([.ref h_o, .int x1, .int x2, .int x3]) (n := 4) (Nat.le_of_ble_eq_true rfl)
  rw [lg_entry_eq]
  generalize (lg_sl ([.ref h_o, .int x1, .int x2, .int x3]) ++ List.replicate (4 - (lg_sl ([.ref h_o, .int x1, .int x2, .int x3])).length) Slot.unset).toArray = ls at hl ⊢
  have hl : lv_has ls 4 [(0, .ref h_o), (1, .int x1), (2, .int x2), (3, .int x3)] := hl
  refine kW (fun Q hQ => ?_)
  have hq0 := hts _ (List.mem_cons_of_mem _ q_958)
  have hw := hf
  unfold f_X7_drift at hw
  have hP : va_P (dC, dI) vwCl (W_X7_drift cyI cyJ cyO h_o a_o_sets a_o_ringFar a_o_ringTone a_o_currents a_o_warmths a_o_depths a_o_tape a_o_readFar a_o_readTone a_o_readSea a_o_code a_o_cellAt a_o_courseAt a_o_paceAt a_o_turnsAt a_o_slowAt a_o_fuelAt a_o_ringAt a_o_pieceParts a_o_dragCell a_o_dragBy a_o_sums a_o_shares a_o_keptFar a_o_image a_o_lanes a_o_sizes a_o_items a_o_movedItems o_taped o_at o_wrong o_level o_noRings o_noTones o_noFuel o_pieces o_drags o_all o_noPieces o_noDrags o_kept o_sets o_currents) s.heap := hP
  obtain ⟨H, hH⟩ : ∃ H, H = s.heap := ⟨_, rfl⟩
  obtain ⟨locs, hlo⟩ : ∃ x : List Loc, x = [] := ⟨_, rfl⟩
  have hP : va_P (dC, dI) vwCl (W_X7_drift cyI cyJ cyO h_o a_o_sets a_o_ringFar a_o_ringTone a_o_currents a_o_warmths a_o_depths a_o_tape a_o_readFar a_o_readTone a_o_readSea a_o_code a_o_cellAt a_o_courseAt a_o_paceAt a_o_turnsAt a_o_slowAt a_o_fuelAt a_o_ringAt a_o_pieceParts a_o_dragCell a_o_dragBy a_o_sums a_o_shares a_o_keptFar a_o_image a_o_lanes a_o_sizes a_o_items a_o_movedItems o_taped o_at o_wrong o_level o_noRings o_noTones o_noFuel o_pieces o_drags o_all o_noPieces o_noDrags o_kept o_sets o_currents) H := by rw [hH]; exact hP
  have hS : va_S A s.heap H locs := by rw [hH, hlo]; exact hS
  refine kH hH hlo ?_
  clear hH hlo
  refine lv_iload_n hx hb dX7_drift_0 rfl (lv_at hl 1 rfl) ?_
  have hFc := va_free (wc := []) hD hS hA [] rfl
  refine kp_i (va_runS (As := [.int x1]) (rest := []) ⟨hx, hb, hml, hown, hts⟩ (c_X7_isCell l dC dI cyI cyJ cyO H.size x1 _ (okb1 hw)) (va_cwS 1 hts (gdS (fun w h => List.mem_cons_of_mem _ h) q_845 q_846 q_8 q_847) rfl rfl rfl (by decide +kernel) ⟨Nat.le_of_ble_eq_true rfl, Nat.le_of_ble_eq_true rfl⟩) (kpre zN_ok hK va_P0 va_D0 trivial hS hFc) rfl rfl hl.1 rfl (lv_room (Nat.le_of_ble_eq_true rfl)) dX7_drift_1 ⟨Nat.le_of_ble_eq_true rfl, Nat.le_of_ble_eq_true rfl⟩) hP hD hS hFc (fun r_1 H locs hw hP hS => ?_)
  try dsimp only at hw
  clear hFc
  refine lv_if_eq (tgt := 39) hx hb dX7_drift_4 (by decide) (fun c_2 => ?_) (fun c_2 => ?_)
  · replace hw := okT hw c_2
    clear c_2
    refine lv_iconst (v := (-1)) hx hb dX7_drift_39 (by decide) ?_
    rw [hQ]
    exact W.iret (v := (-1)) hx hb hr (fun t ht hW => ⟨⟨(-1), (), rfl, okS hw, by rw [ht]; exact hP, va_K.moved hW.alike hK, hD⟩, hS.F ht⟩) hS.2.2 dX7_drift_40
  · replace hw := okF hw c_2
    clear c_2
    refine lv_iload_n hx hb dX7_drift_7 rfl (lv_at hl 2 rfl) ?_
    refine lv_i2l (v := x2.toInt64) hx hb dX7_drift_8 rfl ?_
    refine lv_lconst (v := 0) hx hb dX7_drift_9 (by decide) ?_
    refine lv_ldc2 (v := 24) hx hb hown hq0 dX7_drift_10 ?_
    have hFc := va_free (wc := []) hD hS hA [] rfl
    refine kp_i (va_runS (As := [.long x2.toInt64, .long 0, .long 24]) (rest := []) ⟨hx, hb, hml, hown, hts⟩ (c_X7_in l dC dI cyI cyJ cyO H.size x2.toInt64 0 24 _ (okb1 hw)) (va_cwS 3 hts (gdS (fun w h => List.mem_cons_of_mem _ h) q_838 q_839 q_8 q_840) rfl rfl rfl (by decide +kernel) ⟨Nat.le_of_ble_eq_true rfl, Nat.le_of_ble_eq_true rfl⟩) (kpre zN_ok hK va_P0 va_D0 trivial hS hFc) rfl rfl hl.1 rfl (lv_room (Nat.le_of_ble_eq_true rfl)) dX7_drift_13 ⟨Nat.le_of_ble_eq_true rfl, Nat.le_of_ble_eq_true rfl⟩) hP hD hS hFc (fun r_3 H locs hw hP hS => ?_)
    try dsimp only at hw
    clear hFc
    refine lv_if_eq (tgt := 39) hx hb dX7_drift_16 (by decide) (fun c_4 => ?_) (fun c_4 => ?_)
    · replace hw := okT hw c_4
      clear c_4
      refine lv_iconst (v := (-1)) hx hb dX7_drift_39 (by decide) ?_
      rw [hQ]
      exact W.iret (v := (-1)) hx hb hr (fun t ht hW => ⟨⟨(-1), (), rfl, okS hw, by rw [ht]; exact hP, va_K.moved hW.alike hK, hD⟩, hS.F ht⟩) hS.2.2 dX7_drift_40
    · replace hw := okF hw c_4
      clear c_4
      refine lv_iload_n hx hb dX7_drift_19 rfl (lv_at hl 3 rfl) ?_
      refine lv_i2l (v := x3.toInt64) hx hb dX7_drift_20 rfl ?_
      refine lv_lconst (v := 0) hx hb dX7_drift_21 (by decide) ?_
      refine lv_lconst (v := 1) hx hb dX7_drift_22 (by decide) ?_
      have hFc := va_free (wc := []) hD hS hA [] rfl
      refine kp_i (va_runS (As := [.long x3.toInt64, .long 0, .long 1]) (rest := []) ⟨hx, hb, hml, hown, hts⟩ (c_X7_in l dC dI cyI cyJ cyO H.size x3.toInt64 0 1 _ (okb1 hw)) (va_cwS 3 hts (gdS (fun w h => List.mem_cons_of_mem _ h) q_838 q_839 q_8 q_840) rfl rfl rfl (by decide +kernel) ⟨Nat.le_of_ble_eq_true rfl, Nat.le_of_ble_eq_true rfl⟩) (kpre zN_ok hK va_P0 va_D0 trivial hS hFc) rfl rfl hl.1 rfl (lv_room (Nat.le_of_ble_eq_true rfl)) dX7_drift_23 ⟨Nat.le_of_ble_eq_true rfl, Nat.le_of_ble_eq_true rfl⟩) hP hD hS hFc (fun r_5 H locs hw hP hS => ?_)
      try dsimp only at hw
      clear hFc
      refine lv_if_eq (tgt := 39) hx hb dX7_drift_26 (by decide) (fun c_6 => ?_) (fun c_6 => ?_)
      · replace hw := okT hw c_6
        clear c_6
        refine lv_iconst (v := (-1)) hx hb dX7_drift_39 (by decide) ?_
        rw [hQ]
        exact W.iret (v := (-1)) hx hb hr (fun t ht hW => ⟨⟨(-1), (), rfl, okS hw, by rw [ht]; exact hP, va_K.moved hW.alike hK, hD⟩, hS.F ht⟩) hS.2.2 dX7_drift_40
      · replace hw := okF hw c_6
        clear c_6
        refine lv_aload_n hx hb dX7_drift_29 rfl (lv_at hl 0 rfl) ?_
        refine lv_iload_n hx hb dX7_drift_30 rfl (lv_at hl 1 rfl) ?_
        refine lv_iload_n hx hb dX7_drift_31 rfl (lv_at hl 2 rfl) ?_
        refine lv_iload_n hx hb dX7_drift_32 rfl (lv_at hl 3 rfl) ?_
        have hPc := hP.sub (ws' := (W_X7_driftTo cyI cyJ cyO h_o a_o_sets a_o_ringFar a_o_ringTone a_o_currents a_o_warmths a_o_depths a_o_tape a_o_readFar a_o_readTone a_o_readSea a_o_code a_o_cellAt a_o_courseAt a_o_paceAt a_o_turnsAt a_o_slowAt a_o_fuelAt a_o_ringAt a_o_pieceParts a_o_dragCell a_o_dragBy a_o_sums a_o_shares a_o_keptFar a_o_image a_o_lanes a_o_sizes a_o_items a_o_movedItems o_taped o_at o_wrong o_level o_noRings o_noTones o_noFuel o_pieces o_drags o_all o_noPieces o_noDrags o_kept o_sets o_currents)) [0, 1, 2] rfl
        have hDc := hD.sub (ws' := (W_X7_driftTo cyI cyJ cyO h_o a_o_sets a_o_ringFar a_o_ringTone a_o_currents a_o_warmths a_o_depths a_o_tape a_o_readFar a_o_readTone a_o_readSea a_o_code a_o_cellAt a_o_courseAt a_o_paceAt a_o_turnsAt a_o_slowAt a_o_fuelAt a_o_ringAt a_o_pieceParts a_o_dragCell a_o_dragBy a_o_sums a_o_shares a_o_keptFar a_o_image a_o_lanes a_o_sizes a_o_items a_o_movedItems o_taped o_at o_wrong o_level o_noRings o_noTones o_noFuel o_pieces o_drags o_all o_noPieces o_noDrags o_kept o_sets o_currents)) [0, 1, 2] (by decide +kernel) rfl
        have hFc := va_free (wc := (W_X7_driftTo cyI cyJ cyO h_o a_o_sets a_o_ringFar a_o_ringTone a_o_currents a_o_warmths a_o_depths a_o_tape a_o_readFar a_o_readTone a_o_readSea a_o_code a_o_cellAt a_o_courseAt a_o_paceAt a_o_turnsAt a_o_slowAt a_o_fuelAt a_o_ringAt a_o_pieceParts a_o_dragCell a_o_dragBy a_o_sums a_o_shares a_o_keptFar a_o_image a_o_lanes a_o_sizes a_o_items a_o_movedItems o_taped o_at o_wrong o_level o_noRings o_noTones o_noFuel o_pieces o_drags o_all o_noPieces o_noDrags o_kept o_sets o_currents)) hD hS hA [0, 1, 2] rfl
        refine kc_i (wr := []) (va_runV (As := [.int x1, .int x2, .int x3]) (rest := []) ⟨hx, hb, hml, hown, hts⟩ (c_X7_driftTo l dC dI cyI cyJ cyO H.size h_o a_o_sets a_o_ringFar a_o_ringTone a_o_currents a_o_warmths a_o_depths a_o_tape a_o_readFar a_o_readTone a_o_readSea a_o_code a_o_cellAt a_o_courseAt a_o_paceAt a_o_turnsAt a_o_slowAt a_o_fuelAt a_o_ringAt a_o_pieceParts a_o_dragCell a_o_dragBy a_o_sums a_o_shares a_o_keptFar a_o_image a_o_lanes a_o_sizes a_o_items a_o_movedItems o_taped o_at o_wrong o_level o_noRings o_noTones o_noFuel o_pieces o_drags o_all o_noPieces o_noDrags o_kept o_sets o_currents x1 x2 x3 _ (okb1 hw)) (cwV 3 hts (gdV (fun w h => List.mem_cons_of_mem _ h) q_963 q_965 qs_35 q_8 q_966) rfl rfl rfl (by decide +kernel) ⟨Nat.le_of_ble_eq_true rfl, Nat.le_of_ble_eq_true rfl⟩) ⟨(kpre zN_ok hK hPc hDc trivial hS hFc).1, va_recv hK hP (ci := 7) (q0 := 0) rfl rfl, (kpre zN_ok hK hPc hDc trivial hS hFc).2⟩ rfl rfl hl.1 rfl (lv_room (Nat.le_of_ble_eq_true rfl)) dX7_drift_33 ⟨Nat.le_of_ble_eq_true rfl, Nat.le_of_ble_eq_true rfl⟩) hP hD hS hFc [0, 1, 2] [] rfl rfl (by decide +kernel) (by decide +kernel) (fun r_7 u H locs hw hP hD hS => ?_)
        try dsimp only at hw
        have hP : va_P (dC, dI) vwCl (W_X7_drift cyI cyJ cyO h_o a_o_sets a_o_ringFar a_o_ringTone a_o_currents a_o_warmths a_o_depths a_o_tape a_o_readFar a_o_readTone a_o_readSea a_o_code a_o_cellAt a_o_courseAt a_o_paceAt a_o_turnsAt a_o_slowAt a_o_fuelAt a_o_ringAt a_o_pieceParts a_o_dragCell a_o_dragBy a_o_sums a_o_shares a_o_keptFar a_o_image a_o_lanes a_o_sizes a_o_items a_o_movedItems o_taped o_at o_wrong o_level o_noRings o_noTones o_noFuel o_pieces o_drags o_all o_noPieces o_noDrags o_kept o_sets o_currents) H := hP.sub [0, 1, 2] rfl
        have hD : va_D A (W_X7_drift cyI cyJ cyO h_o a_o_sets a_o_ringFar a_o_ringTone a_o_currents a_o_warmths a_o_depths a_o_tape a_o_readFar a_o_readTone a_o_readSea a_o_code a_o_cellAt a_o_courseAt a_o_paceAt a_o_turnsAt a_o_slowAt a_o_fuelAt a_o_ringAt a_o_pieceParts a_o_dragCell a_o_dragBy a_o_sums a_o_shares a_o_keptFar a_o_image a_o_lanes a_o_sizes a_o_items a_o_movedItems o_taped o_at o_wrong o_level o_noRings o_noTones o_noFuel o_pieces o_drags o_all o_noPieces o_noDrags o_kept o_sets o_currents) := hD.sub [0, 1, 2] (by decide +kernel) rfl
        clear hPc hDc hFc
        refine lv_goto (tgt := 40) hx hb dX7_drift_36 (by decide) ?_
        rw [hQ]
        exact W.iret (v := r_7) hx hb hr (fun t ht hW => ⟨⟨r_7, (), rfl, okS hw, by rw [ht]; exact hP, va_K.moved hW.alike hK, hD⟩, hS.F ht⟩) hS.2.2 dX7_drift_40
/-! ===== X7_fit ===== -/
theorem dX7_fit_0 : decode cX7_fit 0 = .ok (.iconst 5, 1) := by decide +kernel
theorem dX7_fit_1 : decode cX7_fit 1 = .ok (.iload_n 1, 1) := by decide +kernel
theorem dX7_fit_2 : decode cX7_fit 2 = .ok (.imul, 1) := by decide +kernel
theorem dX7_fit_3 : decode cX7_fit 3 = .ok (.istore_n 3, 1) := by decide +kernel
theorem dX7_fit_4 : decode cX7_fit 4 = .ok (.aload_n 0, 1) := by decide +kernel
theorem dX7_fit_5 : decode cX7_fit 5 = .ok (.getfield 64, 3) := by decide +kernel
theorem dX7_fit_8 : decode cX7_fit 8 = .ok (.iload_n 3, 1) := by decide +kernel
theorem dX7_fit_9 : decode cX7_fit 9 = .ok (.iconst 1, 1) := by decide +kernel
theorem dX7_fit_10 : decode cX7_fit 10 = .ok (.iadd, 1) := by decide +kernel
theorem dX7_fit_11 : decode cX7_fit 11 = .ok (.iaload, 1) := by decide +kernel
theorem dX7_fit_12 : decode cX7_fit 12 = .ok (.istore 4, 2) := by decide +kernel
theorem dX7_fit_14 : decode cX7_fit 14 = .ok (.iload_n 2, 1) := by decide +kernel
theorem dX7_fit_15 : decode cX7_fit 15 = .ok (.istore 5, 2) := by decide +kernel
theorem dX7_fit_17 : decode cX7_fit 17 = .ok (.iconst 1, 1) := by decide +kernel
theorem dX7_fit_18 : decode cX7_fit 18 = .ok (.istore 6, 2) := by decide +kernel
theorem dX7_fit_20 : decode cX7_fit 20 = .ok (.iconst 0, 1) := by decide +kernel
theorem dX7_fit_21 : decode cX7_fit 21 = .ok (.istore 7, 2) := by decide +kernel
theorem dX7_fit_23 : decode cX7_fit 23 = .ok (.iload 7, 2) := by decide +kernel
theorem dX7_fit_25 : decode cX7_fit 25 = .ok (.iload 4, 2) := by decide +kernel
theorem dX7_fit_27 : decode cX7_fit 27 = .ok (.if_icmp .ge 81, 3) := by decide +kernel
theorem dX7_fit_30 : decode cX7_fit 30 = .ok (.iload 6, 2) := by decide +kernel
theorem dX7_fit_32 : decode cX7_fit 32 = .ok (.ifCond .eq 49, 3) := by decide +kernel
theorem dX7_fit_35 : decode cX7_fit 35 = .ok (.iload 7, 2) := by decide +kernel
theorem dX7_fit_37 : decode cX7_fit 37 = .ok (.iload 4, 2) := by decide +kernel
theorem dX7_fit_39 : decode cX7_fit 39 = .ok (.aload_n 0, 1) := by decide +kernel
theorem dX7_fit_40 : decode cX7_fit 40 = .ok (.getfield 64, 3) := by decide +kernel
theorem dX7_fit_43 : decode cX7_fit 43 = .ok (.iload_n 3, 1) := by decide +kernel
theorem dX7_fit_44 : decode cX7_fit 44 = .ok (.iconst 3, 1) := by decide +kernel
theorem dX7_fit_45 : decode cX7_fit 45 = .ok (.iadd, 1) := by decide +kernel
theorem dX7_fit_46 : decode cX7_fit 46 = .ok (.iaload, 1) := by decide +kernel
theorem dX7_fit_47 : decode cX7_fit 47 = .ok (.isub, 1) := by decide +kernel
theorem dX7_fit_48 : decode cX7_fit 48 = .ok (.if_icmp .lt 29, 3) := by decide +kernel
theorem dX7_fit_51 : decode cX7_fit 51 = .ok (.aload_n 0, 1) := by decide +kernel
theorem dX7_fit_52 : decode cX7_fit 52 = .ok (.getfield 22, 3) := by decide +kernel
theorem dX7_fit_55 : decode cX7_fit 55 = .ok (.bipush 100, 2) := by decide +kernel
theorem dX7_fit_57 : decode cX7_fit 57 = .ok (.iload 7, 2) := by decide +kernel
theorem dX7_fit_59 : decode cX7_fit 59 = .ok (.iconst 2, 1) := by decide +kernel
theorem dX7_fit_60 : decode cX7_fit 60 = .ok (.irem, 1) := by decide +kernel
theorem dX7_fit_61 : decode cX7_fit 61 = .ok (.imul, 1) := by decide +kernel
theorem dX7_fit_62 : decode cX7_fit 62 = .ok (.iload 5, 2) := by decide +kernel
theorem dX7_fit_64 : decode cX7_fit 64 = .ok (.iadd, 1) := by decide +kernel
theorem dX7_fit_65 : decode cX7_fit 65 = .ok (.iaload, 1) := by decide +kernel
theorem dX7_fit_66 : decode cX7_fit 66 = .ok (.aload_n 0, 1) := by decide +kernel
theorem dX7_fit_67 : decode cX7_fit 67 = .ok (.getfield 64, 3) := by decide +kernel
theorem dX7_fit_70 : decode cX7_fit 70 = .ok (.iload_n 3, 1) := by decide +kernel
theorem dX7_fit_71 : decode cX7_fit 71 = .ok (.iconst 4, 1) := by decide +kernel
theorem dX7_fit_72 : decode cX7_fit 72 = .ok (.iadd, 1) := by decide +kernel
theorem dX7_fit_73 : decode cX7_fit 73 = .ok (.iaload, 1) := by decide +kernel
theorem dX7_fit_74 : decode cX7_fit 74 = .ok (.if_icmp .lt 7, 3) := by decide +kernel
theorem dX7_fit_77 : decode cX7_fit 77 = .ok (.iconst 1, 1) := by decide +kernel
theorem dX7_fit_78 : decode cX7_fit 78 = .ok (.goto 4, 3) := by decide +kernel
theorem dX7_fit_81 : decode cX7_fit 81 = .ok (.iconst 0, 1) := by decide +kernel
theorem dX7_fit_82 : decode cX7_fit 82 = .ok (.istore 6, 2) := by decide +kernel
theorem dX7_fit_84 : decode cX7_fit 84 = .ok (.aload_n 0, 1) := by decide +kernel
theorem dX7_fit_85 : decode cX7_fit 85 = .ok (.iload 5, 2) := by decide +kernel
theorem dX7_fit_87 : decode cX7_fit 87 = .ok (.iload 7, 2) := by decide +kernel
theorem dX7_fit_89 : decode cX7_fit 89 = .ok (.aload_n 0, 1) := by decide +kernel
theorem dX7_fit_90 : decode cX7_fit 90 = .ok (.getfield 64, 3) := by decide +kernel
theorem dX7_fit_93 : decode cX7_fit 93 = .ok (.iload_n 3, 1) := by decide +kernel
theorem dX7_fit_94 : decode cX7_fit 94 = .ok (.iconst 2, 1) := by decide +kernel
theorem dX7_fit_95 : decode cX7_fit 95 = .ok (.iadd, 1) := by decide +kernel
theorem dX7_fit_96 : decode cX7_fit 96 = .ok (.iaload, 1) := by decide +kernel
theorem dX7_fit_97 : decode cX7_fit 97 = .ok (.invokevirtual 209, 3) := by decide +kernel
theorem dX7_fit_100 : decode cX7_fit 100 = .ok (.istore 5, 2) := by decide +kernel
theorem dX7_fit_102 : decode cX7_fit 102 = .ok (.iinc 7 1, 3) := by decide +kernel
theorem dX7_fit_105 : decode cX7_fit 105 = .ok (.goto (-82), 3) := by decide +kernel
theorem dX7_fit_108 : decode cX7_fit 108 = .ok (.iload 5, 2) := by decide +kernel
theorem dX7_fit_110 : decode cX7_fit 110 = .ok (.bipush 10, 2) := by decide +kernel
theorem dX7_fit_112 : decode cX7_fit 112 = .ok (.idiv, 1) := by decide +kernel
theorem dX7_fit_113 : decode cX7_fit 113 = .ok (.aload_n 0, 1) := by decide +kernel
theorem dX7_fit_114 : decode cX7_fit 114 = .ok (.getfield 64, 3) := by decide +kernel
theorem dX7_fit_117 : decode cX7_fit 117 = .ok (.iload_n 3, 1) := by decide +kernel
theorem dX7_fit_118 : decode cX7_fit 118 = .ok (.iaload, 1) := by decide +kernel
theorem dX7_fit_119 : decode cX7_fit 119 = .ok (.bipush 10, 2) := by decide +kernel
theorem dX7_fit_121 : decode cX7_fit 121 = .ok (.idiv, 1) := by decide +kernel
theorem dX7_fit_122 : decode cX7_fit 122 = .ok (.isub, 1) := by decide +kernel
theorem dX7_fit_123 : decode cX7_fit 123 = .ok (.istore 7, 2) := by decide +kernel
theorem dX7_fit_125 : decode cX7_fit 125 = .ok (.iload 5, 2) := by decide +kernel
theorem dX7_fit_127 : decode cX7_fit 127 = .ok (.bipush 10, 2) := by decide +kernel
theorem dX7_fit_129 : decode cX7_fit 129 = .ok (.irem, 1) := by decide +kernel
theorem dX7_fit_130 : decode cX7_fit 130 = .ok (.aload_n 0, 1) := by decide +kernel
theorem dX7_fit_131 : decode cX7_fit 131 = .ok (.getfield 64, 3) := by decide +kernel
theorem dX7_fit_134 : decode cX7_fit 134 = .ok (.iload_n 3, 1) := by decide +kernel
theorem dX7_fit_135 : decode cX7_fit 135 = .ok (.iaload, 1) := by decide +kernel
theorem dX7_fit_136 : decode cX7_fit 136 = .ok (.bipush 10, 2) := by decide +kernel
theorem dX7_fit_138 : decode cX7_fit 138 = .ok (.irem, 1) := by decide +kernel
theorem dX7_fit_139 : decode cX7_fit 139 = .ok (.isub, 1) := by decide +kernel
theorem dX7_fit_140 : decode cX7_fit 140 = .ok (.istore 8, 2) := by decide +kernel
theorem dX7_fit_142 : decode cX7_fit 142 = .ok (.iload 7, 2) := by decide +kernel
theorem dX7_fit_144 : decode cX7_fit 144 = .ok (.i2l, 1) := by decide +kernel
theorem dX7_fit_145 : decode cX7_fit 145 = .ok (.ldc2_w 124, 3) := by decide +kernel
theorem dX7_fit_148 : decode cX7_fit 148 = .ok (.lconst 1, 1) := by decide +kernel
theorem dX7_fit_149 : decode cX7_fit 149 = .ok (.invokestatic 100, 3) := by decide +kernel
theorem dX7_fit_152 : decode cX7_fit 152 = .ok (.ifCond .eq 20, 3) := by decide +kernel
theorem dX7_fit_155 : decode cX7_fit 155 = .ok (.iload 8, 2) := by decide +kernel
theorem dX7_fit_157 : decode cX7_fit 157 = .ok (.i2l, 1) := by decide +kernel
theorem dX7_fit_158 : decode cX7_fit 158 = .ok (.ldc2_w 124, 3) := by decide +kernel
theorem dX7_fit_161 : decode cX7_fit 161 = .ok (.lconst 1, 1) := by decide +kernel
theorem dX7_fit_162 : decode cX7_fit 162 = .ok (.invokestatic 100, 3) := by decide +kernel
theorem dX7_fit_165 : decode cX7_fit 165 = .ok (.ifCond .eq 7, 3) := by decide +kernel
theorem dX7_fit_168 : decode cX7_fit 168 = .ok (.iconst 1, 1) := by decide +kernel
theorem dX7_fit_169 : decode cX7_fit 169 = .ok (.goto 4, 3) := by decide +kernel
theorem dX7_fit_172 : decode cX7_fit 172 = .ok (.iconst 0, 1) := by decide +kernel
theorem dX7_fit_173 : decode cX7_fit 173 = .ok (.istore 9, 2) := by decide +kernel
theorem dX7_fit_175 : decode cX7_fit 175 = .ok (.iload 6, 2) := by decide +kernel
theorem dX7_fit_177 : decode cX7_fit 177 = .ok (.ifCond .eq 8, 3) := by decide +kernel
theorem dX7_fit_180 : decode cX7_fit 180 = .ok (.iload 9, 2) := by decide +kernel
theorem dX7_fit_182 : decode cX7_fit 182 = .ok (.ifCond .ne 7, 3) := by decide +kernel
theorem dX7_fit_185 : decode cX7_fit 185 = .ok (.iconst 0, 1) := by decide +kernel
theorem dX7_fit_186 : decode cX7_fit 186 = .ok (.goto 19, 3) := by decide +kernel
theorem dX7_fit_189 : decode cX7_fit 189 = .ok (.iload 5, 2) := by decide +kernel
theorem dX7_fit_191 : decode cX7_fit 191 = .ok (.aload_n 0, 1) := by decide +kernel
theorem dX7_fit_192 : decode cX7_fit 192 = .ok (.getfield 64, 3) := by decide +kernel
theorem dX7_fit_195 : decode cX7_fit 195 = .ok (.iload_n 3, 1) := by decide +kernel
theorem dX7_fit_196 : decode cX7_fit 196 = .ok (.iaload, 1) := by decide +kernel
theorem dX7_fit_197 : decode cX7_fit 197 = .ok (.if_icmp .ne 7, 3) := by decide +kernel
theorem dX7_fit_200 : decode cX7_fit 200 = .ok (.iconst 4, 1) := by decide +kernel
theorem dX7_fit_201 : decode cX7_fit 201 = .ok (.goto 4, 3) := by decide +kernel
theorem dX7_fit_204 : decode cX7_fit 204 = .ok (.iconst 1, 1) := by decide +kernel
theorem dX7_fit_205 : decode cX7_fit 205 = .ok (.ireturn, 1) := by decide +kernel
abbrev W_X7_fit (cyI cyJ cyO : ClassId) (h_o a_o_sets a_o_ringFar a_o_ringTone a_o_currents a_o_warmths a_o_depths a_o_tape a_o_readFar a_o_readTone a_o_readSea a_o_code a_o_cellAt a_o_courseAt a_o_paceAt a_o_turnsAt a_o_slowAt a_o_fuelAt a_o_ringAt a_o_pieceParts a_o_dragCell a_o_dragBy a_o_sums a_o_shares a_o_keptFar a_o_image a_o_lanes a_o_sizes a_o_items a_o_movedItems : Nat) (o_taped : Int32) (o_at : Int32) (o_wrong : Int32) (o_level : Int32) (o_noRings : Int32) (o_noTones : Int32) (o_noFuel : Int32) (o_pieces : Int32) (o_drags : Int32) (o_all : Int64) (o_noPieces : Int32) (o_noDrags : Int32) (o_kept : Int32) (o_sets : Nat → Int32) (o_currents : Nat → Int32) (o_warmths : Nat → Int32) (o_pieceParts : Nat → Int32) : va_W := [(h_o, .inr (7, [.ref a_o_sets, .ref a_o_ringFar, .ref a_o_ringTone, .ref a_o_currents, .ref a_o_warmths, .ref a_o_depths, .ref a_o_tape, .int o_taped, .int o_at, .int o_wrong, .ref a_o_readFar, .ref a_o_readTone, .ref a_o_readSea, .ref a_o_code, .ref a_o_cellAt, .ref a_o_courseAt, .ref a_o_paceAt, .ref a_o_turnsAt, .ref a_o_slowAt, .ref a_o_fuelAt, .ref a_o_ringAt, .int o_level, .int o_noRings, .int o_noTones, .int o_noFuel, .int o_pieces, .ref a_o_pieceParts, .int o_drags, .ref a_o_dragCell, .ref a_o_dragBy, .ref a_o_sums, .long o_all, .int o_noPieces, .int o_noDrags, .ref a_o_shares, .ref a_o_keptFar, .ref a_o_image, .int o_kept, .ref a_o_lanes, .ref a_o_sizes, .ref a_o_items, .ref a_o_movedItems])), (a_o_sets, .inl (cyI, 8, .inl o_sets)), (a_o_currents, .inl (cyI, 200, .inl o_currents)), (a_o_warmths, .inl (cyI, 200, .inl o_warmths)), (a_o_pieceParts, .inl (cyI, 20, .inl o_pieceParts))]
def f_X7_fit_B173 (v3 : Int32) (v5 : Int32) (v6 : Int32) (y0 : Int32) (o_sets : Nat → Int32) (o_currents : Nat → Int32) (o_warmths : Nat → Int32) (o_pieceParts : Nat → Int32) : Option (Int32) :=
  if v6 = 0 then
    some 0
  else
    if y0 = 0 then
      some 0
    else
      chk (¬ (v3 < 0 ∨ 20 ≤ v3.toNatClampNeg)) <|
      if v5 = (o_pieceParts v3.toNatClampNeg) then
        some 4
      else
        some 1
def f_X7_fit_B172 (v3 : Int32) (v5 : Int32) (v6 : Int32) (o_sets : Nat → Int32) (o_currents : Nat → Int32) (o_warmths : Nat → Int32) (o_pieceParts : Nat → Int32) : Option (Int32) :=
  f_X7_fit_B173 v3 v5 v6 0 o_sets o_currents o_warmths o_pieceParts
def f_X7_fit_B82 (k23 : Int32 → Int32 → Int32 → Int32 → Int32 → (Nat → Int32) → (Nat → Int32) → (Nat → Int32) → (Nat → Int32) → Option (Int32)) (v3 : Int32) (v4 : Int32) (v5 : Int32) (v7 : Int32) (y0 : Int32) (o_sets : Nat → Int32) (o_currents : Nat → Int32) (o_warmths : Nat → Int32) (o_pieceParts : Nat → Int32) : Option (Int32) :=
  chk (¬ (v3 + 2 < 0 ∨ 20 ≤ (v3 + 2).toNatClampNeg)) <|
  bd1 (f_X7_drifted v5 v7 (o_pieceParts (v3 + 2).toNatClampNeg) o_sets o_currents) fun r_1 =>
  nm (v7 + 1) fun x_2 =>
  k23 v3 v4 r_1 y0 x_2 o_sets o_currents o_warmths o_pieceParts
def f_X7_fit_B81 (k23 : Int32 → Int32 → Int32 → Int32 → Int32 → (Nat → Int32) → (Nat → Int32) → (Nat → Int32) → (Nat → Int32) → Option (Int32)) (v3 : Int32) (v4 : Int32) (v5 : Int32) (v7 : Int32) (o_sets : Nat → Int32) (o_currents : Nat → Int32) (o_warmths : Nat → Int32) (o_pieceParts : Nat → Int32) : Option (Int32) :=
  f_X7_fit_B82 k23 v3 v4 v5 v7 0 o_sets o_currents o_warmths o_pieceParts
def f_X7_fit_B77 (k23 : Int32 → Int32 → Int32 → Int32 → Int32 → (Nat → Int32) → (Nat → Int32) → (Nat → Int32) → (Nat → Int32) → Option (Int32)) (v3 : Int32) (v4 : Int32) (v5 : Int32) (v7 : Int32) (o_sets : Nat → Int32) (o_currents : Nat → Int32) (o_warmths : Nat → Int32) (o_pieceParts : Nat → Int32) : Option (Int32) :=
  f_X7_fit_B82 k23 v3 v4 v5 v7 1 o_sets o_currents o_warmths o_pieceParts
def f_X7_fit_L23b (k23 : Int32 → Int32 → Int32 → Int32 → Int32 → (Nat → Int32) → (Nat → Int32) → (Nat → Int32) → (Nat → Int32) → Option (Int32)) (v3 : Int32) (v4 : Int32) (v5 : Int32) (v6 : Int32) (v7 : Int32) (o_sets : Nat → Int32) (o_currents : Nat → Int32) (o_warmths : Nat → Int32) (o_pieceParts : Nat → Int32) : Option (Int32) :=
  if v4 ≤ v7 then
    chk (¬ (v3 < 0 ∨ 20 ≤ v3.toNatClampNeg)) <|
    nm ((v5 / 10) - ((o_pieceParts v3.toNatClampNeg) / 10)) fun x_3 =>
    chk (¬ (v3 < 0 ∨ 20 ≤ v3.toNatClampNeg)) <|
    nm ((v5 - v5 / 10 * 10) - ((o_pieceParts v3.toNatClampNeg) - (o_pieceParts v3.toNatClampNeg) / 10 * 10)) fun x_4 =>
    bd1 (f_X7_in x_3.toInt64 (-1) 1) fun r_5 =>
    if r_5 = 0 then
      f_X7_fit_B172 v3 v5 v6 o_sets o_currents o_warmths o_pieceParts
    else
      bd1 (f_X7_in x_4.toInt64 (-1) 1) fun r_6 =>
      if r_6 = 0 then
        f_X7_fit_B172 v3 v5 v6 o_sets o_currents o_warmths o_pieceParts
      else
        f_X7_fit_B173 v3 v5 v6 1 o_sets o_currents o_warmths o_pieceParts
  else
    if v6 = 0 then
      f_X7_fit_B81 k23 v3 v4 v5 v7 o_sets o_currents o_warmths o_pieceParts
    else
      chk (¬ (v3 + 3 < 0 ∨ 20 ≤ (v3 + 3).toNatClampNeg)) <|
      if v7 < (v4 - (o_pieceParts (v3 + 3).toNatClampNeg)) then
        f_X7_fit_B77 k23 v3 v4 v5 v7 o_sets o_currents o_warmths o_pieceParts
      else
        chk (¬ ((100 * (v7 - v7 / 2 * 2)) + v5 < 0 ∨ 200 ≤ ((100 * (v7 - v7 / 2 * 2)) + v5).toNatClampNeg)) <|
        chk (¬ (v3 + 4 < 0 ∨ 20 ≤ (v3 + 4).toNatClampNeg)) <|
        if (o_warmths ((100 * (v7 - v7 / 2 * 2)) + v5).toNatClampNeg) < (o_pieceParts (v3 + 4).toNatClampNeg) then
          f_X7_fit_B81 k23 v3 v4 v5 v7 o_sets o_currents o_warmths o_pieceParts
        else
          f_X7_fit_B77 k23 v3 v4 v5 v7 o_sets o_currents o_warmths o_pieceParts
def f_X7_fit_L23 : Nat → Int32 → Int32 → Int32 → Int32 → Int32 → (Nat → Int32) → (Nat → Int32) → (Nat → Int32) → (Nat → Int32) → Option (Int32)
  | 0 => fun _ _ _ _ _ _ _ _ _ => none
  | n + 1 => f_X7_fit_L23b (f_X7_fit_L23 n)
def f_X7_fit (x1 : Int32) (x2 : Int32) (o_sets : Nat → Int32) (o_currents : Nat → Int32) (o_warmths : Nat → Int32) (o_pieceParts : Nat → Int32) : Option (Int32) :=
  nm (5 * x1) fun x_7 =>
  chk (¬ (x_7 + 1 < 0 ∨ 20 ≤ (x_7 + 1).toNatClampNeg)) <|
  nm (o_pieceParts (x_7 + 1).toNatClampNeg) fun x_8 =>
  f_X7_fit_L23 FU x_7 x_8 x2 1 0 o_sets o_currents o_warmths o_pieceParts
abbrev rm_X7_fit : Room := { frames := 3, cells := 0, slots := 0, locals := 75 }
set_option maxRecDepth 100000 in
set_option maxHeartbeats 4000000 in
theorem c_X7_fit (l : Launch) (dC : Nat → ClassId) (dI : Nat → Nat → Nat) (cyI cyJ cyO : ClassId) (sz : Nat) (h_o a_o_sets a_o_ringFar a_o_ringTone a_o_currents a_o_warmths a_o_depths a_o_tape a_o_readFar a_o_readTone a_o_readSea a_o_code a_o_cellAt a_o_courseAt a_o_paceAt a_o_turnsAt a_o_slowAt a_o_fuelAt a_o_ringAt a_o_pieceParts a_o_dragCell a_o_dragBy a_o_sums a_o_shares a_o_keptFar a_o_image a_o_lanes a_o_sizes a_o_items a_o_movedItems : Nat) (o_taped : Int32) (o_at : Int32) (o_wrong : Int32) (o_level : Int32) (o_noRings : Int32) (o_noTones : Int32) (o_noFuel : Int32) (o_pieces : Int32) (o_drags : Int32) (o_all : Int64) (o_noPieces : Int32) (o_noDrags : Int32) (o_kept : Int32) (o_sets : Nat → Int32) (o_currents : Nat → Int32) (o_warmths : Nat → Int32) (o_pieceParts : Nat → Int32) (x1 : Int32) (x2 : Int32) (post : Int32 → Prop) (hf : okP (f_X7_fit x1 x2 o_sets o_currents o_warmths o_pieceParts) post) : Ci l (dC, dI) (tyL cyI cyJ cyO) yX7_fit wsX7_fit rm_X7_fit [.ref h_o, .int x1, .int x2] sz (W_X7_fit cyI cyJ cyO h_o a_o_sets a_o_ringFar a_o_ringTone a_o_currents a_o_warmths a_o_depths a_o_tape a_o_readFar a_o_readTone a_o_readSea a_o_code a_o_cellAt a_o_courseAt a_o_paceAt a_o_turnsAt a_o_slowAt a_o_fuelAt a_o_ringAt a_o_pieceParts a_o_dragCell a_o_dragBy a_o_sums a_o_shares a_o_keptFar a_o_image a_o_lanes a_o_sizes a_o_items a_o_movedItems o_taped o_at o_wrong o_level o_noRings o_noTones o_noFuel o_pieces o_drags o_all o_noPieces o_noDrags o_kept o_sets o_currents o_warmths o_pieceParts) zN (fun r (_ : Unit) => post r) (fun _ => (W_X7_fit cyI cyJ cyO h_o a_o_sets a_o_ringFar a_o_ringTone a_o_currents a_o_warmths a_o_depths a_o_tape a_o_readFar a_o_readTone a_o_readSea a_o_code a_o_cellAt a_o_courseAt a_o_paceAt a_o_turnsAt a_o_slowAt a_o_fuelAt a_o_ringAt a_o_pieceParts a_o_dragCell a_o_dragBy a_o_sums a_o_shares a_o_keptFar a_o_image a_o_lanes a_o_sizes a_o_items a_o_movedItems o_taped o_at o_wrong o_level o_noRings o_noTones o_noFuel o_pieces o_drags o_all o_noPieces o_noDrags o_kept o_sets o_currents o_warmths o_pieceParts)) := by
  refine Met.ofW (cc := cX7_fit) (maxL := 10) (ret := (some .int)) (by decide) rfl ?_
  intro p e s m args below meth c s₁ B hml hv
  obtain ⟨rfl, hsz, hP, hK, hD0, hZ⟩ := hv
  have hx := B.exec
  have hb := B.bytes
  have hr := B.returns
  have hts := atoms_spec (ws := wsX7_fit) B.pre
  have hown : s.vm.findClass RX7 = some m.cls := findClass_of_methodNamed B.named
  have hlocks := B.notSynchronized
  subst hsz
  have hD := hD0.self (sz := s.heap.size)
  generalize hAe : va_A (W_X7_fit cyI cyJ cyO h_o a_o_sets a_o_ringFar a_o_ringTone a_o_currents a_o_warmths a_o_depths a_o_tape a_o_readFar a_o_readTone a_o_readSea a_o_code a_o_cellAt a_o_courseAt a_o_paceAt a_o_turnsAt a_o_slowAt a_o_fuelAt a_o_ringAt a_o_pieceParts a_o_dragCell a_o_dragBy a_o_sums a_o_shares a_o_keptFar a_o_image a_o_lanes a_o_sizes a_o_items a_o_movedItems o_taped o_at o_wrong o_level o_noRings o_noTones o_noFuel o_pieces o_drags o_all o_noPieces o_noDrags o_kept o_sets o_currents o_warmths o_pieceParts) s.heap.size = A at hD hZ ⊢
  have hA : ∀ q : Nat, s.heap.size ≤ q → A q := fun q h => by rw [← hAe]; exact Or.inr h
  clear hAe hD0
  have hS : va_S A s.heap s.heap [] := va_S.rf
  have hl := lv_entry ([.ref h_o, .int x1, .int x2]) (n := 10) (Nat.le_of_ble_eq_true rfl)
  rw [lg_entry_eq]
  generalize (lg_sl ([.ref h_o, .int x1, .int x2]) ++ List.replicate (10 - (lg_sl ([.ref h_o, .int x1, .int x2])).length) Slot.unset).toArray = ls at hl ⊢
  have hl : lv_has ls 10 [(0, .ref h_o), (1, .int x1), (2, .int x2)] := hl
  refine kW (fun Q hQ => ?_)
  have hq0 := hts _ (List.mem_cons_of_mem _ q_732)
  have hi7 : ∀ w ∈ u_ws RX7 TX7 42, w ∈ wsX7_fit := fun w h => List.mem_cons_of_mem _ (inX7 w h)
  have hq2 := hts _ (List.mem_cons_of_mem _ q_858)
  have hq3 := hts _ (List.mem_cons_of_mem _ q_710)
  have hw := hf
  have w173 : ∀ (v3 : Int32) (v5 : Int32) (v6 : Int32) (y0 : Int32) (H : Heap) (locs : List Loc), va_P (dC, dI) vwCl (W_X7_fit cyI cyJ cyO h_o a_o_sets a_o_ringFar a_o_ringTone a_o_currents a_o_warmths a_o_depths a_o_tape a_o_readFar a_o_readTone a_o_readSea a_o_code a_o_cellAt a_o_courseAt a_o_paceAt a_o_turnsAt a_o_slowAt a_o_fuelAt a_o_ringAt a_o_pieceParts a_o_dragCell a_o_dragBy a_o_sums a_o_shares a_o_keptFar a_o_image a_o_lanes a_o_sizes a_o_items a_o_movedItems o_taped o_at o_wrong o_level o_noRings o_noTones o_noFuel o_pieces o_drags o_all o_noPieces o_noDrags o_kept o_sets o_currents o_warmths o_pieceParts) H → va_D A (W_X7_fit cyI cyJ cyO h_o a_o_sets a_o_ringFar a_o_ringTone a_o_currents a_o_warmths a_o_depths a_o_tape a_o_readFar a_o_readTone a_o_readSea a_o_code a_o_cellAt a_o_courseAt a_o_paceAt a_o_turnsAt a_o_slowAt a_o_fuelAt a_o_ringAt a_o_pieceParts a_o_dragCell a_o_dragBy a_o_sums a_o_shares a_o_keptFar a_o_image a_o_lanes a_o_sizes a_o_items a_o_movedItems o_taped o_at o_wrong o_level o_noRings o_noTones o_noFuel o_pieces o_drags o_all o_noPieces o_noDrags o_kept o_sets o_currents o_warmths o_pieceParts) → va_S A s.heap H locs → ∀ (ls : Array Slot), lv_has ls 10 [(0, .ref h_o), (3, .int v3), (5, .int v5), (6, .int v6)] → okP (f_X7_fit_B173 v3 v5 v6 y0 o_sets o_currents o_warmths o_pieceParts) post → W p l e (headSpec wsX7_fit rm_X7_fit).room s m ([.ref h_o, .int x1, .int x2] : List Value).toArray below meth c H locs 0 0 Q (F0 m 173 ls [.int y0]) := by
    intro v3 v5 v6 y0 H locs hP hD hS ls hl hw
    unfold f_X7_fit_B173 at hw
    refine lv_istore (lv' := [(9, .int y0), (0, .ref h_o), (3, .int v3), (5, .int v5), (6, .int v6)]) hx hb dX7_fit_173 hl (by decide) rfl (fun ls hl => ?_)
    refine lv_iload hx hb dX7_fit_175 (lv_at hl 4 rfl) ?_
    refine lv_if_eq (tgt := 185) hx hb dX7_fit_177 (by decide) (fun c_1 => ?_) (fun c_1 => ?_)
    · replace hw := okT hw c_1
      clear c_1
      refine lv_iconst (v := 0) hx hb dX7_fit_185 (by decide) ?_
      refine lv_goto (tgt := 205) hx hb dX7_fit_186 (by decide) ?_
      rw [hQ]
      exact W.iret (v := 0) hx hb hr (fun t ht hW => ⟨⟨0, (), rfl, okS hw, by rw [ht]; exact hP, va_K.moved hW.alike hK, hD⟩, hS.F ht⟩) hS.2.2 dX7_fit_205
    · replace hw := okF hw c_1
      clear c_1
      refine lv_iload hx hb dX7_fit_180 (lv_at hl 0 rfl) ?_
      refine lv_if_ne (tgt := 189) hx hb dX7_fit_182 (by decide) (fun c_2 => ?_) (fun c_2 => ?_)
      · replace hw := okF hw c_2
        clear c_2
        refine lv_iload hx hb dX7_fit_189 (lv_at hl 3 rfl) ?_
        refine lv_aload_n hx hb dX7_fit_191 rfl (lv_at hl 1 rfl) ?_
        refine va_get (D := (dC, dI)) (ci := 7) (v := .ref a_o_pieceParts) (C := RX7) (T := TX7) (N := 42) hx hb hts hi7 hown hK hP 0 rfl rfl 26 (by decide) hq0 (fun _ h9 => h9) rfl dX7_fit_192 ?_
        refine lv_iload_n hx hb dX7_fit_195 rfl (lv_at hl 2 rfl) ?_
        obtain ⟨h_3, hw⟩ := okC hw
        refine va_iald (i := v3) hx hb hK hP 4 0 rfl rfl h_3 dX7_fit_196 ?_
        refine lv_icmp_ne (tgt := 204) hx hb dX7_fit_197 (by decide) (fun c_4 => ?_) (fun c_4 => ?_)
        · replace hw := okF hw c_4
          clear c_4
          refine lv_iconst (v := 1) hx hb dX7_fit_204 (by decide) ?_
          rw [hQ]
          exact W.iret (v := 1) hx hb hr (fun t ht hW => ⟨⟨1, (), rfl, okS hw, by rw [ht]; exact hP, va_K.moved hW.alike hK, hD⟩, hS.F ht⟩) hS.2.2 dX7_fit_205
        · replace hw := okT hw c_4
          clear c_4
          refine lv_iconst (v := 4) hx hb dX7_fit_200 (by decide) ?_
          refine lv_goto (tgt := 205) hx hb dX7_fit_201 (by decide) ?_
          rw [hQ]
          exact W.iret (v := 4) hx hb hr (fun t ht hW => ⟨⟨4, (), rfl, okS hw, by rw [ht]; exact hP, va_K.moved hW.alike hK, hD⟩, hS.F ht⟩) hS.2.2 dX7_fit_205
      · replace hw := okT hw c_2
        clear c_2
        refine lv_iconst (v := 0) hx hb dX7_fit_185 (by decide) ?_
        refine lv_goto (tgt := 205) hx hb dX7_fit_186 (by decide) ?_
        rw [hQ]
        exact W.iret (v := 0) hx hb hr (fun t ht hW => ⟨⟨0, (), rfl, okS hw, by rw [ht]; exact hP, va_K.moved hW.alike hK, hD⟩, hS.F ht⟩) hS.2.2 dX7_fit_205
  have w172 : ∀ (v3 : Int32) (v5 : Int32) (v6 : Int32) (H : Heap) (locs : List Loc), va_P (dC, dI) vwCl (W_X7_fit cyI cyJ cyO h_o a_o_sets a_o_ringFar a_o_ringTone a_o_currents a_o_warmths a_o_depths a_o_tape a_o_readFar a_o_readTone a_o_readSea a_o_code a_o_cellAt a_o_courseAt a_o_paceAt a_o_turnsAt a_o_slowAt a_o_fuelAt a_o_ringAt a_o_pieceParts a_o_dragCell a_o_dragBy a_o_sums a_o_shares a_o_keptFar a_o_image a_o_lanes a_o_sizes a_o_items a_o_movedItems o_taped o_at o_wrong o_level o_noRings o_noTones o_noFuel o_pieces o_drags o_all o_noPieces o_noDrags o_kept o_sets o_currents o_warmths o_pieceParts) H → va_D A (W_X7_fit cyI cyJ cyO h_o a_o_sets a_o_ringFar a_o_ringTone a_o_currents a_o_warmths a_o_depths a_o_tape a_o_readFar a_o_readTone a_o_readSea a_o_code a_o_cellAt a_o_courseAt a_o_paceAt a_o_turnsAt a_o_slowAt a_o_fuelAt a_o_ringAt a_o_pieceParts a_o_dragCell a_o_dragBy a_o_sums a_o_shares a_o_keptFar a_o_image a_o_lanes a_o_sizes a_o_items a_o_movedItems o_taped o_at o_wrong o_level o_noRings o_noTones o_noFuel o_pieces o_drags o_all o_noPieces o_noDrags o_kept o_sets o_currents o_warmths o_pieceParts) → va_S A s.heap H locs → ∀ (ls : Array Slot), lv_has ls 10 [(0, .ref h_o), (3, .int v3), (5, .int v5), (6, .int v6)] → okP (f_X7_fit_B172 v3 v5 v6 o_sets o_currents o_warmths o_pieceParts) post → W p l e (headSpec wsX7_fit rm_X7_fit).room s m ([.ref h_o, .int x1, .int x2] : List Value).toArray below meth c H locs 0 0 Q (F0 m 172 ls []) := by
    intro v3 v5 v6 H locs hP hD hS ls hl hw
    unfold f_X7_fit_B172 at hw
    refine lv_iconst (v := 0) hx hb dX7_fit_172 (by decide) ?_
    exact w173 v3 v5 v6 0 _ _ hP hD hS _ (lv_sub hl [0, 1, 2, 3] rfl) hw
  have w23 : ∀ (n : Nat), ∀ (v3 : Int32) (v4 : Int32) (v5 : Int32) (v6 : Int32) (v7 : Int32) (H : Heap) (locs : List Loc), va_P (dC, dI) vwCl (W_X7_fit cyI cyJ cyO h_o a_o_sets a_o_ringFar a_o_ringTone a_o_currents a_o_warmths a_o_depths a_o_tape a_o_readFar a_o_readTone a_o_readSea a_o_code a_o_cellAt a_o_courseAt a_o_paceAt a_o_turnsAt a_o_slowAt a_o_fuelAt a_o_ringAt a_o_pieceParts a_o_dragCell a_o_dragBy a_o_sums a_o_shares a_o_keptFar a_o_image a_o_lanes a_o_sizes a_o_items a_o_movedItems o_taped o_at o_wrong o_level o_noRings o_noTones o_noFuel o_pieces o_drags o_all o_noPieces o_noDrags o_kept o_sets o_currents o_warmths o_pieceParts) H → va_D A (W_X7_fit cyI cyJ cyO h_o a_o_sets a_o_ringFar a_o_ringTone a_o_currents a_o_warmths a_o_depths a_o_tape a_o_readFar a_o_readTone a_o_readSea a_o_code a_o_cellAt a_o_courseAt a_o_paceAt a_o_turnsAt a_o_slowAt a_o_fuelAt a_o_ringAt a_o_pieceParts a_o_dragCell a_o_dragBy a_o_sums a_o_shares a_o_keptFar a_o_image a_o_lanes a_o_sizes a_o_items a_o_movedItems o_taped o_at o_wrong o_level o_noRings o_noTones o_noFuel o_pieces o_drags o_all o_noPieces o_noDrags o_kept o_sets o_currents o_warmths o_pieceParts) → va_S A s.heap H locs → ∀ (ls : Array Slot), lv_has ls 10 [(0, .ref h_o), (3, .int v3), (4, .int v4), (5, .int v5), (6, .int v6), (7, .int v7)] → okP (f_X7_fit_L23 n v3 v4 v5 v6 v7 o_sets o_currents o_warmths o_pieceParts) post → W p l e (headSpec wsX7_fit rm_X7_fit).room s m ([.ref h_o, .int x1, .int x2] : List Value).toArray below meth c H locs 0 0 Q (F0 m 23 ls []) := by
    intro n
    induction n with
    | zero =>
      intro v3 v4 v5 v6 v7 H locs hP hD hS ls hl hw
      exact (ok0 hw).elim
    | succ n23 ih23 =>
      have w82 : ∀ (v3 : Int32) (v4 : Int32) (v5 : Int32) (v7 : Int32) (y0 : Int32) (H : Heap) (locs : List Loc), va_P (dC, dI) vwCl (W_X7_fit cyI cyJ cyO h_o a_o_sets a_o_ringFar a_o_ringTone a_o_currents a_o_warmths a_o_depths a_o_tape a_o_readFar a_o_readTone a_o_readSea a_o_code a_o_cellAt a_o_courseAt a_o_paceAt a_o_turnsAt a_o_slowAt a_o_fuelAt a_o_ringAt a_o_pieceParts a_o_dragCell a_o_dragBy a_o_sums a_o_shares a_o_keptFar a_o_image a_o_lanes a_o_sizes a_o_items a_o_movedItems o_taped o_at o_wrong o_level o_noRings o_noTones o_noFuel o_pieces o_drags o_all o_noPieces o_noDrags o_kept o_sets o_currents o_warmths o_pieceParts) H → va_D A (W_X7_fit cyI cyJ cyO h_o a_o_sets a_o_ringFar a_o_ringTone a_o_currents a_o_warmths a_o_depths a_o_tape a_o_readFar a_o_readTone a_o_readSea a_o_code a_o_cellAt a_o_courseAt a_o_paceAt a_o_turnsAt a_o_slowAt a_o_fuelAt a_o_ringAt a_o_pieceParts a_o_dragCell a_o_dragBy a_o_sums a_o_shares a_o_keptFar a_o_image a_o_lanes a_o_sizes a_o_items a_o_movedItems o_taped o_at o_wrong o_level o_noRings o_noTones o_noFuel o_pieces o_drags o_all o_noPieces o_noDrags o_kept o_sets o_currents o_warmths o_pieceParts) → va_S A s.heap H locs → ∀ (ls : Array Slot), lv_has ls 10 [(0, .ref h_o), (3, .int v3), (4, .int v4), (5, .int v5), (7, .int v7)] → okP (f_X7_fit_B82 (f_X7_fit_L23 n23) v3 v4 v5 v7 y0 o_sets o_currents o_warmths o_pieceParts) post → W p l e (headSpec wsX7_fit rm_X7_fit).room s m ([.ref h_o, .int x1, .int x2] : List Value).toArray below meth c H locs 0 0 Q (F0 m 82 ls [.int y0]) := by
        intro v3 v4 v5 v7 y0 H locs hP hD hS ls hl hw
        unfold f_X7_fit_B82 at hw
        refine lv_istore (lv' := [(6, .int y0), (0, .ref h_o), (3, .int v3), (4, .int v4), (5, .int v5), (7, .int v7)]) hx hb dX7_fit_82 hl (by decide) rfl (fun ls hl => ?_)
        refine lv_aload_n hx hb dX7_fit_84 rfl (lv_at hl 1 rfl) ?_
        refine lv_iload hx hb dX7_fit_85 (lv_at hl 4 rfl) ?_
        refine lv_iload hx hb dX7_fit_87 (lv_at hl 5 rfl) ?_
        refine lv_aload_n hx hb dX7_fit_89 rfl (lv_at hl 1 rfl) ?_
        refine va_get (D := (dC, dI)) (ci := 7) (v := .ref a_o_pieceParts) (C := RX7) (T := TX7) (N := 42) hx hb hts hi7 hown hK hP 0 rfl rfl 26 (by decide) hq0 (fun _ h9 => h9) rfl dX7_fit_90 ?_
        refine lv_iload_n hx hb dX7_fit_93 rfl (lv_at hl 2 rfl) ?_
        refine lv_iconst (v := 2) hx hb dX7_fit_94 (by decide) ?_
        refine lv_iadd hx hb dX7_fit_95 ?_
        obtain ⟨h_5, hw⟩ := okC hw
        refine va_iald (i := v3 + 2) hx hb hK hP 4 0 rfl rfl h_5 dX7_fit_96 ?_
        have hPc := hP.sub (ws' := (W_X7_drifted cyI cyJ cyO h_o a_o_sets a_o_ringFar a_o_ringTone a_o_currents a_o_warmths a_o_depths a_o_tape a_o_readFar a_o_readTone a_o_readSea a_o_code a_o_cellAt a_o_courseAt a_o_paceAt a_o_turnsAt a_o_slowAt a_o_fuelAt a_o_ringAt a_o_pieceParts a_o_dragCell a_o_dragBy a_o_sums a_o_shares a_o_keptFar a_o_image a_o_lanes a_o_sizes a_o_items a_o_movedItems o_taped o_at o_wrong o_level o_noRings o_noTones o_noFuel o_pieces o_drags o_all o_noPieces o_noDrags o_kept o_sets o_currents)) [0, 1, 2] rfl
        have hDc := hD.sub (ws' := (W_X7_drifted cyI cyJ cyO h_o a_o_sets a_o_ringFar a_o_ringTone a_o_currents a_o_warmths a_o_depths a_o_tape a_o_readFar a_o_readTone a_o_readSea a_o_code a_o_cellAt a_o_courseAt a_o_paceAt a_o_turnsAt a_o_slowAt a_o_fuelAt a_o_ringAt a_o_pieceParts a_o_dragCell a_o_dragBy a_o_sums a_o_shares a_o_keptFar a_o_image a_o_lanes a_o_sizes a_o_items a_o_movedItems o_taped o_at o_wrong o_level o_noRings o_noTones o_noFuel o_pieces o_drags o_all o_noPieces o_noDrags o_kept o_sets o_currents)) [0, 1, 2] (by decide +kernel) rfl
        have hFc := va_free (wc := (W_X7_drifted cyI cyJ cyO h_o a_o_sets a_o_ringFar a_o_ringTone a_o_currents a_o_warmths a_o_depths a_o_tape a_o_readFar a_o_readTone a_o_readSea a_o_code a_o_cellAt a_o_courseAt a_o_paceAt a_o_turnsAt a_o_slowAt a_o_fuelAt a_o_ringAt a_o_pieceParts a_o_dragCell a_o_dragBy a_o_sums a_o_shares a_o_keptFar a_o_image a_o_lanes a_o_sizes a_o_items a_o_movedItems o_taped o_at o_wrong o_level o_noRings o_noTones o_noFuel o_pieces o_drags o_all o_noPieces o_noDrags o_kept o_sets o_currents)) hD hS hA [0, 1, 2] rfl
        refine kc_i (wr := [(a_o_warmths, .inl (cyI, 200, .inl o_warmths)), (a_o_pieceParts, .inl (cyI, 20, .inl o_pieceParts))]) (va_runV (As := [.int v5, .int v7, .int (o_pieceParts (v3 + 2).toNatClampNeg)]) (rest := []) ⟨hx, hb, hml, hown, hts⟩ (c_X7_drifted l dC dI cyI cyJ cyO H.size h_o a_o_sets a_o_ringFar a_o_ringTone a_o_currents a_o_warmths a_o_depths a_o_tape a_o_readFar a_o_readTone a_o_readSea a_o_code a_o_cellAt a_o_courseAt a_o_paceAt a_o_turnsAt a_o_slowAt a_o_fuelAt a_o_ringAt a_o_pieceParts a_o_dragCell a_o_dragBy a_o_sums a_o_shares a_o_keptFar a_o_image a_o_lanes a_o_sizes a_o_items a_o_movedItems o_taped o_at o_wrong o_level o_noRings o_noTones o_noFuel o_pieces o_drags o_all o_noPieces o_noDrags o_kept o_sets o_currents v5 v7 (o_pieceParts (v3 + 2).toNatClampNeg) _ (okb1 hw)) (cwV 3 hts (gdV (fun w h => List.mem_cons_of_mem _ h) q_967 q_969 qs_36 q_8 q_970) rfl rfl rfl (by decide +kernel) ⟨Nat.le_of_ble_eq_true rfl, Nat.le_of_ble_eq_true rfl⟩) ⟨(kpre zN_ok hK hPc hDc trivial hS hFc).1, va_recv hK hP (ci := 7) (q0 := 0) rfl rfl, (kpre zN_ok hK hPc hDc trivial hS hFc).2⟩ rfl rfl hl.1 rfl (lv_room (Nat.le_of_ble_eq_true rfl)) dX7_fit_97 ⟨Nat.le_of_ble_eq_true rfl, Nat.le_of_ble_eq_true rfl⟩) hP hD hS hFc [0, 1, 2] [3, 4] rfl rfl (by decide +kernel) (by decide +kernel) (fun r_6 u H locs hw hP hD hS => ?_)
        try dsimp only at hw
        have hP : va_P (dC, dI) vwCl (W_X7_fit cyI cyJ cyO h_o a_o_sets a_o_ringFar a_o_ringTone a_o_currents a_o_warmths a_o_depths a_o_tape a_o_readFar a_o_readTone a_o_readSea a_o_code a_o_cellAt a_o_courseAt a_o_paceAt a_o_turnsAt a_o_slowAt a_o_fuelAt a_o_ringAt a_o_pieceParts a_o_dragCell a_o_dragBy a_o_sums a_o_shares a_o_keptFar a_o_image a_o_lanes a_o_sizes a_o_items a_o_movedItems o_taped o_at o_wrong o_level o_noRings o_noTones o_noFuel o_pieces o_drags o_all o_noPieces o_noDrags o_kept o_sets o_currents o_warmths o_pieceParts) H := hP.sub [2, 3, 4, 0, 1] rfl
        have hD : va_D A (W_X7_fit cyI cyJ cyO h_o a_o_sets a_o_ringFar a_o_ringTone a_o_currents a_o_warmths a_o_depths a_o_tape a_o_readFar a_o_readTone a_o_readSea a_o_code a_o_cellAt a_o_courseAt a_o_paceAt a_o_turnsAt a_o_slowAt a_o_fuelAt a_o_ringAt a_o_pieceParts a_o_dragCell a_o_dragBy a_o_sums a_o_shares a_o_keptFar a_o_image a_o_lanes a_o_sizes a_o_items a_o_movedItems o_taped o_at o_wrong o_level o_noRings o_noTones o_noFuel o_pieces o_drags o_all o_noPieces o_noDrags o_kept o_sets o_currents o_warmths o_pieceParts) := hD.sub [2, 3, 4, 0, 1] (by decide +kernel) rfl
        clear hPc hDc hFc
        refine lv_istore (lv' := [(5, .int r_6), (6, .int y0), (0, .ref h_o), (3, .int v3), (4, .int v4), (7, .int v7)]) hx hb dX7_fit_100 hl (by decide) rfl (fun ls hl => ?_)
        obtain ⟨x_7, ex_7⟩ : ∃ y : Int32, y = v7 + 1 := ⟨_, rfl⟩
        replace hw := okN ex_7 hw
        refine lv_iinc (v := x_7) (lv' := [(7, .int x_7), (5, .int r_6), (6, .int y0), (0, .ref h_o), (3, .int v3), (4, .int v4)]) hx hb dX7_fit_102 hl (k := 5) rfl (by rw [ex_7]; rfl) (by decide) rfl (fun ls hl => ?_)
        clear ex_7
        refine lv_goto (tgt := 23) hx hb dX7_fit_105 (by decide) ?_
        exact ih23 v3 v4 r_6 y0 x_7 _ _ hP hD hS _ (lv_sub hl [3, 4, 5, 1, 2, 0] rfl) hw
      have w81 : ∀ (v3 : Int32) (v4 : Int32) (v5 : Int32) (v7 : Int32) (H : Heap) (locs : List Loc), va_P (dC, dI) vwCl (W_X7_fit cyI cyJ cyO h_o a_o_sets a_o_ringFar a_o_ringTone a_o_currents a_o_warmths a_o_depths a_o_tape a_o_readFar a_o_readTone a_o_readSea a_o_code a_o_cellAt a_o_courseAt a_o_paceAt a_o_turnsAt a_o_slowAt a_o_fuelAt a_o_ringAt a_o_pieceParts a_o_dragCell a_o_dragBy a_o_sums a_o_shares a_o_keptFar a_o_image a_o_lanes a_o_sizes a_o_items a_o_movedItems o_taped o_at o_wrong o_level o_noRings o_noTones o_noFuel o_pieces o_drags o_all o_noPieces o_noDrags o_kept o_sets o_currents o_warmths o_pieceParts) H → va_D A (W_X7_fit cyI cyJ cyO h_o a_o_sets a_o_ringFar a_o_ringTone a_o_currents a_o_warmths a_o_depths a_o_tape a_o_readFar a_o_readTone a_o_readSea a_o_code a_o_cellAt a_o_courseAt a_o_paceAt a_o_turnsAt a_o_slowAt a_o_fuelAt a_o_ringAt a_o_pieceParts a_o_dragCell a_o_dragBy a_o_sums a_o_shares a_o_keptFar a_o_image a_o_lanes a_o_sizes a_o_items a_o_movedItems o_taped o_at o_wrong o_level o_noRings o_noTones o_noFuel o_pieces o_drags o_all o_noPieces o_noDrags o_kept o_sets o_currents o_warmths o_pieceParts) → va_S A s.heap H locs → ∀ (ls : Array Slot), lv_has ls 10 [(0, .ref h_o), (3, .int v3), (4, .int v4), (5, .int v5), (7, .int v7)] → okP (f_X7_fit_B81 (f_X7_fit_L23 n23) v3 v4 v5 v7 o_sets o_currents o_warmths o_pieceParts) post → W p l e (headSpec wsX7_fit rm_X7_fit).room s m ([.ref h_o, .int x1, .int x2] : List Value).toArray below meth c H locs 0 0 Q (F0 m 81 ls []) := by
        intro v3 v4 v5 v7 H locs hP hD hS ls hl hw
        unfold f_X7_fit_B81 at hw
        refine lv_iconst (v := 0) hx hb dX7_fit_81 (by decide) ?_
        exact w82 v3 v4 v5 v7 0 _ _ hP hD hS _ (lv_sub hl [0, 1, 2, 3, 4] rfl) hw
      have w77 : ∀ (v3 : Int32) (v4 : Int32) (v5 : Int32) (v7 : Int32) (H : Heap) (locs : List Loc), va_P (dC, dI) vwCl (W_X7_fit cyI cyJ cyO h_o a_o_sets a_o_ringFar a_o_ringTone a_o_currents a_o_warmths a_o_depths a_o_tape a_o_readFar a_o_readTone a_o_readSea a_o_code a_o_cellAt a_o_courseAt a_o_paceAt a_o_turnsAt a_o_slowAt a_o_fuelAt a_o_ringAt a_o_pieceParts a_o_dragCell a_o_dragBy a_o_sums a_o_shares a_o_keptFar a_o_image a_o_lanes a_o_sizes a_o_items a_o_movedItems o_taped o_at o_wrong o_level o_noRings o_noTones o_noFuel o_pieces o_drags o_all o_noPieces o_noDrags o_kept o_sets o_currents o_warmths o_pieceParts) H → va_D A (W_X7_fit cyI cyJ cyO h_o a_o_sets a_o_ringFar a_o_ringTone a_o_currents a_o_warmths a_o_depths a_o_tape a_o_readFar a_o_readTone a_o_readSea a_o_code a_o_cellAt a_o_courseAt a_o_paceAt a_o_turnsAt a_o_slowAt a_o_fuelAt a_o_ringAt a_o_pieceParts a_o_dragCell a_o_dragBy a_o_sums a_o_shares a_o_keptFar a_o_image a_o_lanes a_o_sizes a_o_items a_o_movedItems o_taped o_at o_wrong o_level o_noRings o_noTones o_noFuel o_pieces o_drags o_all o_noPieces o_noDrags o_kept o_sets o_currents o_warmths o_pieceParts) → va_S A s.heap H locs → ∀ (ls : Array Slot), lv_has ls 10 [(0, .ref h_o), (3, .int v3), (4, .int v4), (5, .int v5), (7, .int v7)] → okP (f_X7_fit_B77 (f_X7_fit_L23 n23) v3 v4 v5 v7 o_sets o_currents o_warmths o_pieceParts) post → W p l e (headSpec wsX7_fit rm_X7_fit).room s m ([.ref h_o, .int x1, .int x2] : List Value).toArray below meth c H locs 0 0 Q (F0 m 77 ls []) := by
        intro v3 v4 v5 v7 H locs hP hD hS ls hl hw
        unfold f_X7_fit_B77 at hw
        refine lv_iconst (v := 1) hx hb dX7_fit_77 (by decide) ?_
        refine lv_goto (tgt := 82) hx hb dX7_fit_78 (by decide) ?_
        exact w82 v3 v4 v5 v7 1 _ _ hP hD hS _ (lv_sub hl [0, 1, 2, 3, 4] rfl) hw
      intro v3 v4 v5 v6 v7 H locs hP hD hS ls hl hw
      replace hw : okP (f_X7_fit_L23b (f_X7_fit_L23 n23) v3 v4 v5 v6 v7 o_sets o_currents o_warmths o_pieceParts) post := hw
      unfold f_X7_fit_L23b at hw
      refine lv_iload hx hb dX7_fit_23 (lv_at hl 5 rfl) ?_
      refine lv_iload hx hb dX7_fit_25 (lv_at hl 2 rfl) ?_
      refine lv_icmp_ge (tgt := 108) hx hb dX7_fit_27 (by decide) (fun c_8 => ?_) (fun c_8 => ?_)
      · replace hw := okT hw c_8
        clear c_8
        refine lv_iload hx hb dX7_fit_108 (lv_at hl 3 rfl) ?_
        refine lv_bipush (v := 10) hx hb dX7_fit_110 (by decide) ?_
        refine lv_idiv hx hb dX7_fit_112 (by decide) ?_
        refine lv_aload_n hx hb dX7_fit_113 rfl (lv_at hl 0 rfl) ?_
        refine va_get (D := (dC, dI)) (ci := 7) (v := .ref a_o_pieceParts) (C := RX7) (T := TX7) (N := 42) hx hb hts hi7 hown hK hP 0 rfl rfl 26 (by decide) hq0 (fun _ h9 => h9) rfl dX7_fit_114 ?_
        refine lv_iload_n hx hb dX7_fit_117 rfl (lv_at hl 1 rfl) ?_
        obtain ⟨h_9, hw⟩ := okC hw
        refine va_iald (i := v3) hx hb hK hP 4 0 rfl rfl h_9 dX7_fit_118 ?_
        refine lv_bipush (v := 10) hx hb dX7_fit_119 (by decide) ?_
        refine lv_idiv hx hb dX7_fit_121 (by decide) ?_
        refine lv_isub hx hb dX7_fit_122 ?_
        refine lv_topi (fun x_10 ex_10 => ?_)
        replace hw := okN ex_10 hw
        clear ex_10
        refine lv_istore (lv' := [(7, .int x_10), (0, .ref h_o), (3, .int v3), (4, .int v4), (5, .int v5), (6, .int v6)]) hx hb dX7_fit_123 hl (by decide) rfl (fun ls hl => ?_)
        refine lv_iload hx hb dX7_fit_125 (lv_at hl 4 rfl) ?_
        refine lv_bipush (v := 10) hx hb dX7_fit_127 (by decide) ?_
        refine lv_irem hx hb dX7_fit_129 (by decide) ?_
        refine lv_aload_n hx hb dX7_fit_130 rfl (lv_at hl 1 rfl) ?_
        refine va_get (D := (dC, dI)) (ci := 7) (v := .ref a_o_pieceParts) (C := RX7) (T := TX7) (N := 42) hx hb hts hi7 hown hK hP 0 rfl rfl 26 (by decide) hq0 (fun _ h9 => h9) rfl dX7_fit_131 ?_
        refine lv_iload_n hx hb dX7_fit_134 rfl (lv_at hl 2 rfl) ?_
        obtain ⟨h_11, hw⟩ := okC hw
        refine va_iald (i := v3) hx hb hK hP 4 0 rfl rfl h_11 dX7_fit_135 ?_
        refine lv_bipush (v := 10) hx hb dX7_fit_136 (by decide) ?_
        refine lv_irem hx hb dX7_fit_138 (by decide) ?_
        refine lv_isub hx hb dX7_fit_139 ?_
        refine lv_topi (fun x_12 ex_12 => ?_)
        replace hw := okN ex_12 hw
        clear ex_12
        refine lv_istore (lv' := [(8, .int x_12), (7, .int x_10), (0, .ref h_o), (3, .int v3), (4, .int v4), (5, .int v5), (6, .int v6)]) hx hb dX7_fit_140 hl (by decide) rfl (fun ls hl => ?_)
        refine lv_iload hx hb dX7_fit_142 (lv_at hl 1 rfl) ?_
        refine lv_i2l (v := x_10.toInt64) hx hb dX7_fit_144 rfl ?_
        refine lv_ldc2 (v := (-1)) hx hb hown hq2 dX7_fit_145 ?_
        refine lv_lconst (v := 1) hx hb dX7_fit_148 (by decide) ?_
        have hFc := va_free (wc := []) hD hS hA [] rfl
        refine kp_i (va_runS (As := [.long x_10.toInt64, .long (-1), .long 1]) (rest := []) ⟨hx, hb, hml, hown, hts⟩ (c_X7_in l dC dI cyI cyJ cyO H.size x_10.toInt64 (-1) 1 _ (okb1 hw)) (va_cwS 3 hts (gdS (fun w h => List.mem_cons_of_mem _ h) q_838 q_839 q_8 q_840) rfl rfl rfl (by decide +kernel) ⟨Nat.le_of_ble_eq_true rfl, Nat.le_of_ble_eq_true rfl⟩) (kpre zN_ok hK va_P0 va_D0 trivial hS hFc) rfl rfl hl.1 rfl (lv_room (Nat.le_of_ble_eq_true rfl)) dX7_fit_149 ⟨Nat.le_of_ble_eq_true rfl, Nat.le_of_ble_eq_true rfl⟩) hP hD hS hFc (fun r_13 H locs hw hP hS => ?_)
        try dsimp only at hw
        clear hFc
        refine lv_if_eq (tgt := 172) hx hb dX7_fit_152 (by decide) (fun c_14 => ?_) (fun c_14 => ?_)
        · replace hw := okT hw c_14
          clear c_14
          exact w172 v3 v5 v6 _ _ hP hD hS _ (lv_sub hl [2, 3, 5, 6] rfl) hw
        · replace hw := okF hw c_14
          clear c_14
          refine lv_iload hx hb dX7_fit_155 (lv_at hl 0 rfl) ?_
          refine lv_i2l (v := x_12.toInt64) hx hb dX7_fit_157 rfl ?_
          refine lv_ldc2 (v := (-1)) hx hb hown hq2 dX7_fit_158 ?_
          refine lv_lconst (v := 1) hx hb dX7_fit_161 (by decide) ?_
          have hFc := va_free (wc := []) hD hS hA [] rfl
          refine kp_i (va_runS (As := [.long x_12.toInt64, .long (-1), .long 1]) (rest := []) ⟨hx, hb, hml, hown, hts⟩ (c_X7_in l dC dI cyI cyJ cyO H.size x_12.toInt64 (-1) 1 _ (okb1 hw)) (va_cwS 3 hts (gdS (fun w h => List.mem_cons_of_mem _ h) q_838 q_839 q_8 q_840) rfl rfl rfl (by decide +kernel) ⟨Nat.le_of_ble_eq_true rfl, Nat.le_of_ble_eq_true rfl⟩) (kpre zN_ok hK va_P0 va_D0 trivial hS hFc) rfl rfl hl.1 rfl (lv_room (Nat.le_of_ble_eq_true rfl)) dX7_fit_162 ⟨Nat.le_of_ble_eq_true rfl, Nat.le_of_ble_eq_true rfl⟩) hP hD hS hFc (fun r_15 H locs hw hP hS => ?_)
          try dsimp only at hw
          clear hFc
          refine lv_if_eq (tgt := 172) hx hb dX7_fit_165 (by decide) (fun c_16 => ?_) (fun c_16 => ?_)
          · replace hw := okT hw c_16
            clear c_16
            exact w172 v3 v5 v6 _ _ hP hD hS _ (lv_sub hl [2, 3, 5, 6] rfl) hw
          · replace hw := okF hw c_16
            clear c_16
            refine lv_iconst (v := 1) hx hb dX7_fit_168 (by decide) ?_
            refine lv_goto (tgt := 173) hx hb dX7_fit_169 (by decide) ?_
            exact w173 v3 v5 v6 1 _ _ hP hD hS _ (lv_sub hl [2, 3, 5, 6] rfl) hw
      · replace hw := okF hw c_8
        clear c_8
        refine lv_iload hx hb dX7_fit_30 (lv_at hl 4 rfl) ?_
        refine lv_if_eq (tgt := 81) hx hb dX7_fit_32 (by decide) (fun c_17 => ?_) (fun c_17 => ?_)
        · replace hw := okT hw c_17
          clear c_17
          exact w81 v3 v4 v5 v7 _ _ hP hD hS _ (lv_sub hl [0, 1, 2, 3, 5] rfl) hw
        · replace hw := okF hw c_17
          clear c_17
          refine lv_iload hx hb dX7_fit_35 (lv_at hl 5 rfl) ?_
          refine lv_iload hx hb dX7_fit_37 (lv_at hl 2 rfl) ?_
          refine lv_aload_n hx hb dX7_fit_39 rfl (lv_at hl 0 rfl) ?_
          refine va_get (D := (dC, dI)) (ci := 7) (v := .ref a_o_pieceParts) (C := RX7) (T := TX7) (N := 42) hx hb hts hi7 hown hK hP 0 rfl rfl 26 (by decide) hq0 (fun _ h9 => h9) rfl dX7_fit_40 ?_
          refine lv_iload_n hx hb dX7_fit_43 rfl (lv_at hl 1 rfl) ?_
          refine lv_iconst (v := 3) hx hb dX7_fit_44 (by decide) ?_
          refine lv_iadd hx hb dX7_fit_45 ?_
          obtain ⟨h_18, hw⟩ := okC hw
          refine va_iald (i := v3 + 3) hx hb hK hP 4 0 rfl rfl h_18 dX7_fit_46 ?_
          refine lv_isub hx hb dX7_fit_47 ?_
          refine lv_icmp_lt (tgt := 77) hx hb dX7_fit_48 (by decide) (fun c_19 => ?_) (fun c_19 => ?_)
          · replace hw := okT hw c_19
            clear c_19
            exact w77 v3 v4 v5 v7 _ _ hP hD hS _ (lv_sub hl [0, 1, 2, 3, 5] rfl) hw
          · replace hw := okF hw c_19
            clear c_19
            refine lv_aload_n hx hb dX7_fit_51 rfl (lv_at hl 0 rfl) ?_
            refine va_get (D := (dC, dI)) (ci := 7) (v := .ref a_o_warmths) (C := RX7) (T := TX7) (N := 42) hx hb hts hi7 hown hK hP 0 rfl rfl 4 (by decide) hq3 (fun _ h9 => h9) rfl dX7_fit_52 ?_
            refine lv_bipush (v := 100) hx hb dX7_fit_55 (by decide) ?_
            refine lv_iload hx hb dX7_fit_57 (lv_at hl 5 rfl) ?_
            refine lv_iconst (v := 2) hx hb dX7_fit_59 (by decide) ?_
            refine lv_irem hx hb dX7_fit_60 (by decide) ?_
            refine lv_imul hx hb dX7_fit_61 ?_
            refine lv_iload hx hb dX7_fit_62 (lv_at hl 3 rfl) ?_
            refine lv_iadd hx hb dX7_fit_64 ?_
            obtain ⟨h_20, hw⟩ := okC hw
            refine va_iald (i := (100 * (v7 - v7 / 2 * 2)) + v5) hx hb hK hP 3 0 rfl rfl h_20 dX7_fit_65 ?_
            refine lv_aload_n hx hb dX7_fit_66 rfl (lv_at hl 0 rfl) ?_
            refine va_get (D := (dC, dI)) (ci := 7) (v := .ref a_o_pieceParts) (C := RX7) (T := TX7) (N := 42) hx hb hts hi7 hown hK hP 0 rfl rfl 26 (by decide) hq0 (fun _ h9 => h9) rfl dX7_fit_67 ?_
            refine lv_iload_n hx hb dX7_fit_70 rfl (lv_at hl 1 rfl) ?_
            refine lv_iconst (v := 4) hx hb dX7_fit_71 (by decide) ?_
            refine lv_iadd hx hb dX7_fit_72 ?_
            obtain ⟨h_21, hw⟩ := okC hw
            refine va_iald (i := v3 + 4) hx hb hK hP 4 0 rfl rfl h_21 dX7_fit_73 ?_
            refine lv_icmp_lt (tgt := 81) hx hb dX7_fit_74 (by decide) (fun c_22 => ?_) (fun c_22 => ?_)
            · replace hw := okT hw c_22
              clear c_22
              exact w81 v3 v4 v5 v7 _ _ hP hD hS _ (lv_sub hl [0, 1, 2, 3, 5] rfl) hw
            · replace hw := okF hw c_22
              clear c_22
              exact w77 v3 v4 v5 v7 _ _ hP hD hS _ (lv_sub hl [0, 1, 2, 3, 5] rfl) hw
  unfold f_X7_fit at hw
  have hP : va_P (dC, dI) vwCl (W_X7_fit cyI cyJ cyO h_o a_o_sets a_o_ringFar a_o_ringTone a_o_currents a_o_warmths a_o_depths a_o_tape a_o_readFar a_o_readTone a_o_readSea a_o_code a_o_cellAt a_o_courseAt a_o_paceAt a_o_turnsAt a_o_slowAt a_o_fuelAt a_o_ringAt a_o_pieceParts a_o_dragCell a_o_dragBy a_o_sums a_o_shares a_o_keptFar a_o_image a_o_lanes a_o_sizes a_o_items a_o_movedItems o_taped o_at o_wrong o_level o_noRings o_noTones o_noFuel o_pieces o_drags o_all o_noPieces o_noDrags o_kept o_sets o_currents o_warmths o_pieceParts) s.heap := hP
  obtain ⟨H, hH⟩ : ∃ H, H = s.heap := ⟨_, rfl⟩
  obtain ⟨locs, hlo⟩ : ∃ x : List Loc, x = [] := ⟨_, rfl⟩
  have hP : va_P (dC, dI) vwCl (W_X7_fit cyI cyJ cyO h_o a_o_sets a_o_ringFar a_o_ringTone a_o_currents a_o_warmths a_o_depths a_o_tape a_o_readFar a_o_readTone a_o_readSea a_o_code a_o_cellAt a_o_courseAt a_o_paceAt a_o_turnsAt a_o_slowAt a_o_fuelAt a_o_ringAt a_o_pieceParts a_o_dragCell a_o_dragBy a_o_sums a_o_shares a_o_keptFar a_o_image a_o_lanes a_o_sizes a_o_items a_o_movedItems o_taped o_at o_wrong o_level o_noRings o_noTones o_noFuel o_pieces o_drags o_all o_noPieces o_noDrags o_kept o_sets o_currents o_warmths o_pieceParts) H := by rw [hH]; exact hP
  have hS : va_S A s.heap H locs := by rw [hH, hlo]; exact hS
  refine kH hH hlo ?_
  clear hH hlo
  refine lv_iconst (v := 5) hx hb dX7_fit_0 (by decide) ?_
  refine lv_iload_n hx hb dX7_fit_1 rfl (lv_at hl 1 rfl) ?_
  refine lv_imul hx hb dX7_fit_2 ?_
  refine lv_topi (fun x_23 ex_23 => ?_)
  replace hw := okN ex_23 hw
  clear ex_23
  refine lv_istore_n (lv' := [(3, .int x_23), (0, .ref h_o), (1, .int x1), (2, .int x2)]) hx hb dX7_fit_3 rfl hl (by decide) rfl (fun ls hl => ?_)
  refine lv_aload_n hx hb dX7_fit_4 rfl (lv_at hl 1 rfl) ?_
  refine va_get (D := (dC, dI)) (ci := 7) (v := .ref a_o_pieceParts) (C := RX7) (T := TX7) (N := 42) hx hb hts hi7 hown hK hP 0 rfl rfl 26 (by decide) hq0 (fun _ h9 => h9) rfl dX7_fit_5 ?_
  refine lv_iload_n hx hb dX7_fit_8 rfl (lv_at hl 0 rfl) ?_
  refine lv_iconst (v := 1) hx hb dX7_fit_9 (by decide) ?_
  refine lv_iadd hx hb dX7_fit_10 ?_
  obtain ⟨h_24, hw⟩ := okC hw
  refine va_iald (i := x_23 + 1) hx hb hK hP 4 0 rfl rfl h_24 dX7_fit_11 ?_
  refine lv_topi (fun x_25 ex_25 => ?_)
  replace hw := okN ex_25 hw
  clear ex_25
  refine lv_istore (lv' := [(4, .int x_25), (3, .int x_23), (0, .ref h_o), (1, .int x1), (2, .int x2)]) hx hb dX7_fit_12 hl (by decide) rfl (fun ls hl => ?_)
  refine lv_iload_n hx hb dX7_fit_14 rfl (lv_at hl 4 rfl) ?_
  refine lv_istore (lv' := [(5, .int x2), (4, .int x_25), (3, .int x_23), (0, .ref h_o), (1, .int x1), (2, .int x2)]) hx hb dX7_fit_15 hl (by decide) rfl (fun ls hl => ?_)
  refine lv_iconst (v := 1) hx hb dX7_fit_17 (by decide) ?_
  refine lv_istore (lv' := [(6, .int 1), (5, .int x2), (4, .int x_25), (3, .int x_23), (0, .ref h_o), (1, .int x1), (2, .int x2)]) hx hb dX7_fit_18 hl (by decide) rfl (fun ls hl => ?_)
  refine lv_iconst (v := 0) hx hb dX7_fit_20 (by decide) ?_
  refine lv_istore (lv' := [(7, .int 0), (6, .int 1), (5, .int x2), (4, .int x_25), (3, .int x_23), (0, .ref h_o), (1, .int x1), (2, .int x2)]) hx hb dX7_fit_21 hl (by decide) rfl (fun ls hl => ?_)
  exact w23 FU x_23 x_25 x2 1 0 _ _ hP hD hS _ (lv_sub hl [5, 4, 3, 2, 1, 0] rfl) hw
/-! ===== X7_fits ===== -/
theorem dX7_fits_0 : decode cX7_fits 0 = .ok (.iload_n 1, 1) := by decide +kernel
theorem dX7_fits_1 : decode cX7_fits 1 = .ok (.i2l, 1) := by decide +kernel
theorem dX7_fits_2 : decode cX7_fits 2 = .ok (.lconst 0, 1) := by decide +kernel
theorem dX7_fits_3 : decode cX7_fits 3 = .ok (.aload_n 0, 1) := by decide +kernel
theorem dX7_fits_4 : decode cX7_fits 4 = .ok (.getfield 206, 3) := by decide +kernel
theorem dX7_fits_7 : decode cX7_fits 7 = .ok (.iconst 1, 1) := by decide +kernel
theorem dX7_fits_8 : decode cX7_fits 8 = .ok (.isub, 1) := by decide +kernel
theorem dX7_fits_9 : decode cX7_fits 9 = .ok (.i2l, 1) := by decide +kernel
theorem dX7_fits_10 : decode cX7_fits 10 = .ok (.invokestatic 100, 3) := by decide +kernel
theorem dX7_fits_13 : decode cX7_fits 13 = .ok (.ifCond .eq 19, 3) := by decide +kernel
theorem dX7_fits_16 : decode cX7_fits 16 = .ok (.iload_n 2, 1) := by decide +kernel
theorem dX7_fits_17 : decode cX7_fits 17 = .ok (.invokestatic 115, 3) := by decide +kernel
theorem dX7_fits_20 : decode cX7_fits 20 = .ok (.ifCond .eq 12, 3) := by decide +kernel
theorem dX7_fits_23 : decode cX7_fits 23 = .ok (.aload_n 0, 1) := by decide +kernel
theorem dX7_fits_24 : decode cX7_fits 24 = .ok (.iload_n 1, 1) := by decide +kernel
theorem dX7_fits_25 : decode cX7_fits 25 = .ok (.iload_n 2, 1) := by decide +kernel
theorem dX7_fits_26 : decode cX7_fits 26 = .ok (.invokevirtual 215, 3) := by decide +kernel
theorem dX7_fits_29 : decode cX7_fits 29 = .ok (.goto 4, 3) := by decide +kernel
theorem dX7_fits_32 : decode cX7_fits 32 = .ok (.iconst (-1), 1) := by decide +kernel
theorem dX7_fits_33 : decode cX7_fits 33 = .ok (.ireturn, 1) := by decide +kernel
abbrev W_X7_fits (cyI cyJ cyO : ClassId) (h_o a_o_sets a_o_ringFar a_o_ringTone a_o_currents a_o_warmths a_o_depths a_o_tape a_o_readFar a_o_readTone a_o_readSea a_o_code a_o_cellAt a_o_courseAt a_o_paceAt a_o_turnsAt a_o_slowAt a_o_fuelAt a_o_ringAt a_o_pieceParts a_o_dragCell a_o_dragBy a_o_sums a_o_shares a_o_keptFar a_o_image a_o_lanes a_o_sizes a_o_items a_o_movedItems : Nat) (o_taped : Int32) (o_at : Int32) (o_wrong : Int32) (o_level : Int32) (o_noRings : Int32) (o_noTones : Int32) (o_noFuel : Int32) (o_pieces : Int32) (o_drags : Int32) (o_all : Int64) (o_noPieces : Int32) (o_noDrags : Int32) (o_kept : Int32) (o_sets : Nat → Int32) (o_currents : Nat → Int32) (o_warmths : Nat → Int32) (o_pieceParts : Nat → Int32) : va_W := [(h_o, .inr (7, [.ref a_o_sets, .ref a_o_ringFar, .ref a_o_ringTone, .ref a_o_currents, .ref a_o_warmths, .ref a_o_depths, .ref a_o_tape, .int o_taped, .int o_at, .int o_wrong, .ref a_o_readFar, .ref a_o_readTone, .ref a_o_readSea, .ref a_o_code, .ref a_o_cellAt, .ref a_o_courseAt, .ref a_o_paceAt, .ref a_o_turnsAt, .ref a_o_slowAt, .ref a_o_fuelAt, .ref a_o_ringAt, .int o_level, .int o_noRings, .int o_noTones, .int o_noFuel, .int o_pieces, .ref a_o_pieceParts, .int o_drags, .ref a_o_dragCell, .ref a_o_dragBy, .ref a_o_sums, .long o_all, .int o_noPieces, .int o_noDrags, .ref a_o_shares, .ref a_o_keptFar, .ref a_o_image, .int o_kept, .ref a_o_lanes, .ref a_o_sizes, .ref a_o_items, .ref a_o_movedItems])), (a_o_sets, .inl (cyI, 8, .inl o_sets)), (a_o_currents, .inl (cyI, 200, .inl o_currents)), (a_o_warmths, .inl (cyI, 200, .inl o_warmths)), (a_o_pieceParts, .inl (cyI, 20, .inl o_pieceParts))]
def f_X7_fits (x1 : Int32) (x2 : Int32) (o_pieces : Int32) (o_sets : Nat → Int32) (o_currents : Nat → Int32) (o_warmths : Nat → Int32) (o_pieceParts : Nat → Int32) : Option (Int32) :=
  bd1 (f_X7_in x1.toInt64 0 ((o_pieces - 1).toInt64)) fun r_1 =>
  if r_1 = 0 then
    some (-1)
  else
    bd1 (f_X7_isCell x2) fun r_2 =>
    if r_2 = 0 then
      some (-1)
    else
      bd1 (f_X7_fit x1 x2 o_sets o_currents o_warmths o_pieceParts) fun r_3 =>
      some r_3
abbrev rm_X7_fits : Room := { frames := 4, cells := 0, slots := 0, locals := 104 }
set_option maxRecDepth 100000 in
set_option maxHeartbeats 4000000 in
theorem c_X7_fits (l : Launch) (dC : Nat → ClassId) (dI : Nat → Nat → Nat) (cyI cyJ cyO : ClassId) (sz : Nat) (h_o a_o_sets a_o_ringFar a_o_ringTone a_o_currents a_o_warmths a_o_depths a_o_tape a_o_readFar a_o_readTone a_o_readSea a_o_code a_o_cellAt a_o_courseAt a_o_paceAt a_o_turnsAt a_o_slowAt a_o_fuelAt a_o_ringAt a_o_pieceParts a_o_dragCell a_o_dragBy a_o_sums a_o_shares a_o_keptFar a_o_image a_o_lanes a_o_sizes a_o_items a_o_movedItems : Nat) (o_taped : Int32) (o_at : Int32) (o_wrong : Int32) (o_level : Int32) (o_noRings : Int32) (o_noTones : Int32) (o_noFuel : Int32) (o_pieces : Int32) (o_drags : Int32) (o_all : Int64) (o_noPieces : Int32) (o_noDrags : Int32) (o_kept : Int32) (o_sets : Nat → Int32) (o_currents : Nat → Int32) (o_warmths : Nat → Int32) (o_pieceParts : Nat → Int32) (x1 : Int32) (x2 : Int32) (post : Int32 → Prop) (hf : okP (f_X7_fits x1 x2 o_pieces o_sets o_currents o_warmths o_pieceParts) post) : Ci l (dC, dI) (tyL cyI cyJ cyO) yX7_fits wsX7_fits rm_X7_fits [.ref h_o, .int x1, .int x2] sz (W_X7_fits cyI cyJ cyO h_o a_o_sets a_o_ringFar a_o_ringTone a_o_currents a_o_warmths a_o_depths a_o_tape a_o_readFar a_o_readTone a_o_readSea a_o_code a_o_cellAt a_o_courseAt a_o_paceAt a_o_turnsAt a_o_slowAt a_o_fuelAt a_o_ringAt a_o_pieceParts a_o_dragCell a_o_dragBy a_o_sums a_o_shares a_o_keptFar a_o_image a_o_lanes a_o_sizes a_o_items a_o_movedItems o_taped o_at o_wrong o_level o_noRings o_noTones o_noFuel o_pieces o_drags o_all o_noPieces o_noDrags o_kept o_sets o_currents o_warmths o_pieceParts) zN (fun r (_ : Unit) => post r) (fun _ => (W_X7_fits cyI cyJ cyO h_o a_o_sets a_o_ringFar a_o_ringTone a_o_currents a_o_warmths a_o_depths a_o_tape a_o_readFar a_o_readTone a_o_readSea a_o_code a_o_cellAt a_o_courseAt a_o_paceAt a_o_turnsAt a_o_slowAt a_o_fuelAt a_o_ringAt a_o_pieceParts a_o_dragCell a_o_dragBy a_o_sums a_o_shares a_o_keptFar a_o_image a_o_lanes a_o_sizes a_o_items a_o_movedItems o_taped o_at o_wrong o_level o_noRings o_noTones o_noFuel o_pieces o_drags o_all o_noPieces o_noDrags o_kept o_sets o_currents o_warmths o_pieceParts)) := by
  refine Met.ofW (cc := cX7_fits) (maxL := 3) (ret := (some .int)) (by decide) rfl ?_
  intro p e s m args below meth c s₁ B hml hv
  obtain ⟨rfl, hsz, hP, hK, hD0, hZ⟩ := hv
  have hx := B.exec
  have hb := B.bytes
  have hr := B.returns
  have hts := atoms_spec (ws := wsX7_fits) B.pre
  have hown : s.vm.findClass RX7 = some m.cls := findClass_of_methodNamed B.named
  have hlocks := B.notSynchronized
  subst hsz
  have hD := hD0.self (sz := s.heap.size)
  generalize hAe : va_A (W_X7_fits cyI cyJ cyO h_o a_o_sets a_o_ringFar a_o_ringTone a_o_currents a_o_warmths a_o_depths a_o_tape a_o_readFar a_o_readTone a_o_readSea a_o_code a_o_cellAt a_o_courseAt a_o_paceAt a_o_turnsAt a_o_slowAt a_o_fuelAt a_o_ringAt a_o_pieceParts a_o_dragCell a_o_dragBy a_o_sums a_o_shares a_o_keptFar a_o_image a_o_lanes a_o_sizes a_o_items a_o_movedItems o_taped o_at o_wrong o_level o_noRings o_noTones o_noFuel o_pieces o_drags o_all o_noPieces o_noDrags o_kept o_sets o_currents o_warmths o_pieceParts) s.heap.size = A at hD hZ ⊢
  have hA : ∀ q : Nat, s.heap.size ≤ q → A q := fun q h => by rw [← hAe]; exact Or.inr h
  clear hAe hD0
  have hS : va_S A s.heap s.heap [] := va_S.rf
  have hl := lv_entry ([.ref h_o, .int x1, .int x2]) (n := 3) (Nat.le_of_ble_eq_true rfl)
  rw [lg_entry_eq]
  generalize (lg_sl ([.ref h_o, .int x1, .int x2]) ++ List.replicate (3 - (lg_sl ([.ref h_o, .int x1, .int x2])).length) Slot.unset).toArray = ls at hl ⊢
  have hl : lv_has ls 3 [(0, .ref h_o), (1, .int x1), (2, .int x2)] := hl
  refine kW (fun Q hQ => ?_)
  have hq0 := hts _ (List.mem_cons_of_mem _ q_731)
  have hi7 : ∀ w ∈ u_ws RX7 TX7 42, w ∈ wsX7_fits := fun w h => List.mem_cons_of_mem _ (inX7 w h)
  have hw := hf
  unfold f_X7_fits at hw
  have hP : va_P (dC, dI) vwCl (W_X7_fits cyI cyJ cyO h_o a_o_sets a_o_ringFar a_o_ringTone a_o_currents a_o_warmths a_o_depths a_o_tape a_o_readFar a_o_readTone a_o_readSea a_o_code a_o_cellAt a_o_courseAt a_o_paceAt a_o_turnsAt a_o_slowAt a_o_fuelAt a_o_ringAt a_o_pieceParts a_o_dragCell a_o_dragBy a_o_sums a_o_shares a_o_keptFar a_o_image a_o_lanes a_o_sizes a_o_items a_o_movedItems o_taped o_at o_wrong o_level o_noRings o_noTones o_noFuel o_pieces o_drags o_all o_noPieces o_noDrags o_kept o_sets o_currents o_warmths o_pieceParts) s.heap := hP
  obtain ⟨H, hH⟩ : ∃ H, H = s.heap := ⟨_, rfl⟩
  obtain ⟨locs, hlo⟩ : ∃ x : List Loc, x = [] := ⟨_, rfl⟩
  have hP : va_P (dC, dI) vwCl (W_X7_fits cyI cyJ cyO h_o a_o_sets a_o_ringFar a_o_ringTone a_o_currents a_o_warmths a_o_depths a_o_tape a_o_readFar a_o_readTone a_o_readSea a_o_code a_o_cellAt a_o_courseAt a_o_paceAt a_o_turnsAt a_o_slowAt a_o_fuelAt a_o_ringAt a_o_pieceParts a_o_dragCell a_o_dragBy a_o_sums a_o_shares a_o_keptFar a_o_image a_o_lanes a_o_sizes a_o_items a_o_movedItems o_taped o_at o_wrong o_level o_noRings o_noTones o_noFuel o_pieces o_drags o_all o_noPieces o_noDrags o_kept o_sets o_currents o_warmths o_pieceParts) H := by rw [hH]; exact hP
  have hS : va_S A s.heap H locs := by rw [hH, hlo]; exact hS
  refine kH hH hlo ?_
  clear hH hlo
  refine lv_iload_n hx hb dX7_fits_0 rfl (lv_at hl 1 rfl) ?_
  refine lv_i2l (v := x1.toInt64) hx hb dX7_fits_1 rfl ?_
  refine lv_lconst (v := 0) hx hb dX7_fits_2 (by decide) ?_
  refine lv_aload_n hx hb dX7_fits_3 rfl (lv_at hl 0 rfl) ?_
  refine va_get (D := (dC, dI)) (ci := 7) (v := .int o_pieces) (C := RX7) (T := TX7) (N := 42) hx hb hts hi7 hown hK hP 0 rfl rfl 25 (by decide) hq0 (fun _ h9 => h9) rfl dX7_fits_4 ?_
  refine lv_iconst (v := 1) hx hb dX7_fits_7 (by decide) ?_
  refine lv_isub hx hb dX7_fits_8 ?_
  refine lv_i2l (v := (o_pieces - 1).toInt64) hx hb dX7_fits_9 rfl ?_
  have hFc := va_free (wc := []) hD hS hA [] rfl
  refine kp_i (va_runS (As := [.long x1.toInt64, .long 0, .long ((o_pieces - 1).toInt64)]) (rest := []) ⟨hx, hb, hml, hown, hts⟩ (c_X7_in l dC dI cyI cyJ cyO H.size x1.toInt64 0 ((o_pieces - 1).toInt64) _ (okb1 hw)) (va_cwS 3 hts (gdS (fun w h => List.mem_cons_of_mem _ h) q_838 q_839 q_8 q_840) rfl rfl rfl (by decide +kernel) ⟨Nat.le_of_ble_eq_true rfl, Nat.le_of_ble_eq_true rfl⟩) (kpre zN_ok hK va_P0 va_D0 trivial hS hFc) rfl rfl hl.1 rfl (lv_room (Nat.le_of_ble_eq_true rfl)) dX7_fits_10 ⟨Nat.le_of_ble_eq_true rfl, Nat.le_of_ble_eq_true rfl⟩) hP hD hS hFc (fun r_1 H locs hw hP hS => ?_)
  try dsimp only at hw
  clear hFc
  refine lv_if_eq (tgt := 32) hx hb dX7_fits_13 (by decide) (fun c_2 => ?_) (fun c_2 => ?_)
  · replace hw := okT hw c_2
    clear c_2
    refine lv_iconst (v := (-1)) hx hb dX7_fits_32 (by decide) ?_
    rw [hQ]
    exact W.iret (v := (-1)) hx hb hr (fun t ht hW => ⟨⟨(-1), (), rfl, okS hw, by rw [ht]; exact hP, va_K.moved hW.alike hK, hD⟩, hS.F ht⟩) hS.2.2 dX7_fits_33
  · replace hw := okF hw c_2
    clear c_2
    refine lv_iload_n hx hb dX7_fits_16 rfl (lv_at hl 2 rfl) ?_
    have hFc := va_free (wc := []) hD hS hA [] rfl
    refine kp_i (va_runS (As := [.int x2]) (rest := []) ⟨hx, hb, hml, hown, hts⟩ (c_X7_isCell l dC dI cyI cyJ cyO H.size x2 _ (okb1 hw)) (va_cwS 1 hts (gdS (fun w h => List.mem_cons_of_mem _ h) q_845 q_846 q_8 q_847) rfl rfl rfl (by decide +kernel) ⟨Nat.le_of_ble_eq_true rfl, Nat.le_of_ble_eq_true rfl⟩) (kpre zN_ok hK va_P0 va_D0 trivial hS hFc) rfl rfl hl.1 rfl (lv_room (Nat.le_of_ble_eq_true rfl)) dX7_fits_17 ⟨Nat.le_of_ble_eq_true rfl, Nat.le_of_ble_eq_true rfl⟩) hP hD hS hFc (fun r_3 H locs hw hP hS => ?_)
    try dsimp only at hw
    clear hFc
    refine lv_if_eq (tgt := 32) hx hb dX7_fits_20 (by decide) (fun c_4 => ?_) (fun c_4 => ?_)
    · replace hw := okT hw c_4
      clear c_4
      refine lv_iconst (v := (-1)) hx hb dX7_fits_32 (by decide) ?_
      rw [hQ]
      exact W.iret (v := (-1)) hx hb hr (fun t ht hW => ⟨⟨(-1), (), rfl, okS hw, by rw [ht]; exact hP, va_K.moved hW.alike hK, hD⟩, hS.F ht⟩) hS.2.2 dX7_fits_33
    · replace hw := okF hw c_4
      clear c_4
      refine lv_aload_n hx hb dX7_fits_23 rfl (lv_at hl 0 rfl) ?_
      refine lv_iload_n hx hb dX7_fits_24 rfl (lv_at hl 1 rfl) ?_
      refine lv_iload_n hx hb dX7_fits_25 rfl (lv_at hl 2 rfl) ?_
      have hPc := hP.sub (ws' := (W_X7_fit cyI cyJ cyO h_o a_o_sets a_o_ringFar a_o_ringTone a_o_currents a_o_warmths a_o_depths a_o_tape a_o_readFar a_o_readTone a_o_readSea a_o_code a_o_cellAt a_o_courseAt a_o_paceAt a_o_turnsAt a_o_slowAt a_o_fuelAt a_o_ringAt a_o_pieceParts a_o_dragCell a_o_dragBy a_o_sums a_o_shares a_o_keptFar a_o_image a_o_lanes a_o_sizes a_o_items a_o_movedItems o_taped o_at o_wrong o_level o_noRings o_noTones o_noFuel o_pieces o_drags o_all o_noPieces o_noDrags o_kept o_sets o_currents o_warmths o_pieceParts)) [0, 1, 2, 3, 4] rfl
      have hDc := hD.sub (ws' := (W_X7_fit cyI cyJ cyO h_o a_o_sets a_o_ringFar a_o_ringTone a_o_currents a_o_warmths a_o_depths a_o_tape a_o_readFar a_o_readTone a_o_readSea a_o_code a_o_cellAt a_o_courseAt a_o_paceAt a_o_turnsAt a_o_slowAt a_o_fuelAt a_o_ringAt a_o_pieceParts a_o_dragCell a_o_dragBy a_o_sums a_o_shares a_o_keptFar a_o_image a_o_lanes a_o_sizes a_o_items a_o_movedItems o_taped o_at o_wrong o_level o_noRings o_noTones o_noFuel o_pieces o_drags o_all o_noPieces o_noDrags o_kept o_sets o_currents o_warmths o_pieceParts)) [0, 1, 2, 3, 4] (by decide +kernel) rfl
      have hFc := va_free (wc := (W_X7_fit cyI cyJ cyO h_o a_o_sets a_o_ringFar a_o_ringTone a_o_currents a_o_warmths a_o_depths a_o_tape a_o_readFar a_o_readTone a_o_readSea a_o_code a_o_cellAt a_o_courseAt a_o_paceAt a_o_turnsAt a_o_slowAt a_o_fuelAt a_o_ringAt a_o_pieceParts a_o_dragCell a_o_dragBy a_o_sums a_o_shares a_o_keptFar a_o_image a_o_lanes a_o_sizes a_o_items a_o_movedItems o_taped o_at o_wrong o_level o_noRings o_noTones o_noFuel o_pieces o_drags o_all o_noPieces o_noDrags o_kept o_sets o_currents o_warmths o_pieceParts)) hD hS hA [0, 1, 2, 3, 4] rfl
      refine kc_i (wr := []) (va_runV (As := [.int x1, .int x2]) (rest := []) ⟨hx, hb, hml, hown, hts⟩ (c_X7_fit l dC dI cyI cyJ cyO H.size h_o a_o_sets a_o_ringFar a_o_ringTone a_o_currents a_o_warmths a_o_depths a_o_tape a_o_readFar a_o_readTone a_o_readSea a_o_code a_o_cellAt a_o_courseAt a_o_paceAt a_o_turnsAt a_o_slowAt a_o_fuelAt a_o_ringAt a_o_pieceParts a_o_dragCell a_o_dragBy a_o_sums a_o_shares a_o_keptFar a_o_image a_o_lanes a_o_sizes a_o_items a_o_movedItems o_taped o_at o_wrong o_level o_noRings o_noTones o_noFuel o_pieces o_drags o_all o_noPieces o_noDrags o_kept o_sets o_currents o_warmths o_pieceParts x1 x2 _ (okb1 hw)) (cwV 2 hts (gdV (fun w h => List.mem_cons_of_mem _ h) q_975 q_977 qs_37 q_8 q_978) rfl rfl rfl (by decide +kernel) ⟨Nat.le_of_ble_eq_true rfl, Nat.le_of_ble_eq_true rfl⟩) ⟨(kpre zN_ok hK hPc hDc trivial hS hFc).1, va_recv hK hP (ci := 7) (q0 := 0) rfl rfl, (kpre zN_ok hK hPc hDc trivial hS hFc).2⟩ rfl rfl hl.1 rfl (lv_room (Nat.le_of_ble_eq_true rfl)) dX7_fits_26 ⟨Nat.le_of_ble_eq_true rfl, Nat.le_of_ble_eq_true rfl⟩) hP hD hS hFc [0, 1, 2, 3, 4] [] rfl rfl (by decide +kernel) (by decide +kernel) (fun r_5 u H locs hw hP hD hS => ?_)
      try dsimp only at hw
      have hP : va_P (dC, dI) vwCl (W_X7_fits cyI cyJ cyO h_o a_o_sets a_o_ringFar a_o_ringTone a_o_currents a_o_warmths a_o_depths a_o_tape a_o_readFar a_o_readTone a_o_readSea a_o_code a_o_cellAt a_o_courseAt a_o_paceAt a_o_turnsAt a_o_slowAt a_o_fuelAt a_o_ringAt a_o_pieceParts a_o_dragCell a_o_dragBy a_o_sums a_o_shares a_o_keptFar a_o_image a_o_lanes a_o_sizes a_o_items a_o_movedItems o_taped o_at o_wrong o_level o_noRings o_noTones o_noFuel o_pieces o_drags o_all o_noPieces o_noDrags o_kept o_sets o_currents o_warmths o_pieceParts) H := hP.sub [0, 1, 2, 3, 4] rfl
      have hD : va_D A (W_X7_fits cyI cyJ cyO h_o a_o_sets a_o_ringFar a_o_ringTone a_o_currents a_o_warmths a_o_depths a_o_tape a_o_readFar a_o_readTone a_o_readSea a_o_code a_o_cellAt a_o_courseAt a_o_paceAt a_o_turnsAt a_o_slowAt a_o_fuelAt a_o_ringAt a_o_pieceParts a_o_dragCell a_o_dragBy a_o_sums a_o_shares a_o_keptFar a_o_image a_o_lanes a_o_sizes a_o_items a_o_movedItems o_taped o_at o_wrong o_level o_noRings o_noTones o_noFuel o_pieces o_drags o_all o_noPieces o_noDrags o_kept o_sets o_currents o_warmths o_pieceParts) := hD.sub [0, 1, 2, 3, 4] (by decide +kernel) rfl
      clear hPc hDc hFc
      refine lv_goto (tgt := 33) hx hb dX7_fits_29 (by decide) ?_
      rw [hQ]
      exact W.iret (v := r_5) hx hb hr (fun t ht hW => ⟨⟨r_5, (), rfl, okS hw, by rw [ht]; exact hP, va_K.moved hW.alike hK, hD⟩, hS.F ht⟩) hS.2.2 dX7_fits_33
/-! ===== X7_drag ===== -/
theorem dX7_drag_0 : decode cX7_drag 0 = .ok (.iload_n 1, 1) := by decide +kernel
theorem dX7_drag_1 : decode cX7_drag 1 = .ok (.invokestatic 115, 3) := by decide +kernel
theorem dX7_drag_4 : decode cX7_drag 4 = .ok (.ifCond .eq 15, 3) := by decide +kernel
theorem dX7_drag_7 : decode cX7_drag 7 = .ok (.iload_n 2, 1) := by decide +kernel
theorem dX7_drag_8 : decode cX7_drag 8 = .ok (.i2l, 1) := by decide +kernel
theorem dX7_drag_9 : decode cX7_drag 9 = .ok (.lconst 1, 1) := by decide +kernel
theorem dX7_drag_10 : decode cX7_drag 10 = .ok (.ldc2_w 113, 3) := by decide +kernel
theorem dX7_drag_13 : decode cX7_drag 13 = .ok (.invokestatic 100, 3) := by decide +kernel
theorem dX7_drag_16 : decode cX7_drag 16 = .ok (.ifCond .ne 5, 3) := by decide +kernel
theorem dX7_drag_19 : decode cX7_drag 19 = .ok (.iconst (-1), 1) := by decide +kernel
theorem dX7_drag_20 : decode cX7_drag 20 = .ok (.ireturn, 1) := by decide +kernel
theorem dX7_drag_21 : decode cX7_drag 21 = .ok (.aload_n 0, 1) := by decide +kernel
theorem dX7_drag_22 : decode cX7_drag 22 = .ok (.getfield 218, 3) := by decide +kernel
theorem dX7_drag_25 : decode cX7_drag 25 = .ok (.iconst 4, 1) := by decide +kernel
theorem dX7_drag_26 : decode cX7_drag 26 = .ok (.if_icmp .ne 6, 3) := by decide +kernel
theorem dX7_drag_29 : decode cX7_drag 29 = .ok (.bipush (-3), 2) := by decide +kernel
theorem dX7_drag_31 : decode cX7_drag 31 = .ok (.ireturn, 1) := by decide +kernel
theorem dX7_drag_32 : decode cX7_drag 32 = .ok (.aload_n 0, 1) := by decide +kernel
theorem dX7_drag_33 : decode cX7_drag 33 = .ok (.getfield 67, 3) := by decide +kernel
theorem dX7_drag_36 : decode cX7_drag 36 = .ok (.aload_n 0, 1) := by decide +kernel
theorem dX7_drag_37 : decode cX7_drag 37 = .ok (.getfield 218, 3) := by decide +kernel
theorem dX7_drag_40 : decode cX7_drag 40 = .ok (.iload_n 1, 1) := by decide +kernel
theorem dX7_drag_41 : decode cX7_drag 41 = .ok (.iastore, 1) := by decide +kernel
theorem dX7_drag_42 : decode cX7_drag 42 = .ok (.aload_n 0, 1) := by decide +kernel
theorem dX7_drag_43 : decode cX7_drag 43 = .ok (.getfield 70, 3) := by decide +kernel
theorem dX7_drag_46 : decode cX7_drag 46 = .ok (.aload_n 0, 1) := by decide +kernel
theorem dX7_drag_47 : decode cX7_drag 47 = .ok (.getfield 218, 3) := by decide +kernel
theorem dX7_drag_50 : decode cX7_drag 50 = .ok (.iload_n 2, 1) := by decide +kernel
theorem dX7_drag_51 : decode cX7_drag 51 = .ok (.iastore, 1) := by decide +kernel
theorem dX7_drag_52 : decode cX7_drag 52 = .ok (.aload_n 0, 1) := by decide +kernel
theorem dX7_drag_53 : decode cX7_drag 53 = .ok (.dup, 1) := by decide +kernel
theorem dX7_drag_54 : decode cX7_drag 54 = .ok (.getfield 218, 3) := by decide +kernel
theorem dX7_drag_57 : decode cX7_drag 57 = .ok (.iconst 1, 1) := by decide +kernel
theorem dX7_drag_58 : decode cX7_drag 58 = .ok (.iadd, 1) := by decide +kernel
theorem dX7_drag_59 : decode cX7_drag 59 = .ok (.putfield 218, 3) := by decide +kernel
theorem dX7_drag_62 : decode cX7_drag 62 = .ok (.aload_n 0, 1) := by decide +kernel
theorem dX7_drag_63 : decode cX7_drag 63 = .ok (.getfield 218, 3) := by decide +kernel
theorem dX7_drag_66 : decode cX7_drag 66 = .ok (.iconst 1, 1) := by decide +kernel
theorem dX7_drag_67 : decode cX7_drag 67 = .ok (.isub, 1) := by decide +kernel
theorem dX7_drag_68 : decode cX7_drag 68 = .ok (.ireturn, 1) := by decide +kernel
abbrev W_X7_drag (cyI cyJ cyO : ClassId) (h_o a_o_sets a_o_ringFar a_o_ringTone a_o_currents a_o_warmths a_o_depths a_o_tape a_o_readFar a_o_readTone a_o_readSea a_o_code a_o_cellAt a_o_courseAt a_o_paceAt a_o_turnsAt a_o_slowAt a_o_fuelAt a_o_ringAt a_o_pieceParts a_o_dragCell a_o_dragBy a_o_sums a_o_shares a_o_keptFar a_o_image a_o_lanes a_o_sizes a_o_items a_o_movedItems : Nat) (o_taped : Int32) (o_at : Int32) (o_wrong : Int32) (o_level : Int32) (o_noRings : Int32) (o_noTones : Int32) (o_noFuel : Int32) (o_pieces : Int32) (o_drags : Int32) (o_all : Int64) (o_noPieces : Int32) (o_noDrags : Int32) (o_kept : Int32) (o_dragCell : Nat → Int32) (o_dragBy : Nat → Int32) : va_W := [(h_o, .inr (7, [.ref a_o_sets, .ref a_o_ringFar, .ref a_o_ringTone, .ref a_o_currents, .ref a_o_warmths, .ref a_o_depths, .ref a_o_tape, .int o_taped, .int o_at, .int o_wrong, .ref a_o_readFar, .ref a_o_readTone, .ref a_o_readSea, .ref a_o_code, .ref a_o_cellAt, .ref a_o_courseAt, .ref a_o_paceAt, .ref a_o_turnsAt, .ref a_o_slowAt, .ref a_o_fuelAt, .ref a_o_ringAt, .int o_level, .int o_noRings, .int o_noTones, .int o_noFuel, .int o_pieces, .ref a_o_pieceParts, .int o_drags, .ref a_o_dragCell, .ref a_o_dragBy, .ref a_o_sums, .long o_all, .int o_noPieces, .int o_noDrags, .ref a_o_shares, .ref a_o_keptFar, .ref a_o_image, .int o_kept, .ref a_o_lanes, .ref a_o_sizes, .ref a_o_items, .ref a_o_movedItems])), (a_o_dragCell, .inl (cyI, 6, .inl o_dragCell)), (a_o_dragBy, .inl (cyI, 6, .inl o_dragBy))]
def f_X7_drag (x1 : Int32) (x2 : Int32) (o_drags : Int32) (o_dragCell : Nat → Int32) (o_dragBy : Nat → Int32) : Option (Int32 × Int32 × (Nat → Int32) × (Nat → Int32)) :=
  bd1 (f_X7_isCell x1) fun r_1 =>
  if r_1 = 0 then
    some ((-1), o_drags, o_dragCell, o_dragBy)
  else
    bd1 (f_X7_in x2.toInt64 1 7) fun r_2 =>
    if r_2 = 0 then
      some ((-1), o_drags, o_dragCell, o_dragBy)
    else
      if o_drags = 4 then
        some ((-3), o_drags, o_dragCell, o_dragBy)
      else
        chk (¬ (o_drags < 0 ∨ 6 ≤ o_drags.toNatClampNeg)) <|
        chk (¬ (o_drags < 0 ∨ 6 ≤ o_drags.toNatClampNeg)) <|
        nm (o_drags + 1) fun x_3 =>
        some (x_3 - 1, x_3, upd o_dragCell o_drags.toNatClampNeg x1, upd o_dragBy o_drags.toNatClampNeg x2)
abbrev rm_X7_drag : Room := { frames := 2, cells := 0, slots := 0, locals := 45 }
set_option maxRecDepth 100000 in
set_option maxHeartbeats 4000000 in
theorem c_X7_drag (l : Launch) (dC : Nat → ClassId) (dI : Nat → Nat → Nat) (cyI cyJ cyO : ClassId) (sz : Nat) (h_o a_o_sets a_o_ringFar a_o_ringTone a_o_currents a_o_warmths a_o_depths a_o_tape a_o_readFar a_o_readTone a_o_readSea a_o_code a_o_cellAt a_o_courseAt a_o_paceAt a_o_turnsAt a_o_slowAt a_o_fuelAt a_o_ringAt a_o_pieceParts a_o_dragCell a_o_dragBy a_o_sums a_o_shares a_o_keptFar a_o_image a_o_lanes a_o_sizes a_o_items a_o_movedItems : Nat) (o_taped : Int32) (o_at : Int32) (o_wrong : Int32) (o_level : Int32) (o_noRings : Int32) (o_noTones : Int32) (o_noFuel : Int32) (o_pieces : Int32) (o_drags : Int32) (o_all : Int64) (o_noPieces : Int32) (o_noDrags : Int32) (o_kept : Int32) (o_dragCell : Nat → Int32) (o_dragBy : Nat → Int32) (x1 : Int32) (x2 : Int32) (post : (Int32 × Int32 × (Nat → Int32) × (Nat → Int32)) → Prop) (hf : okP (f_X7_drag x1 x2 o_drags o_dragCell o_dragBy) post) : Ci l (dC, dI) (tyL cyI cyJ cyO) yX7_drag wsX7_drag rm_X7_drag [.ref h_o, .int x1, .int x2] sz (W_X7_drag cyI cyJ cyO h_o a_o_sets a_o_ringFar a_o_ringTone a_o_currents a_o_warmths a_o_depths a_o_tape a_o_readFar a_o_readTone a_o_readSea a_o_code a_o_cellAt a_o_courseAt a_o_paceAt a_o_turnsAt a_o_slowAt a_o_fuelAt a_o_ringAt a_o_pieceParts a_o_dragCell a_o_dragBy a_o_sums a_o_shares a_o_keptFar a_o_image a_o_lanes a_o_sizes a_o_items a_o_movedItems o_taped o_at o_wrong o_level o_noRings o_noTones o_noFuel o_pieces o_drags o_all o_noPieces o_noDrags o_kept o_dragCell o_dragBy) zN (fun r u => post (r, u)) (fun u => (W_X7_drag cyI cyJ cyO h_o a_o_sets a_o_ringFar a_o_ringTone a_o_currents a_o_warmths a_o_depths a_o_tape a_o_readFar a_o_readTone a_o_readSea a_o_code a_o_cellAt a_o_courseAt a_o_paceAt a_o_turnsAt a_o_slowAt a_o_fuelAt a_o_ringAt a_o_pieceParts a_o_dragCell a_o_dragBy a_o_sums a_o_shares a_o_keptFar a_o_image a_o_lanes a_o_sizes a_o_items a_o_movedItems o_taped o_at o_wrong o_level o_noRings o_noTones o_noFuel o_pieces u.1 o_all o_noPieces o_noDrags o_kept u.2.1 u.2.2)) := by
  refine Met.ofW (cc := cX7_drag) (maxL := 3) (ret := (some .int)) (by decide) rfl ?_
  intro p e s m args below meth c s₁ B hml hv
  obtain ⟨rfl, hsz, hP, hK, hD0, hZ⟩ := hv
  have hx := B.exec
  have hb := B.bytes
  have hr := B.returns
  have hts := atoms_spec (ws := wsX7_drag) B.pre
  have hown : s.vm.findClass RX7 = some m.cls := findClass_of_methodNamed B.named
  have hlocks := B.notSynchronized
  subst hsz
  have hD := hD0.self (sz := s.heap.size)
  generalize hAe : va_A (W_X7_drag cyI cyJ cyO h_o a_o_sets a_o_ringFar a_o_ringTone a_o_currents a_o_warmths a_o_depths a_o_tape a_o_readFar a_o_readTone a_o_readSea a_o_code a_o_cellAt a_o_courseAt a_o_paceAt a_o_turnsAt a_o_slowAt a_o_fuelAt a_o_ringAt a_o_pieceParts a_o_dragCell a_o_dragBy a_o_sums a_o_shares a_o_keptFar a_o_image a_o_lanes a_o_sizes a_o_items a_o_movedItems o_taped o_at o_wrong o_level o_noRings o_noTones o_noFuel o_pieces o_drags o_all o_noPieces o_noDrags o_kept o_dragCell o_dragBy) s.heap.size = A at hD hZ ⊢
  have hA : ∀ q : Nat, s.heap.size ≤ q → A q := fun q h => by rw [← hAe]; exact Or.inr h
  clear hAe hD0
  have hS : va_S A s.heap s.heap [] := va_S.rf
  have hl := lv_entry ([.ref h_o, .int x1, .int x2]) (n := 3) (Nat.le_of_ble_eq_true rfl)
  rw [lg_entry_eq]
  generalize (lg_sl ([.ref h_o, .int x1, .int x2]) ++ List.replicate (3 - (lg_sl ([.ref h_o, .int x1, .int x2])).length) Slot.unset).toArray = ls at hl ⊢
  have hl : lv_has ls 3 [(0, .ref h_o), (1, .int x1), (2, .int x2)] := hl
  refine kW (fun Q hQ => ?_)
  have hq0 := hts _ (List.mem_cons_of_mem _ q_837)
  have hq1 := hts _ (List.mem_cons_of_mem _ q_733)
  have hi7 : ∀ w ∈ u_ws RX7 TX7 42, w ∈ wsX7_drag := fun w h => List.mem_cons_of_mem _ (inX7 w h)
  have hq3 := hts _ (List.mem_cons_of_mem _ q_734)
  have hq4 := hts _ (List.mem_cons_of_mem _ q_735)
  have hw := hf
  unfold f_X7_drag at hw
  have hP : va_P (dC, dI) vwCl (W_X7_drag cyI cyJ cyO h_o a_o_sets a_o_ringFar a_o_ringTone a_o_currents a_o_warmths a_o_depths a_o_tape a_o_readFar a_o_readTone a_o_readSea a_o_code a_o_cellAt a_o_courseAt a_o_paceAt a_o_turnsAt a_o_slowAt a_o_fuelAt a_o_ringAt a_o_pieceParts a_o_dragCell a_o_dragBy a_o_sums a_o_shares a_o_keptFar a_o_image a_o_lanes a_o_sizes a_o_items a_o_movedItems o_taped o_at o_wrong o_level o_noRings o_noTones o_noFuel o_pieces o_drags o_all o_noPieces o_noDrags o_kept o_dragCell o_dragBy) s.heap := hP
  obtain ⟨H, hH⟩ : ∃ H, H = s.heap := ⟨_, rfl⟩
  obtain ⟨locs, hlo⟩ : ∃ x : List Loc, x = [] := ⟨_, rfl⟩
  have hP : va_P (dC, dI) vwCl (W_X7_drag cyI cyJ cyO h_o a_o_sets a_o_ringFar a_o_ringTone a_o_currents a_o_warmths a_o_depths a_o_tape a_o_readFar a_o_readTone a_o_readSea a_o_code a_o_cellAt a_o_courseAt a_o_paceAt a_o_turnsAt a_o_slowAt a_o_fuelAt a_o_ringAt a_o_pieceParts a_o_dragCell a_o_dragBy a_o_sums a_o_shares a_o_keptFar a_o_image a_o_lanes a_o_sizes a_o_items a_o_movedItems o_taped o_at o_wrong o_level o_noRings o_noTones o_noFuel o_pieces o_drags o_all o_noPieces o_noDrags o_kept o_dragCell o_dragBy) H := by rw [hH]; exact hP
  have hS : va_S A s.heap H locs := by rw [hH, hlo]; exact hS
  refine kH hH hlo ?_
  clear hH hlo
  refine lv_iload_n hx hb dX7_drag_0 rfl (lv_at hl 1 rfl) ?_
  have hFc := va_free (wc := []) hD hS hA [] rfl
  refine kp_i (va_runS (As := [.int x1]) (rest := []) ⟨hx, hb, hml, hown, hts⟩ (c_X7_isCell l dC dI cyI cyJ cyO H.size x1 _ (okb1 hw)) (va_cwS 1 hts (gdS (fun w h => List.mem_cons_of_mem _ h) q_845 q_846 q_8 q_847) rfl rfl rfl (by decide +kernel) ⟨Nat.le_of_ble_eq_true rfl, Nat.le_of_ble_eq_true rfl⟩) (kpre zN_ok hK va_P0 va_D0 trivial hS hFc) rfl rfl hl.1 rfl (lv_room (Nat.le_of_ble_eq_true rfl)) dX7_drag_1 ⟨Nat.le_of_ble_eq_true rfl, Nat.le_of_ble_eq_true rfl⟩) hP hD hS hFc (fun r_1 H locs hw hP hS => ?_)
  try dsimp only at hw
  clear hFc
  refine lv_if_eq (tgt := 19) hx hb dX7_drag_4 (by decide) (fun c_2 => ?_) (fun c_2 => ?_)
  · replace hw := okT hw c_2
    clear c_2
    refine lv_iconst (v := (-1)) hx hb dX7_drag_19 (by decide) ?_
    rw [hQ]
    exact W.iret (v := (-1)) hx hb hr (fun t ht hW => ⟨⟨(-1), (o_drags, o_dragCell, o_dragBy), rfl, okS hw, by rw [ht]; exact hP, va_K.moved hW.alike hK, hD⟩, hS.F ht⟩) hS.2.2 dX7_drag_20
  · replace hw := okF hw c_2
    clear c_2
    refine lv_iload_n hx hb dX7_drag_7 rfl (lv_at hl 2 rfl) ?_
    refine lv_i2l (v := x2.toInt64) hx hb dX7_drag_8 rfl ?_
    refine lv_lconst (v := 1) hx hb dX7_drag_9 (by decide) ?_
    refine lv_ldc2 (v := 7) hx hb hown hq0 dX7_drag_10 ?_
    have hFc := va_free (wc := []) hD hS hA [] rfl
    refine kp_i (va_runS (As := [.long x2.toInt64, .long 1, .long 7]) (rest := []) ⟨hx, hb, hml, hown, hts⟩ (c_X7_in l dC dI cyI cyJ cyO H.size x2.toInt64 1 7 _ (okb1 hw)) (va_cwS 3 hts (gdS (fun w h => List.mem_cons_of_mem _ h) q_838 q_839 q_8 q_840) rfl rfl rfl (by decide +kernel) ⟨Nat.le_of_ble_eq_true rfl, Nat.le_of_ble_eq_true rfl⟩) (kpre zN_ok hK va_P0 va_D0 trivial hS hFc) rfl rfl hl.1 rfl (lv_room (Nat.le_of_ble_eq_true rfl)) dX7_drag_13 ⟨Nat.le_of_ble_eq_true rfl, Nat.le_of_ble_eq_true rfl⟩) hP hD hS hFc (fun r_3 H locs hw hP hS => ?_)
    try dsimp only at hw
    clear hFc
    refine lv_if_ne (tgt := 21) hx hb dX7_drag_16 (by decide) (fun c_4 => ?_) (fun c_4 => ?_)
    · replace hw := okF hw c_4
      clear c_4
      refine lv_aload_n hx hb dX7_drag_21 rfl (lv_at hl 0 rfl) ?_
      refine va_get (D := (dC, dI)) (ci := 7) (v := .int o_drags) (C := RX7) (T := TX7) (N := 42) hx hb hts hi7 hown hK hP 0 rfl rfl 27 (by decide) hq1 (fun _ h9 => h9) rfl dX7_drag_22 ?_
      refine lv_iconst (v := 4) hx hb dX7_drag_25 (by decide) ?_
      refine lv_icmp_ne (tgt := 32) hx hb dX7_drag_26 (by decide) (fun c_5 => ?_) (fun c_5 => ?_)
      · replace hw := okF hw c_5
        clear c_5
        refine lv_aload_n hx hb dX7_drag_32 rfl (lv_at hl 0 rfl) ?_
        refine va_get (D := (dC, dI)) (ci := 7) (v := .ref a_o_dragCell) (C := RX7) (T := TX7) (N := 42) hx hb hts hi7 hown hK hP 0 rfl rfl 28 (by decide) hq3 (fun _ h9 => h9) rfl dX7_drag_33 ?_
        refine lv_aload_n hx hb dX7_drag_36 rfl (lv_at hl 0 rfl) ?_
        refine va_get (D := (dC, dI)) (ci := 7) (v := .int o_drags) (C := RX7) (T := TX7) (N := 42) hx hb hts hi7 hown hK hP 0 rfl rfl 27 (by decide) hq1 (fun _ h9 => h9) rfl dX7_drag_37 ?_
        refine lv_iload_n hx hb dX7_drag_40 rfl (lv_at hl 1 rfl) ?_
        obtain ⟨h_6, hw⟩ := okC hw
        refine va_iast (i := o_drags) (x := x1) hx hb hK hP hD hS 1 0 rfl rfl h_6 dX7_drag_41 (fun H locs hP hD hS => ?_)
        have hP : va_P (dC, dI) vwCl (W_X7_drag cyI cyJ cyO h_o a_o_sets a_o_ringFar a_o_ringTone a_o_currents a_o_warmths a_o_depths a_o_tape a_o_readFar a_o_readTone a_o_readSea a_o_code a_o_cellAt a_o_courseAt a_o_paceAt a_o_turnsAt a_o_slowAt a_o_fuelAt a_o_ringAt a_o_pieceParts a_o_dragCell a_o_dragBy a_o_sums a_o_shares a_o_keptFar a_o_image a_o_lanes a_o_sizes a_o_items a_o_movedItems o_taped o_at o_wrong o_level o_noRings o_noTones o_noFuel o_pieces o_drags o_all o_noPieces o_noDrags o_kept (upd o_dragCell o_drags.toNatClampNeg x1) o_dragBy) H := hP
        have hD : va_D A (W_X7_drag cyI cyJ cyO h_o a_o_sets a_o_ringFar a_o_ringTone a_o_currents a_o_warmths a_o_depths a_o_tape a_o_readFar a_o_readTone a_o_readSea a_o_code a_o_cellAt a_o_courseAt a_o_paceAt a_o_turnsAt a_o_slowAt a_o_fuelAt a_o_ringAt a_o_pieceParts a_o_dragCell a_o_dragBy a_o_sums a_o_shares a_o_keptFar a_o_image a_o_lanes a_o_sizes a_o_items a_o_movedItems o_taped o_at o_wrong o_level o_noRings o_noTones o_noFuel o_pieces o_drags o_all o_noPieces o_noDrags o_kept (upd o_dragCell o_drags.toNatClampNeg x1) o_dragBy) := hD
        refine lv_aload_n hx hb dX7_drag_42 rfl (lv_at hl 0 rfl) ?_
        refine va_get (D := (dC, dI)) (ci := 7) (v := .ref a_o_dragBy) (C := RX7) (T := TX7) (N := 42) hx hb hts hi7 hown hK hP 0 rfl rfl 29 (by decide) hq4 (fun _ h9 => h9) rfl dX7_drag_43 ?_
        refine lv_aload_n hx hb dX7_drag_46 rfl (lv_at hl 0 rfl) ?_
        refine va_get (D := (dC, dI)) (ci := 7) (v := .int o_drags) (C := RX7) (T := TX7) (N := 42) hx hb hts hi7 hown hK hP 0 rfl rfl 27 (by decide) hq1 (fun _ h9 => h9) rfl dX7_drag_47 ?_
        refine lv_iload_n hx hb dX7_drag_50 rfl (lv_at hl 2 rfl) ?_
        obtain ⟨h_7, hw⟩ := okC hw
        refine va_iast (i := o_drags) (x := x2) hx hb hK hP hD hS 2 0 rfl rfl h_7 dX7_drag_51 (fun H locs hP hD hS => ?_)
        have hP : va_P (dC, dI) vwCl (W_X7_drag cyI cyJ cyO h_o a_o_sets a_o_ringFar a_o_ringTone a_o_currents a_o_warmths a_o_depths a_o_tape a_o_readFar a_o_readTone a_o_readSea a_o_code a_o_cellAt a_o_courseAt a_o_paceAt a_o_turnsAt a_o_slowAt a_o_fuelAt a_o_ringAt a_o_pieceParts a_o_dragCell a_o_dragBy a_o_sums a_o_shares a_o_keptFar a_o_image a_o_lanes a_o_sizes a_o_items a_o_movedItems o_taped o_at o_wrong o_level o_noRings o_noTones o_noFuel o_pieces o_drags o_all o_noPieces o_noDrags o_kept (upd o_dragCell o_drags.toNatClampNeg x1) (upd o_dragBy o_drags.toNatClampNeg x2)) H := hP
        have hD : va_D A (W_X7_drag cyI cyJ cyO h_o a_o_sets a_o_ringFar a_o_ringTone a_o_currents a_o_warmths a_o_depths a_o_tape a_o_readFar a_o_readTone a_o_readSea a_o_code a_o_cellAt a_o_courseAt a_o_paceAt a_o_turnsAt a_o_slowAt a_o_fuelAt a_o_ringAt a_o_pieceParts a_o_dragCell a_o_dragBy a_o_sums a_o_shares a_o_keptFar a_o_image a_o_lanes a_o_sizes a_o_items a_o_movedItems o_taped o_at o_wrong o_level o_noRings o_noTones o_noFuel o_pieces o_drags o_all o_noPieces o_noDrags o_kept (upd o_dragCell o_drags.toNatClampNeg x1) (upd o_dragBy o_drags.toNatClampNeg x2)) := hD
        refine lv_aload_n hx hb dX7_drag_52 rfl (lv_at hl 0 rfl) ?_
        refine lv_dup hx hb dX7_drag_53 rfl ?_
        refine va_get (D := (dC, dI)) (ci := 7) (v := .int o_drags) (C := RX7) (T := TX7) (N := 42) hx hb hts hi7 hown hK hP 0 rfl rfl 27 (by decide) hq1 (fun _ h9 => h9) rfl dX7_drag_54 ?_
        refine lv_iconst (v := 1) hx hb dX7_drag_57 (by decide) ?_
        refine lv_iadd hx hb dX7_drag_58 ?_
        refine lv_topi (fun x_8 ex_8 => ?_)
        replace hw := okN ex_8 hw
        clear ex_8
        refine va_put (D := (dC, dI)) (ci := 7) (v := .int x_8) (ty := .int) (C := RX7) (T := TX7) (N := 42) hx hb hts hi7 tyX7 tyX7_ok nmX7 hown hK hP hD hS 0 rfl rfl 27 (by decide) hq1 (fun _ h9 => h9) rfl (by decide +kernel) rfl rfl (Nat.le_of_ble_eq_true rfl) dX7_drag_59 (fun H locs hP hD hS => ?_)
        have hP : va_P (dC, dI) vwCl (W_X7_drag cyI cyJ cyO h_o a_o_sets a_o_ringFar a_o_ringTone a_o_currents a_o_warmths a_o_depths a_o_tape a_o_readFar a_o_readTone a_o_readSea a_o_code a_o_cellAt a_o_courseAt a_o_paceAt a_o_turnsAt a_o_slowAt a_o_fuelAt a_o_ringAt a_o_pieceParts a_o_dragCell a_o_dragBy a_o_sums a_o_shares a_o_keptFar a_o_image a_o_lanes a_o_sizes a_o_items a_o_movedItems o_taped o_at o_wrong o_level o_noRings o_noTones o_noFuel o_pieces x_8 o_all o_noPieces o_noDrags o_kept (upd o_dragCell o_drags.toNatClampNeg x1) (upd o_dragBy o_drags.toNatClampNeg x2)) H := hP
        have hD : va_D A (W_X7_drag cyI cyJ cyO h_o a_o_sets a_o_ringFar a_o_ringTone a_o_currents a_o_warmths a_o_depths a_o_tape a_o_readFar a_o_readTone a_o_readSea a_o_code a_o_cellAt a_o_courseAt a_o_paceAt a_o_turnsAt a_o_slowAt a_o_fuelAt a_o_ringAt a_o_pieceParts a_o_dragCell a_o_dragBy a_o_sums a_o_shares a_o_keptFar a_o_image a_o_lanes a_o_sizes a_o_items a_o_movedItems o_taped o_at o_wrong o_level o_noRings o_noTones o_noFuel o_pieces x_8 o_all o_noPieces o_noDrags o_kept (upd o_dragCell o_drags.toNatClampNeg x1) (upd o_dragBy o_drags.toNatClampNeg x2)) := hD
        refine lv_aload_n hx hb dX7_drag_62 rfl (lv_at hl 0 rfl) ?_
        refine va_get (D := (dC, dI)) (ci := 7) (v := .int x_8) (C := RX7) (T := TX7) (N := 42) hx hb hts hi7 hown hK hP 0 rfl rfl 27 (by decide) hq1 (fun _ h9 => h9) rfl dX7_drag_63 ?_
        refine lv_iconst (v := 1) hx hb dX7_drag_66 (by decide) ?_
        refine lv_isub hx hb dX7_drag_67 ?_
        rw [hQ]
        exact W.iret (v := x_8 - 1) hx hb hr (fun t ht hW => ⟨⟨x_8 - 1, (x_8, upd o_dragCell o_drags.toNatClampNeg x1, upd o_dragBy o_drags.toNatClampNeg x2), rfl, okS hw, by rw [ht]; exact hP, va_K.moved hW.alike hK, hD⟩, hS.F ht⟩) hS.2.2 dX7_drag_68
      · replace hw := okT hw c_5
        clear c_5
        refine lv_bipush (v := (-3)) hx hb dX7_drag_29 (by decide) ?_
        rw [hQ]
        exact W.iret (v := (-3)) hx hb hr (fun t ht hW => ⟨⟨(-3), (o_drags, o_dragCell, o_dragBy), rfl, okS hw, by rw [ht]; exact hP, va_K.moved hW.alike hK, hD⟩, hS.F ht⟩) hS.2.2 dX7_drag_31
    · replace hw := okT hw c_4
      clear c_4
      refine lv_iconst (v := (-1)) hx hb dX7_drag_19 (by decide) ?_
      rw [hQ]
      exact W.iret (v := (-1)) hx hb hr (fun t ht hW => ⟨⟨(-1), (o_drags, o_dragCell, o_dragBy), rfl, okS hw, by rw [ht]; exact hP, va_K.moved hW.alike hK, hD⟩, hS.F ht⟩) hS.2.2 dX7_drag_20
/-! ===== X7_clear ===== -/
theorem dX7_clear_0 : decode cX7_clear 0 = .ok (.aload_n 0, 1) := by decide +kernel
theorem dX7_clear_1 : decode cX7_clear 1 = .ok (.getfield 206, 3) := by decide +kernel
theorem dX7_clear_4 : decode cX7_clear 4 = .ok (.aload_n 0, 1) := by decide +kernel
theorem dX7_clear_5 : decode cX7_clear 5 = .ok (.getfield 218, 3) := by decide +kernel
theorem dX7_clear_8 : decode cX7_clear 8 = .ok (.iadd, 1) := by decide +kernel
theorem dX7_clear_9 : decode cX7_clear 9 = .ok (.istore_n 1, 1) := by decide +kernel
theorem dX7_clear_10 : decode cX7_clear 10 = .ok (.aload_n 0, 1) := by decide +kernel
theorem dX7_clear_11 : decode cX7_clear 11 = .ok (.iconst 0, 1) := by decide +kernel
theorem dX7_clear_12 : decode cX7_clear 12 = .ok (.putfield 206, 3) := by decide +kernel
theorem dX7_clear_15 : decode cX7_clear 15 = .ok (.aload_n 0, 1) := by decide +kernel
theorem dX7_clear_16 : decode cX7_clear 16 = .ok (.iconst 0, 1) := by decide +kernel
theorem dX7_clear_17 : decode cX7_clear 17 = .ok (.putfield 218, 3) := by decide +kernel
theorem dX7_clear_20 : decode cX7_clear 20 = .ok (.iload_n 1, 1) := by decide +kernel
theorem dX7_clear_21 : decode cX7_clear 21 = .ok (.ireturn, 1) := by decide +kernel
abbrev W_X7_clear (cyI cyJ cyO : ClassId) (h_o a_o_sets a_o_ringFar a_o_ringTone a_o_currents a_o_warmths a_o_depths a_o_tape a_o_readFar a_o_readTone a_o_readSea a_o_code a_o_cellAt a_o_courseAt a_o_paceAt a_o_turnsAt a_o_slowAt a_o_fuelAt a_o_ringAt a_o_pieceParts a_o_dragCell a_o_dragBy a_o_sums a_o_shares a_o_keptFar a_o_image a_o_lanes a_o_sizes a_o_items a_o_movedItems : Nat) (o_taped : Int32) (o_at : Int32) (o_wrong : Int32) (o_level : Int32) (o_noRings : Int32) (o_noTones : Int32) (o_noFuel : Int32) (o_pieces : Int32) (o_drags : Int32) (o_all : Int64) (o_noPieces : Int32) (o_noDrags : Int32) (o_kept : Int32) : va_W := [(h_o, .inr (7, [.ref a_o_sets, .ref a_o_ringFar, .ref a_o_ringTone, .ref a_o_currents, .ref a_o_warmths, .ref a_o_depths, .ref a_o_tape, .int o_taped, .int o_at, .int o_wrong, .ref a_o_readFar, .ref a_o_readTone, .ref a_o_readSea, .ref a_o_code, .ref a_o_cellAt, .ref a_o_courseAt, .ref a_o_paceAt, .ref a_o_turnsAt, .ref a_o_slowAt, .ref a_o_fuelAt, .ref a_o_ringAt, .int o_level, .int o_noRings, .int o_noTones, .int o_noFuel, .int o_pieces, .ref a_o_pieceParts, .int o_drags, .ref a_o_dragCell, .ref a_o_dragBy, .ref a_o_sums, .long o_all, .int o_noPieces, .int o_noDrags, .ref a_o_shares, .ref a_o_keptFar, .ref a_o_image, .int o_kept, .ref a_o_lanes, .ref a_o_sizes, .ref a_o_items, .ref a_o_movedItems]))]
def f_X7_clear (o_pieces : Int32) (o_drags : Int32) : Option (Int32 × Int32 × Int32) :=
  nm (o_pieces + o_drags) fun x_1 =>
  some (x_1, 0, 0)
abbrev rm_X7_clear : Room := { frames := 0, cells := 0, slots := 0, locals := 0 }
set_option maxRecDepth 100000 in
set_option maxHeartbeats 4000000 in
theorem c_X7_clear (l : Launch) (dC : Nat → ClassId) (dI : Nat → Nat → Nat) (cyI cyJ cyO : ClassId) (sz : Nat) (h_o a_o_sets a_o_ringFar a_o_ringTone a_o_currents a_o_warmths a_o_depths a_o_tape a_o_readFar a_o_readTone a_o_readSea a_o_code a_o_cellAt a_o_courseAt a_o_paceAt a_o_turnsAt a_o_slowAt a_o_fuelAt a_o_ringAt a_o_pieceParts a_o_dragCell a_o_dragBy a_o_sums a_o_shares a_o_keptFar a_o_image a_o_lanes a_o_sizes a_o_items a_o_movedItems : Nat) (o_taped : Int32) (o_at : Int32) (o_wrong : Int32) (o_level : Int32) (o_noRings : Int32) (o_noTones : Int32) (o_noFuel : Int32) (o_pieces : Int32) (o_drags : Int32) (o_all : Int64) (o_noPieces : Int32) (o_noDrags : Int32) (o_kept : Int32) (post : (Int32 × Int32 × Int32) → Prop) (hf : okP (f_X7_clear o_pieces o_drags) post) : Ci l (dC, dI) (tyL cyI cyJ cyO) yX7_clear wsX7_clear rm_X7_clear [.ref h_o] sz (W_X7_clear cyI cyJ cyO h_o a_o_sets a_o_ringFar a_o_ringTone a_o_currents a_o_warmths a_o_depths a_o_tape a_o_readFar a_o_readTone a_o_readSea a_o_code a_o_cellAt a_o_courseAt a_o_paceAt a_o_turnsAt a_o_slowAt a_o_fuelAt a_o_ringAt a_o_pieceParts a_o_dragCell a_o_dragBy a_o_sums a_o_shares a_o_keptFar a_o_image a_o_lanes a_o_sizes a_o_items a_o_movedItems o_taped o_at o_wrong o_level o_noRings o_noTones o_noFuel o_pieces o_drags o_all o_noPieces o_noDrags o_kept) zN (fun r u => post (r, u)) (fun u => (W_X7_clear cyI cyJ cyO h_o a_o_sets a_o_ringFar a_o_ringTone a_o_currents a_o_warmths a_o_depths a_o_tape a_o_readFar a_o_readTone a_o_readSea a_o_code a_o_cellAt a_o_courseAt a_o_paceAt a_o_turnsAt a_o_slowAt a_o_fuelAt a_o_ringAt a_o_pieceParts a_o_dragCell a_o_dragBy a_o_sums a_o_shares a_o_keptFar a_o_image a_o_lanes a_o_sizes a_o_items a_o_movedItems o_taped o_at o_wrong o_level o_noRings o_noTones o_noFuel u.1 u.2 o_all o_noPieces o_noDrags o_kept)) := by
  refine Met.ofW (cc := cX7_clear) (maxL := 2) (ret := (some .int)) (by decide) rfl ?_
  intro p e s m args below meth c s₁ B hml hv
  obtain ⟨rfl, hsz, hP, hK, hD0, hZ⟩ := hv
  have hx := B.exec
  have hb := B.bytes
  have hr := B.returns
  have hts := atoms_spec (ws := wsX7_clear) B.pre
  have hown : s.vm.findClass RX7 = some m.cls := findClass_of_methodNamed B.named
  have hlocks := B.notSynchronized
  subst hsz
  have hD := hD0.self (sz := s.heap.size)
  generalize hAe : va_A (W_X7_clear cyI cyJ cyO h_o a_o_sets a_o_ringFar a_o_ringTone a_o_currents a_o_warmths a_o_depths a_o_tape a_o_readFar a_o_readTone a_o_readSea a_o_code a_o_cellAt a_o_courseAt a_o_paceAt a_o_turnsAt a_o_slowAt a_o_fuelAt a_o_ringAt a_o_pieceParts a_o_dragCell a_o_dragBy a_o_sums a_o_shares a_o_keptFar a_o_image a_o_lanes a_o_sizes a_o_items a_o_movedItems o_taped o_at o_wrong o_level o_noRings o_noTones o_noFuel o_pieces o_drags o_all o_noPieces o_noDrags o_kept) s.heap.size = A at hD hZ ⊢
  have hA : ∀ q : Nat, s.heap.size ≤ q → A q := fun q h => by rw [← hAe]; exact Or.inr h
  clear hAe hD0
  have hS : va_S A s.heap s.heap [] := va_S.rf
  have hl := lv_entry ([.ref h_o]) (n := 2) (Nat.le_of_ble_eq_true rfl)
  rw [lg_entry_eq]
  generalize (lg_sl ([.ref h_o]) ++ List.replicate (2 - (lg_sl ([.ref h_o])).length) Slot.unset).toArray = ls at hl ⊢
  have hl : lv_has ls 2 [(0, .ref h_o)] := hl
  refine kW (fun Q hQ => ?_)
  have hq0 := hts _ (List.mem_cons_of_mem _ q_731)
  have hi7 : ∀ w ∈ u_ws RX7 TX7 42, w ∈ wsX7_clear := fun w h => List.mem_cons_of_mem _ (inX7 w h)
  have hq2 := hts _ (List.mem_cons_of_mem _ q_733)
  have hw := hf
  unfold f_X7_clear at hw
  have hP : va_P (dC, dI) vwCl (W_X7_clear cyI cyJ cyO h_o a_o_sets a_o_ringFar a_o_ringTone a_o_currents a_o_warmths a_o_depths a_o_tape a_o_readFar a_o_readTone a_o_readSea a_o_code a_o_cellAt a_o_courseAt a_o_paceAt a_o_turnsAt a_o_slowAt a_o_fuelAt a_o_ringAt a_o_pieceParts a_o_dragCell a_o_dragBy a_o_sums a_o_shares a_o_keptFar a_o_image a_o_lanes a_o_sizes a_o_items a_o_movedItems o_taped o_at o_wrong o_level o_noRings o_noTones o_noFuel o_pieces o_drags o_all o_noPieces o_noDrags o_kept) s.heap := hP
  obtain ⟨H, hH⟩ : ∃ H, H = s.heap := ⟨_, rfl⟩
  obtain ⟨locs, hlo⟩ : ∃ x : List Loc, x = [] := ⟨_, rfl⟩
  have hP : va_P (dC, dI) vwCl (W_X7_clear cyI cyJ cyO h_o a_o_sets a_o_ringFar a_o_ringTone a_o_currents a_o_warmths a_o_depths a_o_tape a_o_readFar a_o_readTone a_o_readSea a_o_code a_o_cellAt a_o_courseAt a_o_paceAt a_o_turnsAt a_o_slowAt a_o_fuelAt a_o_ringAt a_o_pieceParts a_o_dragCell a_o_dragBy a_o_sums a_o_shares a_o_keptFar a_o_image a_o_lanes a_o_sizes a_o_items a_o_movedItems o_taped o_at o_wrong o_level o_noRings o_noTones o_noFuel o_pieces o_drags o_all o_noPieces o_noDrags o_kept) H := by rw [hH]; exact hP
  have hS : va_S A s.heap H locs := by rw [hH, hlo]; exact hS
  refine kH hH hlo ?_
  clear hH hlo
  refine lv_aload_n hx hb dX7_clear_0 rfl (lv_at hl 0 rfl) ?_
  refine va_get (D := (dC, dI)) (ci := 7) (v := .int o_pieces) (C := RX7) (T := TX7) (N := 42) hx hb hts hi7 hown hK hP 0 rfl rfl 25 (by decide) hq0 (fun _ h9 => h9) rfl dX7_clear_1 ?_
  refine lv_aload_n hx hb dX7_clear_4 rfl (lv_at hl 0 rfl) ?_
  refine va_get (D := (dC, dI)) (ci := 7) (v := .int o_drags) (C := RX7) (T := TX7) (N := 42) hx hb hts hi7 hown hK hP 0 rfl rfl 27 (by decide) hq2 (fun _ h9 => h9) rfl dX7_clear_5 ?_
  refine lv_iadd hx hb dX7_clear_8 ?_
  refine lv_topi (fun x_1 ex_1 => ?_)
  replace hw := okN ex_1 hw
  clear ex_1
  refine lv_istore_n (lv' := [(1, .int x_1), (0, .ref h_o)]) hx hb dX7_clear_9 rfl hl (by decide) rfl (fun ls hl => ?_)
  refine lv_aload_n hx hb dX7_clear_10 rfl (lv_at hl 1 rfl) ?_
  refine lv_iconst (v := 0) hx hb dX7_clear_11 (by decide) ?_
  refine va_put (D := (dC, dI)) (ci := 7) (v := .int 0) (ty := .int) (C := RX7) (T := TX7) (N := 42) hx hb hts hi7 tyX7 tyX7_ok nmX7 hown hK hP hD hS 0 rfl rfl 25 (by decide) hq0 (fun _ h9 => h9) rfl (by decide +kernel) rfl rfl (Nat.le_of_ble_eq_true rfl) dX7_clear_12 (fun H locs hP hD hS => ?_)
  have hP : va_P (dC, dI) vwCl (W_X7_clear cyI cyJ cyO h_o a_o_sets a_o_ringFar a_o_ringTone a_o_currents a_o_warmths a_o_depths a_o_tape a_o_readFar a_o_readTone a_o_readSea a_o_code a_o_cellAt a_o_courseAt a_o_paceAt a_o_turnsAt a_o_slowAt a_o_fuelAt a_o_ringAt a_o_pieceParts a_o_dragCell a_o_dragBy a_o_sums a_o_shares a_o_keptFar a_o_image a_o_lanes a_o_sizes a_o_items a_o_movedItems o_taped o_at o_wrong o_level o_noRings o_noTones o_noFuel 0 o_drags o_all o_noPieces o_noDrags o_kept) H := hP
  have hD : va_D A (W_X7_clear cyI cyJ cyO h_o a_o_sets a_o_ringFar a_o_ringTone a_o_currents a_o_warmths a_o_depths a_o_tape a_o_readFar a_o_readTone a_o_readSea a_o_code a_o_cellAt a_o_courseAt a_o_paceAt a_o_turnsAt a_o_slowAt a_o_fuelAt a_o_ringAt a_o_pieceParts a_o_dragCell a_o_dragBy a_o_sums a_o_shares a_o_keptFar a_o_image a_o_lanes a_o_sizes a_o_items a_o_movedItems o_taped o_at o_wrong o_level o_noRings o_noTones o_noFuel 0 o_drags o_all o_noPieces o_noDrags o_kept) := hD
  refine lv_aload_n hx hb dX7_clear_15 rfl (lv_at hl 1 rfl) ?_
  refine lv_iconst (v := 0) hx hb dX7_clear_16 (by decide) ?_
  refine va_put (D := (dC, dI)) (ci := 7) (v := .int 0) (ty := .int) (C := RX7) (T := TX7) (N := 42) hx hb hts hi7 tyX7 tyX7_ok nmX7 hown hK hP hD hS 0 rfl rfl 27 (by decide) hq2 (fun _ h9 => h9) rfl (by decide +kernel) rfl rfl (Nat.le_of_ble_eq_true rfl) dX7_clear_17 (fun H locs hP hD hS => ?_)
  have hP : va_P (dC, dI) vwCl (W_X7_clear cyI cyJ cyO h_o a_o_sets a_o_ringFar a_o_ringTone a_o_currents a_o_warmths a_o_depths a_o_tape a_o_readFar a_o_readTone a_o_readSea a_o_code a_o_cellAt a_o_courseAt a_o_paceAt a_o_turnsAt a_o_slowAt a_o_fuelAt a_o_ringAt a_o_pieceParts a_o_dragCell a_o_dragBy a_o_sums a_o_shares a_o_keptFar a_o_image a_o_lanes a_o_sizes a_o_items a_o_movedItems o_taped o_at o_wrong o_level o_noRings o_noTones o_noFuel 0 0 o_all o_noPieces o_noDrags o_kept) H := hP
  have hD : va_D A (W_X7_clear cyI cyJ cyO h_o a_o_sets a_o_ringFar a_o_ringTone a_o_currents a_o_warmths a_o_depths a_o_tape a_o_readFar a_o_readTone a_o_readSea a_o_code a_o_cellAt a_o_courseAt a_o_paceAt a_o_turnsAt a_o_slowAt a_o_fuelAt a_o_ringAt a_o_pieceParts a_o_dragCell a_o_dragBy a_o_sums a_o_shares a_o_keptFar a_o_image a_o_lanes a_o_sizes a_o_items a_o_movedItems o_taped o_at o_wrong o_level o_noRings o_noTones o_noFuel 0 0 o_all o_noPieces o_noDrags o_kept) := hD
  refine lv_iload_n hx hb dX7_clear_20 rfl (lv_at hl 0 rfl) ?_
  rw [hQ]
  exact W.iret (v := x_1) hx hb hr (fun t ht hW => ⟨⟨x_1, (0, 0), rfl, okS hw, by rw [ht]; exact hP, va_K.moved hW.alike hK, hD⟩, hS.F ht⟩) hS.2.2 dX7_clear_21
/-! ===== X7_ends ===== -/
theorem dX7_ends_0 : decode cX7_ends 0 = .ok (.iconst 0, 1) := by decide +kernel
theorem dX7_ends_1 : decode cX7_ends 1 = .ok (.istore_n 1, 1) := by decide +kernel
theorem dX7_ends_2 : decode cX7_ends 2 = .ok (.iload_n 1, 1) := by decide +kernel
theorem dX7_ends_3 : decode cX7_ends 3 = .ok (.bipush 100, 2) := by decide +kernel
theorem dX7_ends_5 : decode cX7_ends 5 = .ok (.if_icmp .ge 16, 3) := by decide +kernel
theorem dX7_ends_8 : decode cX7_ends 8 = .ok (.aload_n 0, 1) := by decide +kernel
theorem dX7_ends_9 : decode cX7_ends 9 = .ok (.getfield 73, 3) := by decide +kernel
theorem dX7_ends_12 : decode cX7_ends 12 = .ok (.iload_n 1, 1) := by decide +kernel
theorem dX7_ends_13 : decode cX7_ends 13 = .ok (.lconst 0, 1) := by decide +kernel
theorem dX7_ends_14 : decode cX7_ends 14 = .ok (.lastore, 1) := by decide +kernel
theorem dX7_ends_15 : decode cX7_ends 15 = .ok (.iinc 1 1, 3) := by decide +kernel
theorem dX7_ends_18 : decode cX7_ends 18 = .ok (.goto (-16), 3) := by decide +kernel
theorem dX7_ends_21 : decode cX7_ends 21 = .ok (.aload_n 0, 1) := by decide +kernel
theorem dX7_ends_22 : decode cX7_ends 22 = .ok (.invokevirtual 190, 3) := by decide +kernel
theorem dX7_ends_25 : decode cX7_ends 25 = .ok (.aload_n 0, 1) := by decide +kernel
theorem dX7_ends_26 : decode cX7_ends 26 = .ok (.invokevirtual 193, 3) := by decide +kernel
theorem dX7_ends_29 : decode cX7_ends 29 = .ok (.ifCond .eq 94, 3) := by decide +kernel
theorem dX7_ends_32 : decode cX7_ends 32 = .ok (.aload_n 0, 1) := by decide +kernel
theorem dX7_ends_33 : decode cX7_ends 33 = .ok (.getfield 7, 3) := by decide +kernel
theorem dX7_ends_36 : decode cX7_ends 36 = .ok (.iconst 2, 1) := by decide +kernel
theorem dX7_ends_37 : decode cX7_ends 37 = .ok (.iaload, 1) := by decide +kernel
theorem dX7_ends_38 : decode cX7_ends 38 = .ok (.istore_n 1, 1) := by decide +kernel
theorem dX7_ends_39 : decode cX7_ends 39 = .ok (.aload_n 0, 1) := by decide +kernel
theorem dX7_ends_40 : decode cX7_ends 40 = .ok (.invokevirtual 196, 3) := by decide +kernel
theorem dX7_ends_43 : decode cX7_ends 43 = .ok (.istore_n 2, 1) := by decide +kernel
theorem dX7_ends_44 : decode cX7_ends 44 = .ok (.aload_n 0, 1) := by decide +kernel
theorem dX7_ends_45 : decode cX7_ends 45 = .ok (.getfield 73, 3) := by decide +kernel
theorem dX7_ends_48 : decode cX7_ends 48 = .ok (.aload_n 0, 1) := by decide +kernel
theorem dX7_ends_49 : decode cX7_ends 49 = .ok (.getfield 43, 3) := by decide +kernel
theorem dX7_ends_52 : decode cX7_ends 52 = .ok (.iload_n 1, 1) := by decide +kernel
theorem dX7_ends_53 : decode cX7_ends 53 = .ok (.iaload, 1) := by decide +kernel
theorem dX7_ends_54 : decode cX7_ends 54 = .ok (.dup2, 1) := by decide +kernel
theorem dX7_ends_55 : decode cX7_ends 55 = .ok (.laload, 1) := by decide +kernel
theorem dX7_ends_56 : decode cX7_ends 56 = .ok (.ldc2_w 128, 3) := by decide +kernel
theorem dX7_ends_59 : decode cX7_ends 59 = .ok (.iload_n 2, 1) := by decide +kernel
theorem dX7_ends_60 : decode cX7_ends 60 = .ok (.i2l, 1) := by decide +kernel
theorem dX7_ends_61 : decode cX7_ends 61 = .ok (.lmul, 1) := by decide +kernel
theorem dX7_ends_62 : decode cX7_ends 62 = .ok (.ladd, 1) := by decide +kernel
theorem dX7_ends_63 : decode cX7_ends 63 = .ok (.lastore, 1) := by decide +kernel
theorem dX7_ends_64 : decode cX7_ends 64 = .ok (.iconst 1, 1) := by decide +kernel
theorem dX7_ends_65 : decode cX7_ends 65 = .ok (.istore_n 3, 1) := by decide +kernel
theorem dX7_ends_66 : decode cX7_ends 66 = .ok (.iload_n 3, 1) := by decide +kernel
theorem dX7_ends_67 : decode cX7_ends 67 = .ok (.aload_n 0, 1) := by decide +kernel
theorem dX7_ends_68 : decode cX7_ends 68 = .ok (.getfield 7, 3) := by decide +kernel
theorem dX7_ends_71 : decode cX7_ends 71 = .ok (.bipush 6, 2) := by decide +kernel
theorem dX7_ends_73 : decode cX7_ends 73 = .ok (.iaload, 1) := by decide +kernel
theorem dX7_ends_74 : decode cX7_ends 74 = .ok (.if_icmp .gt 46, 3) := by decide +kernel
theorem dX7_ends_77 : decode cX7_ends 77 = .ok (.aload_n 0, 1) := by decide +kernel
theorem dX7_ends_78 : decode cX7_ends 78 = .ok (.getfield 43, 3) := by decide +kernel
theorem dX7_ends_81 : decode cX7_ends 81 = .ok (.iload_n 1, 1) := by decide +kernel
theorem dX7_ends_82 : decode cX7_ends 82 = .ok (.iaload, 1) := by decide +kernel
theorem dX7_ends_83 : decode cX7_ends 83 = .ok (.aload_n 0, 1) := by decide +kernel
theorem dX7_ends_84 : decode cX7_ends 84 = .ok (.getfield 46, 3) := by decide +kernel
theorem dX7_ends_87 : decode cX7_ends 87 = .ok (.iload_n 1, 1) := by decide +kernel
theorem dX7_ends_88 : decode cX7_ends 88 = .ok (.iconst 1, 1) := by decide +kernel
theorem dX7_ends_89 : decode cX7_ends 89 = .ok (.isub, 1) := by decide +kernel
theorem dX7_ends_90 : decode cX7_ends 90 = .ok (.iaload, 1) := by decide +kernel
theorem dX7_ends_91 : decode cX7_ends 91 = .ok (.iload_n 3, 1) := by decide +kernel
theorem dX7_ends_92 : decode cX7_ends 92 = .ok (.invokestatic 173, 3) := by decide +kernel
theorem dX7_ends_95 : decode cX7_ends 95 = .ok (.istore 4, 2) := by decide +kernel
theorem dX7_ends_97 : decode cX7_ends 97 = .ok (.iload 4, 2) := by decide +kernel
theorem dX7_ends_99 : decode cX7_ends 99 = .ok (.ifCond .lt 15, 3) := by decide +kernel
theorem dX7_ends_102 : decode cX7_ends 102 = .ok (.aload_n 0, 1) := by decide +kernel
theorem dX7_ends_103 : decode cX7_ends 103 = .ok (.getfield 73, 3) := by decide +kernel
theorem dX7_ends_106 : decode cX7_ends 106 = .ok (.iload 4, 2) := by decide +kernel
theorem dX7_ends_108 : decode cX7_ends 108 = .ok (.dup2, 1) := by decide +kernel
theorem dX7_ends_109 : decode cX7_ends 109 = .ok (.laload, 1) := by decide +kernel
theorem dX7_ends_110 : decode cX7_ends 110 = .ok (.iload_n 2, 1) := by decide +kernel
theorem dX7_ends_111 : decode cX7_ends 111 = .ok (.i2l, 1) := by decide +kernel
theorem dX7_ends_112 : decode cX7_ends 112 = .ok (.ladd, 1) := by decide +kernel
theorem dX7_ends_113 : decode cX7_ends 113 = .ok (.lastore, 1) := by decide +kernel
theorem dX7_ends_114 : decode cX7_ends 114 = .ok (.iinc 3 1, 3) := by decide +kernel
theorem dX7_ends_117 : decode cX7_ends 117 = .ok (.goto (-51), 3) := by decide +kernel
theorem dX7_ends_120 : decode cX7_ends 120 = .ok (.goto (-95), 3) := by decide +kernel
theorem dX7_ends_123 : decode cX7_ends 123 = .ok (.aload_n 0, 1) := by decide +kernel
theorem dX7_ends_124 : decode cX7_ends 124 = .ok (.lconst 0, 1) := by decide +kernel
theorem dX7_ends_125 : decode cX7_ends 125 = .ok (.putfield 221, 3) := by decide +kernel
theorem dX7_ends_128 : decode cX7_ends 128 = .ok (.iconst 0, 1) := by decide +kernel
theorem dX7_ends_129 : decode cX7_ends 129 = .ok (.istore_n 1, 1) := by decide +kernel
theorem dX7_ends_130 : decode cX7_ends 130 = .ok (.iload_n 1, 1) := by decide +kernel
theorem dX7_ends_131 : decode cX7_ends 131 = .ok (.bipush 100, 2) := by decide +kernel
theorem dX7_ends_133 : decode cX7_ends 133 = .ok (.if_icmp .ge 141, 3) := by decide +kernel
theorem dX7_ends_136 : decode cX7_ends 136 = .ok (.iconst 0, 1) := by decide +kernel
theorem dX7_ends_137 : decode cX7_ends 137 = .ok (.istore_n 2, 1) := by decide +kernel
theorem dX7_ends_138 : decode cX7_ends 138 = .ok (.iload_n 2, 1) := by decide +kernel
theorem dX7_ends_139 : decode cX7_ends 139 = .ok (.aload_n 0, 1) := by decide +kernel
theorem dX7_ends_140 : decode cX7_ends 140 = .ok (.getfield 206, 3) := by decide +kernel
theorem dX7_ends_143 : decode cX7_ends 143 = .ok (.if_icmp .ge 52, 3) := by decide +kernel
theorem dX7_ends_146 : decode cX7_ends 146 = .ok (.aload_n 0, 1) := by decide +kernel
theorem dX7_ends_147 : decode cX7_ends 147 = .ok (.getfield 73, 3) := by decide +kernel
theorem dX7_ends_150 : decode cX7_ends 150 = .ok (.iload_n 1, 1) := by decide +kernel
theorem dX7_ends_151 : decode cX7_ends 151 = .ok (.dup2, 1) := by decide +kernel
theorem dX7_ends_152 : decode cX7_ends 152 = .ok (.laload, 1) := by decide +kernel
theorem dX7_ends_153 : decode cX7_ends 153 = .ok (.aload_n 0, 1) := by decide +kernel
theorem dX7_ends_154 : decode cX7_ends 154 = .ok (.getfield 73, 3) := by decide +kernel
theorem dX7_ends_157 : decode cX7_ends 157 = .ok (.iload_n 1, 1) := by decide +kernel
theorem dX7_ends_158 : decode cX7_ends 158 = .ok (.laload, 1) := by decide +kernel
theorem dX7_ends_159 : decode cX7_ends 159 = .ok (.lconst 0, 1) := by decide +kernel
theorem dX7_ends_160 : decode cX7_ends 160 = .ok (.lcmp, 1) := by decide +kernel
theorem dX7_ends_161 : decode cX7_ends 161 = .ok (.ifCond .eq 15, 3) := by decide +kernel
theorem dX7_ends_164 : decode cX7_ends 164 = .ok (.aload_n 0, 1) := by decide +kernel
theorem dX7_ends_165 : decode cX7_ends 165 = .ok (.getfield 225, 3) := by decide +kernel
theorem dX7_ends_168 : decode cX7_ends 168 = .ok (.iload_n 2, 1) := by decide +kernel
theorem dX7_ends_169 : decode cX7_ends 169 = .ok (.ishr, 1) := by decide +kernel
theorem dX7_ends_170 : decode cX7_ends 170 = .ok (.iconst 1, 1) := by decide +kernel
theorem dX7_ends_171 : decode cX7_ends 171 = .ok (.iand, 1) := by decide +kernel
theorem dX7_ends_172 : decode cX7_ends 172 = .ok (.iconst 1, 1) := by decide +kernel
theorem dX7_ends_173 : decode cX7_ends 173 = .ok (.if_icmp .ne 7, 3) := by decide +kernel
theorem dX7_ends_176 : decode cX7_ends 176 = .ok (.lconst 1, 1) := by decide +kernel
theorem dX7_ends_177 : decode cX7_ends 177 = .ok (.goto 10, 3) := by decide +kernel
theorem dX7_ends_180 : decode cX7_ends 180 = .ok (.aload_n 0, 1) := by decide +kernel
theorem dX7_ends_181 : decode cX7_ends 181 = .ok (.iload_n 2, 1) := by decide +kernel
theorem dX7_ends_182 : decode cX7_ends 182 = .ok (.iload_n 1, 1) := by decide +kernel
theorem dX7_ends_183 : decode cX7_ends 183 = .ok (.invokevirtual 215, 3) := by decide +kernel
theorem dX7_ends_186 : decode cX7_ends 186 = .ok (.i2l, 1) := by decide +kernel
theorem dX7_ends_187 : decode cX7_ends 187 = .ok (.lmul, 1) := by decide +kernel
theorem dX7_ends_188 : decode cX7_ends 188 = .ok (.lastore, 1) := by decide +kernel
theorem dX7_ends_189 : decode cX7_ends 189 = .ok (.iinc 2 1, 3) := by decide +kernel
theorem dX7_ends_192 : decode cX7_ends 192 = .ok (.goto (-54), 3) := by decide +kernel
theorem dX7_ends_195 : decode cX7_ends 195 = .ok (.iconst 0, 1) := by decide +kernel
theorem dX7_ends_196 : decode cX7_ends 196 = .ok (.istore_n 2, 1) := by decide +kernel
theorem dX7_ends_197 : decode cX7_ends 197 = .ok (.iload_n 2, 1) := by decide +kernel
theorem dX7_ends_198 : decode cX7_ends 198 = .ok (.aload_n 0, 1) := by decide +kernel
theorem dX7_ends_199 : decode cX7_ends 199 = .ok (.getfield 218, 3) := by decide +kernel
theorem dX7_ends_202 : decode cX7_ends 202 = .ok (.if_icmp .ge 51, 3) := by decide +kernel
theorem dX7_ends_205 : decode cX7_ends 205 = .ok (.aload_n 0, 1) := by decide +kernel
theorem dX7_ends_206 : decode cX7_ends 206 = .ok (.getfield 228, 3) := by decide +kernel
theorem dX7_ends_209 : decode cX7_ends 209 = .ok (.ifCond .ne 44, 3) := by decide +kernel
theorem dX7_ends_212 : decode cX7_ends 212 = .ok (.aload_n 0, 1) := by decide +kernel
theorem dX7_ends_213 : decode cX7_ends 213 = .ok (.getfield 73, 3) := by decide +kernel
theorem dX7_ends_216 : decode cX7_ends 216 = .ok (.iload_n 1, 1) := by decide +kernel
theorem dX7_ends_217 : decode cX7_ends 217 = .ok (.dup2, 1) := by decide +kernel
theorem dX7_ends_218 : decode cX7_ends 218 = .ok (.laload, 1) := by decide +kernel
theorem dX7_ends_219 : decode cX7_ends 219 = .ok (.aload_n 0, 1) := by decide +kernel
theorem dX7_ends_220 : decode cX7_ends 220 = .ok (.getfield 67, 3) := by decide +kernel
theorem dX7_ends_223 : decode cX7_ends 223 = .ok (.iload_n 2, 1) := by decide +kernel
theorem dX7_ends_224 : decode cX7_ends 224 = .ok (.iaload, 1) := by decide +kernel
theorem dX7_ends_225 : decode cX7_ends 225 = .ok (.iload_n 1, 1) := by decide +kernel
theorem dX7_ends_226 : decode cX7_ends 226 = .ok (.if_icmp .ne 16, 3) := by decide +kernel
theorem dX7_ends_229 : decode cX7_ends 229 = .ok (.bipush 8, 2) := by decide +kernel
theorem dX7_ends_231 : decode cX7_ends 231 = .ok (.aload_n 0, 1) := by decide +kernel
theorem dX7_ends_232 : decode cX7_ends 232 = .ok (.getfield 70, 3) := by decide +kernel
theorem dX7_ends_235 : decode cX7_ends 235 = .ok (.iload_n 2, 1) := by decide +kernel
theorem dX7_ends_236 : decode cX7_ends 236 = .ok (.iaload, 1) := by decide +kernel
theorem dX7_ends_237 : decode cX7_ends 237 = .ok (.isub, 1) := by decide +kernel
theorem dX7_ends_238 : decode cX7_ends 238 = .ok (.i2l, 1) := by decide +kernel
theorem dX7_ends_239 : decode cX7_ends 239 = .ok (.goto 6, 3) := by decide +kernel
theorem dX7_ends_242 : decode cX7_ends 242 = .ok (.ldc2_w 130, 3) := by decide +kernel
theorem dX7_ends_245 : decode cX7_ends 245 = .ok (.lmul, 1) := by decide +kernel
theorem dX7_ends_246 : decode cX7_ends 246 = .ok (.lastore, 1) := by decide +kernel
theorem dX7_ends_247 : decode cX7_ends 247 = .ok (.iinc 2 1, 3) := by decide +kernel
theorem dX7_ends_250 : decode cX7_ends 250 = .ok (.goto (-53), 3) := by decide +kernel
theorem dX7_ends_253 : decode cX7_ends 253 = .ok (.aload_n 0, 1) := by decide +kernel
theorem dX7_ends_254 : decode cX7_ends 254 = .ok (.dup, 1) := by decide +kernel
theorem dX7_ends_255 : decode cX7_ends 255 = .ok (.getfield 221, 3) := by decide +kernel
theorem dX7_ends_258 : decode cX7_ends 258 = .ok (.aload_n 0, 1) := by decide +kernel
theorem dX7_ends_259 : decode cX7_ends 259 = .ok (.getfield 73, 3) := by decide +kernel
theorem dX7_ends_262 : decode cX7_ends 262 = .ok (.iload_n 1, 1) := by decide +kernel
theorem dX7_ends_263 : decode cX7_ends 263 = .ok (.laload, 1) := by decide +kernel
theorem dX7_ends_264 : decode cX7_ends 264 = .ok (.ladd, 1) := by decide +kernel
theorem dX7_ends_265 : decode cX7_ends 265 = .ok (.putfield 221, 3) := by decide +kernel
theorem dX7_ends_268 : decode cX7_ends 268 = .ok (.iinc 1 1, 3) := by decide +kernel
theorem dX7_ends_271 : decode cX7_ends 271 = .ok (.goto (-141), 3) := by decide +kernel
theorem dX7_ends_274 : decode cX7_ends 274 = .ok (.return_, 1) := by decide +kernel
abbrev W_X7_ends (cyI cyJ cyO : ClassId) (h_o a_o_sets a_o_ringFar a_o_ringTone a_o_currents a_o_warmths a_o_depths a_o_tape a_o_readFar a_o_readTone a_o_readSea a_o_code a_o_cellAt a_o_courseAt a_o_paceAt a_o_turnsAt a_o_slowAt a_o_fuelAt a_o_ringAt a_o_pieceParts a_o_dragCell a_o_dragBy a_o_sums a_o_shares a_o_keptFar a_o_image a_o_lanes a_o_sizes a_o_items a_o_movedItems : Nat) (o_taped : Int32) (o_at : Int32) (o_wrong : Int32) (o_level : Int32) (o_noRings : Int32) (o_noTones : Int32) (o_noFuel : Int32) (o_pieces : Int32) (o_drags : Int32) (o_all : Int64) (o_noPieces : Int32) (o_noDrags : Int32) (o_kept : Int32) (o_sets : Nat → Int32) (o_ringFar : Nat → Int32) (o_ringTone : Nat → Int32) (o_currents : Nat → Int32) (o_warmths : Nat → Int32) (o_code : Nat → Int32) (o_cellAt : Nat → Int32) (o_courseAt : Nat → Int32) (o_paceAt : Nat → Int32) (o_turnsAt : Nat → Int32) (o_slowAt : Nat → Int32) (o_fuelAt : Nat → Int32) (o_ringAt : Nat → Int32) (o_pieceParts : Nat → Int32) (o_dragCell : Nat → Int32) (o_dragBy : Nat → Int32) (o_sums : Nat → Int64) : va_W := [(h_o, .inr (7, [.ref a_o_sets, .ref a_o_ringFar, .ref a_o_ringTone, .ref a_o_currents, .ref a_o_warmths, .ref a_o_depths, .ref a_o_tape, .int o_taped, .int o_at, .int o_wrong, .ref a_o_readFar, .ref a_o_readTone, .ref a_o_readSea, .ref a_o_code, .ref a_o_cellAt, .ref a_o_courseAt, .ref a_o_paceAt, .ref a_o_turnsAt, .ref a_o_slowAt, .ref a_o_fuelAt, .ref a_o_ringAt, .int o_level, .int o_noRings, .int o_noTones, .int o_noFuel, .int o_pieces, .ref a_o_pieceParts, .int o_drags, .ref a_o_dragCell, .ref a_o_dragBy, .ref a_o_sums, .long o_all, .int o_noPieces, .int o_noDrags, .ref a_o_shares, .ref a_o_keptFar, .ref a_o_image, .int o_kept, .ref a_o_lanes, .ref a_o_sizes, .ref a_o_items, .ref a_o_movedItems])), (a_o_sets, .inl (cyI, 8, .inl o_sets)), (a_o_ringFar, .inl (cyI, 7, .inl o_ringFar)), (a_o_ringTone, .inl (cyI, 7, .inl o_ringTone)), (a_o_currents, .inl (cyI, 200, .inl o_currents)), (a_o_warmths, .inl (cyI, 200, .inl o_warmths)), (a_o_code, .inl (cyI, 7, .inl o_code)), (a_o_cellAt, .inl (cyI, 7, .inl o_cellAt)), (a_o_courseAt, .inl (cyI, 7, .inl o_courseAt)), (a_o_paceAt, .inl (cyI, 7, .inl o_paceAt)), (a_o_turnsAt, .inl (cyI, 7, .inl o_turnsAt)), (a_o_slowAt, .inl (cyI, 7, .inl o_slowAt)), (a_o_fuelAt, .inl (cyI, 7, .inl o_fuelAt)), (a_o_ringAt, .inl (cyI, 7, .inl o_ringAt)), (a_o_pieceParts, .inl (cyI, 20, .inl o_pieceParts)), (a_o_dragCell, .inl (cyI, 6, .inl o_dragCell)), (a_o_dragBy, .inl (cyI, 6, .inl o_dragBy)), (a_o_sums, .inl (cyJ, 100, .inr (.inl o_sums)))]
def f_X7_ends_B253 (k130 : Int32 → Int32 → Int32 → Int32 → Int32 → Int32 → Int32 → Int64 → Int32 → Int32 → (Nat → Int32) → (Nat → Int32) → (Nat → Int32) → (Nat → Int32) → (Nat → Int32) → (Nat → Int32) → (Nat → Int32) → (Nat → Int32) → (Nat → Int32) → (Nat → Int32) → (Nat → Int32) → (Nat → Int32) → (Nat → Int32) → (Nat → Int32) → (Nat → Int32) → (Nat → Int32) → (Nat → Int64) → Option (Int32 × Int64 × (Nat → Int32) × (Nat → Int32) × (Nat → Int32) × (Nat → Int32) × (Nat → Int32) × (Nat → Int32) × (Nat → Int32) × (Nat → Int32) × (Nat → Int64))) (v1 : Int32) (o_level : Int32) (o_noRings : Int32) (o_noTones : Int32) (o_noFuel : Int32) (o_pieces : Int32) (o_drags : Int32) (o_all : Int64) (o_noPieces : Int32) (o_noDrags : Int32) (o_sets : Nat → Int32) (o_ringFar : Nat → Int32) (o_ringTone : Nat → Int32) (o_currents : Nat → Int32) (o_warmths : Nat → Int32) (o_code : Nat → Int32) (o_cellAt : Nat → Int32) (o_courseAt : Nat → Int32) (o_paceAt : Nat → Int32) (o_turnsAt : Nat → Int32) (o_slowAt : Nat → Int32) (o_fuelAt : Nat → Int32) (o_ringAt : Nat → Int32) (o_pieceParts : Nat → Int32) (o_dragCell : Nat → Int32) (o_dragBy : Nat → Int32) (o_sums : Nat → Int64) : Option (Int32 × Int64 × (Nat → Int32) × (Nat → Int32) × (Nat → Int32) × (Nat → Int32) × (Nat → Int32) × (Nat → Int32) × (Nat → Int32) × (Nat → Int32) × (Nat → Int64)) :=
  chk (¬ (v1 < 0 ∨ 100 ≤ v1.toNatClampNeg)) <|
  nm (o_all + (o_sums v1.toNatClampNeg)) fun x_1 =>
  nm (v1 + 1) fun x_2 =>
  k130 x_2 o_level o_noRings o_noTones o_noFuel o_pieces o_drags x_1 o_noPieces o_noDrags o_sets o_ringFar o_ringTone o_currents o_warmths o_code o_cellAt o_courseAt o_paceAt o_turnsAt o_slowAt o_fuelAt o_ringAt o_pieceParts o_dragCell o_dragBy o_sums
def f_X7_ends_B245 (k130 : Int32 → Int32 → Int32 → Int32 → Int32 → Int32 → Int32 → Int64 → Int32 → Int32 → (Nat → Int32) → (Nat → Int32) → (Nat → Int32) → (Nat → Int32) → (Nat → Int32) → (Nat → Int32) → (Nat → Int32) → (Nat → Int32) → (Nat → Int32) → (Nat → Int32) → (Nat → Int32) → (Nat → Int32) → (Nat → Int32) → (Nat → Int32) → (Nat → Int32) → (Nat → Int32) → (Nat → Int64) → Option (Int32 × Int64 × (Nat → Int32) × (Nat → Int32) × (Nat → Int32) × (Nat → Int32) × (Nat → Int32) × (Nat → Int32) × (Nat → Int32) × (Nat → Int32) × (Nat → Int64))) (k197 : Int32 → Int32 → Int32 → Int32 → Int32 → Int32 → Int32 → Int32 → Int64 → Int32 → Int32 → (Nat → Int32) → (Nat → Int32) → (Nat → Int32) → (Nat → Int32) → (Nat → Int32) → (Nat → Int32) → (Nat → Int32) → (Nat → Int32) → (Nat → Int32) → (Nat → Int32) → (Nat → Int32) → (Nat → Int32) → (Nat → Int32) → (Nat → Int32) → (Nat → Int32) → (Nat → Int32) → (Nat → Int64) → Option (Int32 × Int64 × (Nat → Int32) × (Nat → Int32) × (Nat → Int32) × (Nat → Int32) × (Nat → Int32) × (Nat → Int32) × (Nat → Int32) × (Nat → Int32) × (Nat → Int64))) (v1 : Int32) (v2 : Int32) (y0 : Int64) (y1 : Int64) (y2 : Int32) (o_level : Int32) (o_noRings : Int32) (o_noTones : Int32) (o_noFuel : Int32) (o_pieces : Int32) (o_drags : Int32) (o_all : Int64) (o_noPieces : Int32) (o_noDrags : Int32) (o_sets : Nat → Int32) (o_ringFar : Nat → Int32) (o_ringTone : Nat → Int32) (o_currents : Nat → Int32) (o_warmths : Nat → Int32) (o_code : Nat → Int32) (o_cellAt : Nat → Int32) (o_courseAt : Nat → Int32) (o_paceAt : Nat → Int32) (o_turnsAt : Nat → Int32) (o_slowAt : Nat → Int32) (o_fuelAt : Nat → Int32) (o_ringAt : Nat → Int32) (o_pieceParts : Nat → Int32) (o_dragCell : Nat → Int32) (o_dragBy : Nat → Int32) (o_sums : Nat → Int64) : Option (Int32 × Int64 × (Nat → Int32) × (Nat → Int32) × (Nat → Int32) × (Nat → Int32) × (Nat → Int32) × (Nat → Int32) × (Nat → Int32) × (Nat → Int32) × (Nat → Int64)) :=
  nm (y1 * y0) fun x_3 =>
  chk (¬ (y2 < 0 ∨ 100 ≤ y2.toNatClampNeg)) <|
  nm (v2 + 1) fun x_4 =>
  k197 v1 x_4 o_level o_noRings o_noTones o_noFuel o_pieces o_drags o_all o_noPieces o_noDrags o_sets o_ringFar o_ringTone o_currents o_warmths o_code o_cellAt o_courseAt o_paceAt o_turnsAt o_slowAt o_fuelAt o_ringAt o_pieceParts o_dragCell o_dragBy (vp_updL o_sums y2.toNatClampNeg x_3)
def f_X7_ends_L197b (k130 : Int32 → Int32 → Int32 → Int32 → Int32 → Int32 → Int32 → Int64 → Int32 → Int32 → (Nat → Int32) → (Nat → Int32) → (Nat → Int32) → (Nat → Int32) → (Nat → Int32) → (Nat → Int32) → (Nat → Int32) → (Nat → Int32) → (Nat → Int32) → (Nat → Int32) → (Nat → Int32) → (Nat → Int32) → (Nat → Int32) → (Nat → Int32) → (Nat → Int32) → (Nat → Int32) → (Nat → Int64) → Option (Int32 × Int64 × (Nat → Int32) × (Nat → Int32) × (Nat → Int32) × (Nat → Int32) × (Nat → Int32) × (Nat → Int32) × (Nat → Int32) × (Nat → Int32) × (Nat → Int64))) (k197 : Int32 → Int32 → Int32 → Int32 → Int32 → Int32 → Int32 → Int32 → Int64 → Int32 → Int32 → (Nat → Int32) → (Nat → Int32) → (Nat → Int32) → (Nat → Int32) → (Nat → Int32) → (Nat → Int32) → (Nat → Int32) → (Nat → Int32) → (Nat → Int32) → (Nat → Int32) → (Nat → Int32) → (Nat → Int32) → (Nat → Int32) → (Nat → Int32) → (Nat → Int32) → (Nat → Int32) → (Nat → Int64) → Option (Int32 × Int64 × (Nat → Int32) × (Nat → Int32) × (Nat → Int32) × (Nat → Int32) × (Nat → Int32) × (Nat → Int32) × (Nat → Int32) × (Nat → Int32) × (Nat → Int64))) (v1 : Int32) (v2 : Int32) (o_level : Int32) (o_noRings : Int32) (o_noTones : Int32) (o_noFuel : Int32) (o_pieces : Int32) (o_drags : Int32) (o_all : Int64) (o_noPieces : Int32) (o_noDrags : Int32) (o_sets : Nat → Int32) (o_ringFar : Nat → Int32) (o_ringTone : Nat → Int32) (o_currents : Nat → Int32) (o_warmths : Nat → Int32) (o_code : Nat → Int32) (o_cellAt : Nat → Int32) (o_courseAt : Nat → Int32) (o_paceAt : Nat → Int32) (o_turnsAt : Nat → Int32) (o_slowAt : Nat → Int32) (o_fuelAt : Nat → Int32) (o_ringAt : Nat → Int32) (o_pieceParts : Nat → Int32) (o_dragCell : Nat → Int32) (o_dragBy : Nat → Int32) (o_sums : Nat → Int64) : Option (Int32 × Int64 × (Nat → Int32) × (Nat → Int32) × (Nat → Int32) × (Nat → Int32) × (Nat → Int32) × (Nat → Int32) × (Nat → Int32) × (Nat → Int32) × (Nat → Int64)) :=
  if o_drags ≤ v2 then
    f_X7_ends_B253 k130 v1 o_level o_noRings o_noTones o_noFuel o_pieces o_drags o_all o_noPieces o_noDrags o_sets o_ringFar o_ringTone o_currents o_warmths o_code o_cellAt o_courseAt o_paceAt o_turnsAt o_slowAt o_fuelAt o_ringAt o_pieceParts o_dragCell o_dragBy o_sums
  else
    if o_noDrags = 0 then
      chk (¬ (v1 < 0 ∨ 100 ≤ v1.toNatClampNeg)) <|
      chk (¬ (v2 < 0 ∨ 6 ≤ v2.toNatClampNeg)) <|
      if (o_dragCell v2.toNatClampNeg) = v1 then
        chk (¬ (v2 < 0 ∨ 6 ≤ v2.toNatClampNeg)) <|
        f_X7_ends_B245 k130 k197 v1 v2 ((8 - (o_dragBy v2.toNatClampNeg)).toInt64) (o_sums v1.toNatClampNeg) v1 o_level o_noRings o_noTones o_noFuel o_pieces o_drags o_all o_noPieces o_noDrags o_sets o_ringFar o_ringTone o_currents o_warmths o_code o_cellAt o_courseAt o_paceAt o_turnsAt o_slowAt o_fuelAt o_ringAt o_pieceParts o_dragCell o_dragBy o_sums
      else
        f_X7_ends_B245 k130 k197 v1 v2 8 (o_sums v1.toNatClampNeg) v1 o_level o_noRings o_noTones o_noFuel o_pieces o_drags o_all o_noPieces o_noDrags o_sets o_ringFar o_ringTone o_currents o_warmths o_code o_cellAt o_courseAt o_paceAt o_turnsAt o_slowAt o_fuelAt o_ringAt o_pieceParts o_dragCell o_dragBy o_sums
    else
      f_X7_ends_B253 k130 v1 o_level o_noRings o_noTones o_noFuel o_pieces o_drags o_all o_noPieces o_noDrags o_sets o_ringFar o_ringTone o_currents o_warmths o_code o_cellAt o_courseAt o_paceAt o_turnsAt o_slowAt o_fuelAt o_ringAt o_pieceParts o_dragCell o_dragBy o_sums
def f_X7_ends_L197 (k130 : Int32 → Int32 → Int32 → Int32 → Int32 → Int32 → Int32 → Int64 → Int32 → Int32 → (Nat → Int32) → (Nat → Int32) → (Nat → Int32) → (Nat → Int32) → (Nat → Int32) → (Nat → Int32) → (Nat → Int32) → (Nat → Int32) → (Nat → Int32) → (Nat → Int32) → (Nat → Int32) → (Nat → Int32) → (Nat → Int32) → (Nat → Int32) → (Nat → Int32) → (Nat → Int32) → (Nat → Int64) → Option (Int32 × Int64 × (Nat → Int32) × (Nat → Int32) × (Nat → Int32) × (Nat → Int32) × (Nat → Int32) × (Nat → Int32) × (Nat → Int32) × (Nat → Int32) × (Nat → Int64))) : Nat → Int32 → Int32 → Int32 → Int32 → Int32 → Int32 → Int32 → Int32 → Int64 → Int32 → Int32 → (Nat → Int32) → (Nat → Int32) → (Nat → Int32) → (Nat → Int32) → (Nat → Int32) → (Nat → Int32) → (Nat → Int32) → (Nat → Int32) → (Nat → Int32) → (Nat → Int32) → (Nat → Int32) → (Nat → Int32) → (Nat → Int32) → (Nat → Int32) → (Nat → Int32) → (Nat → Int32) → (Nat → Int64) → Option (Int32 × Int64 × (Nat → Int32) × (Nat → Int32) × (Nat → Int32) × (Nat → Int32) × (Nat → Int32) × (Nat → Int32) × (Nat → Int32) × (Nat → Int32) × (Nat → Int64))
  | 0 => fun _ _ _ _ _ _ _ _ _ _ _ _ _ _ _ _ _ _ _ _ _ _ _ _ _ _ _ _ => none
  | n + 1 => f_X7_ends_L197b k130 (f_X7_ends_L197 k130 n)
def f_X7_ends_B187 (k130 : Int32 → Int32 → Int32 → Int32 → Int32 → Int32 → Int32 → Int64 → Int32 → Int32 → (Nat → Int32) → (Nat → Int32) → (Nat → Int32) → (Nat → Int32) → (Nat → Int32) → (Nat → Int32) → (Nat → Int32) → (Nat → Int32) → (Nat → Int32) → (Nat → Int32) → (Nat → Int32) → (Nat → Int32) → (Nat → Int32) → (Nat → Int32) → (Nat → Int32) → (Nat → Int32) → (Nat → Int64) → Option (Int32 × Int64 × (Nat → Int32) × (Nat → Int32) × (Nat → Int32) × (Nat → Int32) × (Nat → Int32) × (Nat → Int32) × (Nat → Int32) × (Nat → Int32) × (Nat → Int64))) (k138 : Int32 → Int32 → Int32 → Int32 → Int32 → Int32 → Int32 → Int32 → Int64 → Int32 → Int32 → (Nat → Int32) → (Nat → Int32) → (Nat → Int32) → (Nat → Int32) → (Nat → Int32) → (Nat → Int32) → (Nat → Int32) → (Nat → Int32) → (Nat → Int32) → (Nat → Int32) → (Nat → Int32) → (Nat → Int32) → (Nat → Int32) → (Nat → Int32) → (Nat → Int32) → (Nat → Int32) → (Nat → Int64) → Option (Int32 × Int64 × (Nat → Int32) × (Nat → Int32) × (Nat → Int32) × (Nat → Int32) × (Nat → Int32) × (Nat → Int32) × (Nat → Int32) × (Nat → Int32) × (Nat → Int64))) (v1 : Int32) (v2 : Int32) (y0 : Int64) (y1 : Int64) (y2 : Int32) (o_level : Int32) (o_noRings : Int32) (o_noTones : Int32) (o_noFuel : Int32) (o_pieces : Int32) (o_drags : Int32) (o_all : Int64) (o_noPieces : Int32) (o_noDrags : Int32) (o_sets : Nat → Int32) (o_ringFar : Nat → Int32) (o_ringTone : Nat → Int32) (o_currents : Nat → Int32) (o_warmths : Nat → Int32) (o_code : Nat → Int32) (o_cellAt : Nat → Int32) (o_courseAt : Nat → Int32) (o_paceAt : Nat → Int32) (o_turnsAt : Nat → Int32) (o_slowAt : Nat → Int32) (o_fuelAt : Nat → Int32) (o_ringAt : Nat → Int32) (o_pieceParts : Nat → Int32) (o_dragCell : Nat → Int32) (o_dragBy : Nat → Int32) (o_sums : Nat → Int64) : Option (Int32 × Int64 × (Nat → Int32) × (Nat → Int32) × (Nat → Int32) × (Nat → Int32) × (Nat → Int32) × (Nat → Int32) × (Nat → Int32) × (Nat → Int32) × (Nat → Int64)) :=
  nm (y1 * y0) fun x_5 =>
  chk (¬ (y2 < 0 ∨ 100 ≤ y2.toNatClampNeg)) <|
  nm (v2 + 1) fun x_6 =>
  k138 v1 x_6 o_level o_noRings o_noTones o_noFuel o_pieces o_drags o_all o_noPieces o_noDrags o_sets o_ringFar o_ringTone o_currents o_warmths o_code o_cellAt o_courseAt o_paceAt o_turnsAt o_slowAt o_fuelAt o_ringAt o_pieceParts o_dragCell o_dragBy (vp_updL o_sums y2.toNatClampNeg x_5)
def f_X7_ends_B176 (k130 : Int32 → Int32 → Int32 → Int32 → Int32 → Int32 → Int32 → Int64 → Int32 → Int32 → (Nat → Int32) → (Nat → Int32) → (Nat → Int32) → (Nat → Int32) → (Nat → Int32) → (Nat → Int32) → (Nat → Int32) → (Nat → Int32) → (Nat → Int32) → (Nat → Int32) → (Nat → Int32) → (Nat → Int32) → (Nat → Int32) → (Nat → Int32) → (Nat → Int32) → (Nat → Int32) → (Nat → Int64) → Option (Int32 × Int64 × (Nat → Int32) × (Nat → Int32) × (Nat → Int32) × (Nat → Int32) × (Nat → Int32) × (Nat → Int32) × (Nat → Int32) × (Nat → Int32) × (Nat → Int64))) (k138 : Int32 → Int32 → Int32 → Int32 → Int32 → Int32 → Int32 → Int32 → Int64 → Int32 → Int32 → (Nat → Int32) → (Nat → Int32) → (Nat → Int32) → (Nat → Int32) → (Nat → Int32) → (Nat → Int32) → (Nat → Int32) → (Nat → Int32) → (Nat → Int32) → (Nat → Int32) → (Nat → Int32) → (Nat → Int32) → (Nat → Int32) → (Nat → Int32) → (Nat → Int32) → (Nat → Int32) → (Nat → Int64) → Option (Int32 × Int64 × (Nat → Int32) × (Nat → Int32) × (Nat → Int32) × (Nat → Int32) × (Nat → Int32) × (Nat → Int32) × (Nat → Int32) × (Nat → Int32) × (Nat → Int64))) (v1 : Int32) (v2 : Int32) (y0 : Int64) (y1 : Int32) (o_level : Int32) (o_noRings : Int32) (o_noTones : Int32) (o_noFuel : Int32) (o_pieces : Int32) (o_drags : Int32) (o_all : Int64) (o_noPieces : Int32) (o_noDrags : Int32) (o_sets : Nat → Int32) (o_ringFar : Nat → Int32) (o_ringTone : Nat → Int32) (o_currents : Nat → Int32) (o_warmths : Nat → Int32) (o_code : Nat → Int32) (o_cellAt : Nat → Int32) (o_courseAt : Nat → Int32) (o_paceAt : Nat → Int32) (o_turnsAt : Nat → Int32) (o_slowAt : Nat → Int32) (o_fuelAt : Nat → Int32) (o_ringAt : Nat → Int32) (o_pieceParts : Nat → Int32) (o_dragCell : Nat → Int32) (o_dragBy : Nat → Int32) (o_sums : Nat → Int64) : Option (Int32 × Int64 × (Nat → Int32) × (Nat → Int32) × (Nat → Int32) × (Nat → Int32) × (Nat → Int32) × (Nat → Int32) × (Nat → Int32) × (Nat → Int32) × (Nat → Int64)) :=
  f_X7_ends_B187 k130 k138 v1 v2 1 y0 y1 o_level o_noRings o_noTones o_noFuel o_pieces o_drags o_all o_noPieces o_noDrags o_sets o_ringFar o_ringTone o_currents o_warmths o_code o_cellAt o_courseAt o_paceAt o_turnsAt o_slowAt o_fuelAt o_ringAt o_pieceParts o_dragCell o_dragBy o_sums
def f_X7_ends_L138b (k130 : Int32 → Int32 → Int32 → Int32 → Int32 → Int32 → Int32 → Int64 → Int32 → Int32 → (Nat → Int32) → (Nat → Int32) → (Nat → Int32) → (Nat → Int32) → (Nat → Int32) → (Nat → Int32) → (Nat → Int32) → (Nat → Int32) → (Nat → Int32) → (Nat → Int32) → (Nat → Int32) → (Nat → Int32) → (Nat → Int32) → (Nat → Int32) → (Nat → Int32) → (Nat → Int32) → (Nat → Int64) → Option (Int32 × Int64 × (Nat → Int32) × (Nat → Int32) × (Nat → Int32) × (Nat → Int32) × (Nat → Int32) × (Nat → Int32) × (Nat → Int32) × (Nat → Int32) × (Nat → Int64))) (k138 : Int32 → Int32 → Int32 → Int32 → Int32 → Int32 → Int32 → Int32 → Int64 → Int32 → Int32 → (Nat → Int32) → (Nat → Int32) → (Nat → Int32) → (Nat → Int32) → (Nat → Int32) → (Nat → Int32) → (Nat → Int32) → (Nat → Int32) → (Nat → Int32) → (Nat → Int32) → (Nat → Int32) → (Nat → Int32) → (Nat → Int32) → (Nat → Int32) → (Nat → Int32) → (Nat → Int32) → (Nat → Int64) → Option (Int32 × Int64 × (Nat → Int32) × (Nat → Int32) × (Nat → Int32) × (Nat → Int32) × (Nat → Int32) × (Nat → Int32) × (Nat → Int32) × (Nat → Int32) × (Nat → Int64))) (v1 : Int32) (v2 : Int32) (o_level : Int32) (o_noRings : Int32) (o_noTones : Int32) (o_noFuel : Int32) (o_pieces : Int32) (o_drags : Int32) (o_all : Int64) (o_noPieces : Int32) (o_noDrags : Int32) (o_sets : Nat → Int32) (o_ringFar : Nat → Int32) (o_ringTone : Nat → Int32) (o_currents : Nat → Int32) (o_warmths : Nat → Int32) (o_code : Nat → Int32) (o_cellAt : Nat → Int32) (o_courseAt : Nat → Int32) (o_paceAt : Nat → Int32) (o_turnsAt : Nat → Int32) (o_slowAt : Nat → Int32) (o_fuelAt : Nat → Int32) (o_ringAt : Nat → Int32) (o_pieceParts : Nat → Int32) (o_dragCell : Nat → Int32) (o_dragBy : Nat → Int32) (o_sums : Nat → Int64) : Option (Int32 × Int64 × (Nat → Int32) × (Nat → Int32) × (Nat → Int32) × (Nat → Int32) × (Nat → Int32) × (Nat → Int32) × (Nat → Int32) × (Nat → Int32) × (Nat → Int64)) :=
  if o_pieces ≤ v2 then
    f_X7_ends_L197 k130 FU v1 0 o_level o_noRings o_noTones o_noFuel o_pieces o_drags o_all o_noPieces o_noDrags o_sets o_ringFar o_ringTone o_currents o_warmths o_code o_cellAt o_courseAt o_paceAt o_turnsAt o_slowAt o_fuelAt o_ringAt o_pieceParts o_dragCell o_dragBy o_sums
  else
    chk (¬ (v1 < 0 ∨ 100 ≤ v1.toNatClampNeg)) <|
    chk (¬ (v1 < 0 ∨ 100 ≤ v1.toNatClampNeg)) <|
    if (lg_cmp (o_sums v1.toNatClampNeg) 0) = 0 then
      f_X7_ends_B176 k130 k138 v1 v2 (o_sums v1.toNatClampNeg) v1 o_level o_noRings o_noTones o_noFuel o_pieces o_drags o_all o_noPieces o_noDrags o_sets o_ringFar o_ringTone o_currents o_warmths o_code o_cellAt o_courseAt o_paceAt o_turnsAt o_slowAt o_fuelAt o_ringAt o_pieceParts o_dragCell o_dragBy o_sums
    else
      if ((o_noPieces >>> (v2 &&& 31)) &&& 1) = 1 then
        f_X7_ends_B176 k130 k138 v1 v2 (o_sums v1.toNatClampNeg) v1 o_level o_noRings o_noTones o_noFuel o_pieces o_drags o_all o_noPieces o_noDrags o_sets o_ringFar o_ringTone o_currents o_warmths o_code o_cellAt o_courseAt o_paceAt o_turnsAt o_slowAt o_fuelAt o_ringAt o_pieceParts o_dragCell o_dragBy o_sums
      else
        bd1 (f_X7_fit v2 v1 o_sets o_currents o_warmths o_pieceParts) fun r_7 =>
        f_X7_ends_B187 k130 k138 v1 v2 r_7.toInt64 (o_sums v1.toNatClampNeg) v1 o_level o_noRings o_noTones o_noFuel o_pieces o_drags o_all o_noPieces o_noDrags o_sets o_ringFar o_ringTone o_currents o_warmths o_code o_cellAt o_courseAt o_paceAt o_turnsAt o_slowAt o_fuelAt o_ringAt o_pieceParts o_dragCell o_dragBy o_sums
def f_X7_ends_L138 (k130 : Int32 → Int32 → Int32 → Int32 → Int32 → Int32 → Int32 → Int64 → Int32 → Int32 → (Nat → Int32) → (Nat → Int32) → (Nat → Int32) → (Nat → Int32) → (Nat → Int32) → (Nat → Int32) → (Nat → Int32) → (Nat → Int32) → (Nat → Int32) → (Nat → Int32) → (Nat → Int32) → (Nat → Int32) → (Nat → Int32) → (Nat → Int32) → (Nat → Int32) → (Nat → Int32) → (Nat → Int64) → Option (Int32 × Int64 × (Nat → Int32) × (Nat → Int32) × (Nat → Int32) × (Nat → Int32) × (Nat → Int32) × (Nat → Int32) × (Nat → Int32) × (Nat → Int32) × (Nat → Int64))) : Nat → Int32 → Int32 → Int32 → Int32 → Int32 → Int32 → Int32 → Int32 → Int64 → Int32 → Int32 → (Nat → Int32) → (Nat → Int32) → (Nat → Int32) → (Nat → Int32) → (Nat → Int32) → (Nat → Int32) → (Nat → Int32) → (Nat → Int32) → (Nat → Int32) → (Nat → Int32) → (Nat → Int32) → (Nat → Int32) → (Nat → Int32) → (Nat → Int32) → (Nat → Int32) → (Nat → Int32) → (Nat → Int64) → Option (Int32 × Int64 × (Nat → Int32) × (Nat → Int32) × (Nat → Int32) × (Nat → Int32) × (Nat → Int32) × (Nat → Int32) × (Nat → Int32) × (Nat → Int32) × (Nat → Int64))
  | 0 => fun _ _ _ _ _ _ _ _ _ _ _ _ _ _ _ _ _ _ _ _ _ _ _ _ _ _ _ _ => none
  | n + 1 => f_X7_ends_L138b k130 (f_X7_ends_L138 k130 n)
def f_X7_ends_L130b (k130 : Int32 → Int32 → Int32 → Int32 → Int32 → Int32 → Int32 → Int64 → Int32 → Int32 → (Nat → Int32) → (Nat → Int32) → (Nat → Int32) → (Nat → Int32) → (Nat → Int32) → (Nat → Int32) → (Nat → Int32) → (Nat → Int32) → (Nat → Int32) → (Nat → Int32) → (Nat → Int32) → (Nat → Int32) → (Nat → Int32) → (Nat → Int32) → (Nat → Int32) → (Nat → Int32) → (Nat → Int64) → Option (Int32 × Int64 × (Nat → Int32) × (Nat → Int32) × (Nat → Int32) × (Nat → Int32) × (Nat → Int32) × (Nat → Int32) × (Nat → Int32) × (Nat → Int32) × (Nat → Int64))) (v1 : Int32) (o_level : Int32) (o_noRings : Int32) (o_noTones : Int32) (o_noFuel : Int32) (o_pieces : Int32) (o_drags : Int32) (o_all : Int64) (o_noPieces : Int32) (o_noDrags : Int32) (o_sets : Nat → Int32) (o_ringFar : Nat → Int32) (o_ringTone : Nat → Int32) (o_currents : Nat → Int32) (o_warmths : Nat → Int32) (o_code : Nat → Int32) (o_cellAt : Nat → Int32) (o_courseAt : Nat → Int32) (o_paceAt : Nat → Int32) (o_turnsAt : Nat → Int32) (o_slowAt : Nat → Int32) (o_fuelAt : Nat → Int32) (o_ringAt : Nat → Int32) (o_pieceParts : Nat → Int32) (o_dragCell : Nat → Int32) (o_dragBy : Nat → Int32) (o_sums : Nat → Int64) : Option (Int32 × Int64 × (Nat → Int32) × (Nat → Int32) × (Nat → Int32) × (Nat → Int32) × (Nat → Int32) × (Nat → Int32) × (Nat → Int32) × (Nat → Int32) × (Nat → Int64)) :=
  if 100 ≤ v1 then
    some (o_level, o_all, o_code, o_cellAt, o_courseAt, o_paceAt, o_turnsAt, o_slowAt, o_fuelAt, o_ringAt, o_sums)
  else
    f_X7_ends_L138 k130 FU v1 0 o_level o_noRings o_noTones o_noFuel o_pieces o_drags o_all o_noPieces o_noDrags o_sets o_ringFar o_ringTone o_currents o_warmths o_code o_cellAt o_courseAt o_paceAt o_turnsAt o_slowAt o_fuelAt o_ringAt o_pieceParts o_dragCell o_dragBy o_sums
def f_X7_ends_L130 : Nat → Int32 → Int32 → Int32 → Int32 → Int32 → Int32 → Int32 → Int64 → Int32 → Int32 → (Nat → Int32) → (Nat → Int32) → (Nat → Int32) → (Nat → Int32) → (Nat → Int32) → (Nat → Int32) → (Nat → Int32) → (Nat → Int32) → (Nat → Int32) → (Nat → Int32) → (Nat → Int32) → (Nat → Int32) → (Nat → Int32) → (Nat → Int32) → (Nat → Int32) → (Nat → Int32) → (Nat → Int64) → Option (Int32 × Int64 × (Nat → Int32) × (Nat → Int32) × (Nat → Int32) × (Nat → Int32) × (Nat → Int32) × (Nat → Int32) × (Nat → Int32) × (Nat → Int32) × (Nat → Int64))
  | 0 => fun _ _ _ _ _ _ _ _ _ _ _ _ _ _ _ _ _ _ _ _ _ _ _ _ _ _ _ => none
  | n + 1 => f_X7_ends_L130b (f_X7_ends_L130 n)
def f_X7_ends_B114 (k25 : Int32 → Int32 → Int32 → Int32 → Int32 → Int32 → Int64 → Int32 → Int32 → (Nat → Int32) → (Nat → Int32) → (Nat → Int32) → (Nat → Int32) → (Nat → Int32) → (Nat → Int32) → (Nat → Int32) → (Nat → Int32) → (Nat → Int32) → (Nat → Int32) → (Nat → Int32) → (Nat → Int32) → (Nat → Int32) → (Nat → Int32) → (Nat → Int32) → (Nat → Int32) → (Nat → Int64) → Option (Int32 × Int64 × (Nat → Int32) × (Nat → Int32) × (Nat → Int32) × (Nat → Int32) × (Nat → Int32) × (Nat → Int32) × (Nat → Int32) × (Nat → Int32) × (Nat → Int64))) (k66 : Int32 → Int32 → Int32 → Int32 → Int32 → Int32 → Int32 → Int32 → Int32 → Int64 → Int32 → Int32 → (Nat → Int32) → (Nat → Int32) → (Nat → Int32) → (Nat → Int32) → (Nat → Int32) → (Nat → Int32) → (Nat → Int32) → (Nat → Int32) → (Nat → Int32) → (Nat → Int32) → (Nat → Int32) → (Nat → Int32) → (Nat → Int32) → (Nat → Int32) → (Nat → Int32) → (Nat → Int32) → (Nat → Int64) → Option (Int32 × Int64 × (Nat → Int32) × (Nat → Int32) × (Nat → Int32) × (Nat → Int32) × (Nat → Int32) × (Nat → Int32) × (Nat → Int32) × (Nat → Int32) × (Nat → Int64))) (v1 : Int32) (v2 : Int32) (v3 : Int32) (o_level : Int32) (o_noRings : Int32) (o_noTones : Int32) (o_noFuel : Int32) (o_pieces : Int32) (o_drags : Int32) (o_all : Int64) (o_noPieces : Int32) (o_noDrags : Int32) (o_sets : Nat → Int32) (o_ringFar : Nat → Int32) (o_ringTone : Nat → Int32) (o_currents : Nat → Int32) (o_warmths : Nat → Int32) (o_code : Nat → Int32) (o_cellAt : Nat → Int32) (o_courseAt : Nat → Int32) (o_paceAt : Nat → Int32) (o_turnsAt : Nat → Int32) (o_slowAt : Nat → Int32) (o_fuelAt : Nat → Int32) (o_ringAt : Nat → Int32) (o_pieceParts : Nat → Int32) (o_dragCell : Nat → Int32) (o_dragBy : Nat → Int32) (o_sums : Nat → Int64) : Option (Int32 × Int64 × (Nat → Int32) × (Nat → Int32) × (Nat → Int32) × (Nat → Int32) × (Nat → Int32) × (Nat → Int32) × (Nat → Int32) × (Nat → Int32) × (Nat → Int64)) :=
  nm (v3 + 1) fun x_8 =>
  k66 v1 v2 x_8 o_level o_noRings o_noTones o_noFuel o_pieces o_drags o_all o_noPieces o_noDrags o_sets o_ringFar o_ringTone o_currents o_warmths o_code o_cellAt o_courseAt o_paceAt o_turnsAt o_slowAt o_fuelAt o_ringAt o_pieceParts o_dragCell o_dragBy o_sums
def f_X7_ends_L66b (k25 : Int32 → Int32 → Int32 → Int32 → Int32 → Int32 → Int64 → Int32 → Int32 → (Nat → Int32) → (Nat → Int32) → (Nat → Int32) → (Nat → Int32) → (Nat → Int32) → (Nat → Int32) → (Nat → Int32) → (Nat → Int32) → (Nat → Int32) → (Nat → Int32) → (Nat → Int32) → (Nat → Int32) → (Nat → Int32) → (Nat → Int32) → (Nat → Int32) → (Nat → Int32) → (Nat → Int64) → Option (Int32 × Int64 × (Nat → Int32) × (Nat → Int32) × (Nat → Int32) × (Nat → Int32) × (Nat → Int32) × (Nat → Int32) × (Nat → Int32) × (Nat → Int32) × (Nat → Int64))) (k66 : Int32 → Int32 → Int32 → Int32 → Int32 → Int32 → Int32 → Int32 → Int32 → Int64 → Int32 → Int32 → (Nat → Int32) → (Nat → Int32) → (Nat → Int32) → (Nat → Int32) → (Nat → Int32) → (Nat → Int32) → (Nat → Int32) → (Nat → Int32) → (Nat → Int32) → (Nat → Int32) → (Nat → Int32) → (Nat → Int32) → (Nat → Int32) → (Nat → Int32) → (Nat → Int32) → (Nat → Int32) → (Nat → Int64) → Option (Int32 × Int64 × (Nat → Int32) × (Nat → Int32) × (Nat → Int32) × (Nat → Int32) × (Nat → Int32) × (Nat → Int32) × (Nat → Int32) × (Nat → Int32) × (Nat → Int64))) (v1 : Int32) (v2 : Int32) (v3 : Int32) (o_level : Int32) (o_noRings : Int32) (o_noTones : Int32) (o_noFuel : Int32) (o_pieces : Int32) (o_drags : Int32) (o_all : Int64) (o_noPieces : Int32) (o_noDrags : Int32) (o_sets : Nat → Int32) (o_ringFar : Nat → Int32) (o_ringTone : Nat → Int32) (o_currents : Nat → Int32) (o_warmths : Nat → Int32) (o_code : Nat → Int32) (o_cellAt : Nat → Int32) (o_courseAt : Nat → Int32) (o_paceAt : Nat → Int32) (o_turnsAt : Nat → Int32) (o_slowAt : Nat → Int32) (o_fuelAt : Nat → Int32) (o_ringAt : Nat → Int32) (o_pieceParts : Nat → Int32) (o_dragCell : Nat → Int32) (o_dragBy : Nat → Int32) (o_sums : Nat → Int64) : Option (Int32 × Int64 × (Nat → Int32) × (Nat → Int32) × (Nat → Int32) × (Nat → Int32) × (Nat → Int32) × (Nat → Int32) × (Nat → Int32) × (Nat → Int32) × (Nat → Int64)) :=
  if (o_sets 6) < v3 then
    k25 o_level o_noRings o_noTones o_noFuel o_pieces o_drags o_all o_noPieces o_noDrags o_sets o_ringFar o_ringTone o_currents o_warmths o_code o_cellAt o_courseAt o_paceAt o_turnsAt o_slowAt o_fuelAt o_ringAt o_pieceParts o_dragCell o_dragBy o_sums
  else
    chk (¬ (v1 < 0 ∨ 7 ≤ v1.toNatClampNeg)) <|
    chk (¬ (v1 - 1 < 0 ∨ 7 ≤ (v1 - 1).toNatClampNeg)) <|
    bd1 (f_X7_gone (o_cellAt v1.toNatClampNeg) (o_courseAt (v1 - 1).toNatClampNeg) v3) fun r_9 =>
    if r_9 < 0 then
      f_X7_ends_B114 k25 k66 v1 v2 v3 o_level o_noRings o_noTones o_noFuel o_pieces o_drags o_all o_noPieces o_noDrags o_sets o_ringFar o_ringTone o_currents o_warmths o_code o_cellAt o_courseAt o_paceAt o_turnsAt o_slowAt o_fuelAt o_ringAt o_pieceParts o_dragCell o_dragBy o_sums
    else
      chk (¬ (r_9 < 0 ∨ 100 ≤ r_9.toNatClampNeg)) <|
      nm ((o_sums r_9.toNatClampNeg) + v2.toInt64) fun x_10 =>
      chk (¬ (r_9 < 0 ∨ 100 ≤ r_9.toNatClampNeg)) <|
      f_X7_ends_B114 k25 k66 v1 v2 v3 o_level o_noRings o_noTones o_noFuel o_pieces o_drags o_all o_noPieces o_noDrags o_sets o_ringFar o_ringTone o_currents o_warmths o_code o_cellAt o_courseAt o_paceAt o_turnsAt o_slowAt o_fuelAt o_ringAt o_pieceParts o_dragCell o_dragBy (vp_updL o_sums r_9.toNatClampNeg x_10)
def f_X7_ends_L66 (k25 : Int32 → Int32 → Int32 → Int32 → Int32 → Int32 → Int64 → Int32 → Int32 → (Nat → Int32) → (Nat → Int32) → (Nat → Int32) → (Nat → Int32) → (Nat → Int32) → (Nat → Int32) → (Nat → Int32) → (Nat → Int32) → (Nat → Int32) → (Nat → Int32) → (Nat → Int32) → (Nat → Int32) → (Nat → Int32) → (Nat → Int32) → (Nat → Int32) → (Nat → Int32) → (Nat → Int64) → Option (Int32 × Int64 × (Nat → Int32) × (Nat → Int32) × (Nat → Int32) × (Nat → Int32) × (Nat → Int32) × (Nat → Int32) × (Nat → Int32) × (Nat → Int32) × (Nat → Int64))) : Nat → Int32 → Int32 → Int32 → Int32 → Int32 → Int32 → Int32 → Int32 → Int32 → Int64 → Int32 → Int32 → (Nat → Int32) → (Nat → Int32) → (Nat → Int32) → (Nat → Int32) → (Nat → Int32) → (Nat → Int32) → (Nat → Int32) → (Nat → Int32) → (Nat → Int32) → (Nat → Int32) → (Nat → Int32) → (Nat → Int32) → (Nat → Int32) → (Nat → Int32) → (Nat → Int32) → (Nat → Int32) → (Nat → Int64) → Option (Int32 × Int64 × (Nat → Int32) × (Nat → Int32) × (Nat → Int32) × (Nat → Int32) × (Nat → Int32) × (Nat → Int32) × (Nat → Int32) × (Nat → Int32) × (Nat → Int64))
  | 0 => fun _ _ _ _ _ _ _ _ _ _ _ _ _ _ _ _ _ _ _ _ _ _ _ _ _ _ _ _ _ => none
  | n + 1 => f_X7_ends_L66b k25 (f_X7_ends_L66 k25 n)
def f_X7_ends_L25b (k25 : Int32 → Int32 → Int32 → Int32 → Int32 → Int32 → Int64 → Int32 → Int32 → (Nat → Int32) → (Nat → Int32) → (Nat → Int32) → (Nat → Int32) → (Nat → Int32) → (Nat → Int32) → (Nat → Int32) → (Nat → Int32) → (Nat → Int32) → (Nat → Int32) → (Nat → Int32) → (Nat → Int32) → (Nat → Int32) → (Nat → Int32) → (Nat → Int32) → (Nat → Int32) → (Nat → Int64) → Option (Int32 × Int64 × (Nat → Int32) × (Nat → Int32) × (Nat → Int32) × (Nat → Int32) × (Nat → Int32) × (Nat → Int32) × (Nat → Int32) × (Nat → Int32) × (Nat → Int64))) (o_level : Int32) (o_noRings : Int32) (o_noTones : Int32) (o_noFuel : Int32) (o_pieces : Int32) (o_drags : Int32) (o_all : Int64) (o_noPieces : Int32) (o_noDrags : Int32) (o_sets : Nat → Int32) (o_ringFar : Nat → Int32) (o_ringTone : Nat → Int32) (o_currents : Nat → Int32) (o_warmths : Nat → Int32) (o_code : Nat → Int32) (o_cellAt : Nat → Int32) (o_courseAt : Nat → Int32) (o_paceAt : Nat → Int32) (o_turnsAt : Nat → Int32) (o_slowAt : Nat → Int32) (o_fuelAt : Nat → Int32) (o_ringAt : Nat → Int32) (o_pieceParts : Nat → Int32) (o_dragCell : Nat → Int32) (o_dragBy : Nat → Int32) (o_sums : Nat → Int64) : Option (Int32 × Int64 × (Nat → Int32) × (Nat → Int32) × (Nat → Int32) × (Nat → Int32) × (Nat → Int32) × (Nat → Int32) × (Nat → Int32) × (Nat → Int32) × (Nat → Int64)) :=
  bd10 (f_X7_goesOn o_level o_noRings o_noTones o_noFuel o_sets o_ringFar o_ringTone o_code o_cellAt o_courseAt o_paceAt o_turnsAt o_slowAt o_fuelAt o_ringAt) fun r_11 w_12 w_13 w_14 w_15 w_16 w_17 w_18 w_19 w_20 =>
  if r_11 = 0 then
    f_X7_ends_L130 FU 0 w_12 o_noRings o_noTones o_noFuel o_pieces o_drags 0 o_noPieces o_noDrags o_sets o_ringFar o_ringTone o_currents o_warmths w_13 w_14 w_15 w_16 w_17 w_18 w_19 w_20 o_pieceParts o_dragCell o_dragBy o_sums
  else
    nm (o_sets 2) fun x_21 =>
    bd1 (f_X7_heavy o_sets w_17 w_18 w_20) fun r_22 =>
    chk (¬ (x_21 < 0 ∨ 7 ≤ x_21.toNatClampNeg)) <|
    nm (w_14 x_21.toNatClampNeg) fun x_23 =>
    chk (¬ (x_23 < 0 ∨ 100 ≤ x_23.toNatClampNeg)) <|
    nm ((o_sums x_23.toNatClampNeg) + (2 * r_22.toInt64)) fun x_24 =>
    chk (¬ (x_23 < 0 ∨ 100 ≤ x_23.toNatClampNeg)) <|
    f_X7_ends_L66 k25 FU x_21 r_22 1 w_12 o_noRings o_noTones o_noFuel o_pieces o_drags o_all o_noPieces o_noDrags o_sets o_ringFar o_ringTone o_currents o_warmths w_13 w_14 w_15 w_16 w_17 w_18 w_19 w_20 o_pieceParts o_dragCell o_dragBy (vp_updL o_sums x_23.toNatClampNeg x_24)
def f_X7_ends_L25 : Nat → Int32 → Int32 → Int32 → Int32 → Int32 → Int32 → Int64 → Int32 → Int32 → (Nat → Int32) → (Nat → Int32) → (Nat → Int32) → (Nat → Int32) → (Nat → Int32) → (Nat → Int32) → (Nat → Int32) → (Nat → Int32) → (Nat → Int32) → (Nat → Int32) → (Nat → Int32) → (Nat → Int32) → (Nat → Int32) → (Nat → Int32) → (Nat → Int32) → (Nat → Int32) → (Nat → Int64) → Option (Int32 × Int64 × (Nat → Int32) × (Nat → Int32) × (Nat → Int32) × (Nat → Int32) × (Nat → Int32) × (Nat → Int32) × (Nat → Int32) × (Nat → Int32) × (Nat → Int64))
  | 0 => fun _ _ _ _ _ _ _ _ _ _ _ _ _ _ _ _ _ _ _ _ _ _ _ _ _ _ => none
  | n + 1 => f_X7_ends_L25b (f_X7_ends_L25 n)
def f_X7_ends_L2b (k2 : Int32 → Int32 → Int32 → Int32 → Int32 → Int32 → Int32 → Int64 → Int32 → Int32 → (Nat → Int32) → (Nat → Int32) → (Nat → Int32) → (Nat → Int32) → (Nat → Int32) → (Nat → Int32) → (Nat → Int32) → (Nat → Int32) → (Nat → Int32) → (Nat → Int32) → (Nat → Int32) → (Nat → Int32) → (Nat → Int32) → (Nat → Int32) → (Nat → Int32) → (Nat → Int32) → (Nat → Int64) → Option (Int32 × Int64 × (Nat → Int32) × (Nat → Int32) × (Nat → Int32) × (Nat → Int32) × (Nat → Int32) × (Nat → Int32) × (Nat → Int32) × (Nat → Int32) × (Nat → Int64))) (v1 : Int32) (o_level : Int32) (o_noRings : Int32) (o_noTones : Int32) (o_noFuel : Int32) (o_pieces : Int32) (o_drags : Int32) (o_all : Int64) (o_noPieces : Int32) (o_noDrags : Int32) (o_sets : Nat → Int32) (o_ringFar : Nat → Int32) (o_ringTone : Nat → Int32) (o_currents : Nat → Int32) (o_warmths : Nat → Int32) (o_code : Nat → Int32) (o_cellAt : Nat → Int32) (o_courseAt : Nat → Int32) (o_paceAt : Nat → Int32) (o_turnsAt : Nat → Int32) (o_slowAt : Nat → Int32) (o_fuelAt : Nat → Int32) (o_ringAt : Nat → Int32) (o_pieceParts : Nat → Int32) (o_dragCell : Nat → Int32) (o_dragBy : Nat → Int32) (o_sums : Nat → Int64) : Option (Int32 × Int64 × (Nat → Int32) × (Nat → Int32) × (Nat → Int32) × (Nat → Int32) × (Nat → Int32) × (Nat → Int32) × (Nat → Int32) × (Nat → Int32) × (Nat → Int64)) :=
  if 100 ≤ v1 then
    bd7 (f_X7_begins o_level o_sets o_code o_cellAt o_turnsAt o_slowAt o_fuelAt o_ringAt) fun w_25 w_26 w_27 w_28 w_29 w_30 w_31 =>
    f_X7_ends_L25 FU w_25 o_noRings o_noTones o_noFuel o_pieces o_drags o_all o_noPieces o_noDrags o_sets o_ringFar o_ringTone o_currents o_warmths w_26 w_27 o_courseAt o_paceAt w_28 w_29 w_30 w_31 o_pieceParts o_dragCell o_dragBy o_sums
  else
    chk (¬ (v1 < 0 ∨ 100 ≤ v1.toNatClampNeg)) <|
    nm (v1 + 1) fun x_32 =>
    k2 x_32 o_level o_noRings o_noTones o_noFuel o_pieces o_drags o_all o_noPieces o_noDrags o_sets o_ringFar o_ringTone o_currents o_warmths o_code o_cellAt o_courseAt o_paceAt o_turnsAt o_slowAt o_fuelAt o_ringAt o_pieceParts o_dragCell o_dragBy (vp_updL o_sums v1.toNatClampNeg 0)
def f_X7_ends_L2 : Nat → Int32 → Int32 → Int32 → Int32 → Int32 → Int32 → Int32 → Int64 → Int32 → Int32 → (Nat → Int32) → (Nat → Int32) → (Nat → Int32) → (Nat → Int32) → (Nat → Int32) → (Nat → Int32) → (Nat → Int32) → (Nat → Int32) → (Nat → Int32) → (Nat → Int32) → (Nat → Int32) → (Nat → Int32) → (Nat → Int32) → (Nat → Int32) → (Nat → Int32) → (Nat → Int32) → (Nat → Int64) → Option (Int32 × Int64 × (Nat → Int32) × (Nat → Int32) × (Nat → Int32) × (Nat → Int32) × (Nat → Int32) × (Nat → Int32) × (Nat → Int32) × (Nat → Int32) × (Nat → Int64))
  | 0 => fun _ _ _ _ _ _ _ _ _ _ _ _ _ _ _ _ _ _ _ _ _ _ _ _ _ _ _ => none
  | n + 1 => f_X7_ends_L2b (f_X7_ends_L2 n)
def f_X7_ends (o_level : Int32) (o_noRings : Int32) (o_noTones : Int32) (o_noFuel : Int32) (o_pieces : Int32) (o_drags : Int32) (o_all : Int64) (o_noPieces : Int32) (o_noDrags : Int32) (o_sets : Nat → Int32) (o_ringFar : Nat → Int32) (o_ringTone : Nat → Int32) (o_currents : Nat → Int32) (o_warmths : Nat → Int32) (o_code : Nat → Int32) (o_cellAt : Nat → Int32) (o_courseAt : Nat → Int32) (o_paceAt : Nat → Int32) (o_turnsAt : Nat → Int32) (o_slowAt : Nat → Int32) (o_fuelAt : Nat → Int32) (o_ringAt : Nat → Int32) (o_pieceParts : Nat → Int32) (o_dragCell : Nat → Int32) (o_dragBy : Nat → Int32) (o_sums : Nat → Int64) : Option (Int32 × Int64 × (Nat → Int32) × (Nat → Int32) × (Nat → Int32) × (Nat → Int32) × (Nat → Int32) × (Nat → Int32) × (Nat → Int32) × (Nat → Int32) × (Nat → Int64)) :=
  f_X7_ends_L2 FU 0 o_level o_noRings o_noTones o_noFuel o_pieces o_drags o_all o_noPieces o_noDrags o_sets o_ringFar o_ringTone o_currents o_warmths o_code o_cellAt o_courseAt o_paceAt o_turnsAt o_slowAt o_fuelAt o_ringAt o_pieceParts o_dragCell o_dragBy o_sums
abbrev rm_X7_ends : Room := { frames := 4, cells := 0, slots := 0, locals := 104 }
set_option maxRecDepth 100000 in
set_option maxHeartbeats 4000000 in
theorem c_X7_ends (l : Launch) (dC : Nat → ClassId) (dI : Nat → Nat → Nat) (cyI cyJ cyO : ClassId) (sz : Nat) (h_o a_o_sets a_o_ringFar a_o_ringTone a_o_currents a_o_warmths a_o_depths a_o_tape a_o_readFar a_o_readTone a_o_readSea a_o_code a_o_cellAt a_o_courseAt a_o_paceAt a_o_turnsAt a_o_slowAt a_o_fuelAt a_o_ringAt a_o_pieceParts a_o_dragCell a_o_dragBy a_o_sums a_o_shares a_o_keptFar a_o_image a_o_lanes a_o_sizes a_o_items a_o_movedItems : Nat) (o_taped : Int32) (o_at : Int32) (o_wrong : Int32) (o_level : Int32) (o_noRings : Int32) (o_noTones : Int32) (o_noFuel : Int32) (o_pieces : Int32) (o_drags : Int32) (o_all : Int64) (o_noPieces : Int32) (o_noDrags : Int32) (o_kept : Int32) (o_sets : Nat → Int32) (o_ringFar : Nat → Int32) (o_ringTone : Nat → Int32) (o_currents : Nat → Int32) (o_warmths : Nat → Int32) (o_code : Nat → Int32) (o_cellAt : Nat → Int32) (o_courseAt : Nat → Int32) (o_paceAt : Nat → Int32) (o_turnsAt : Nat → Int32) (o_slowAt : Nat → Int32) (o_fuelAt : Nat → Int32) (o_ringAt : Nat → Int32) (o_pieceParts : Nat → Int32) (o_dragCell : Nat → Int32) (o_dragBy : Nat → Int32) (o_sums : Nat → Int64) (post : (Int32 × Int64 × (Nat → Int32) × (Nat → Int32) × (Nat → Int32) × (Nat → Int32) × (Nat → Int32) × (Nat → Int32) × (Nat → Int32) × (Nat → Int32) × (Nat → Int64)) → Prop) (hf : okP (f_X7_ends o_level o_noRings o_noTones o_noFuel o_pieces o_drags o_all o_noPieces o_noDrags o_sets o_ringFar o_ringTone o_currents o_warmths o_code o_cellAt o_courseAt o_paceAt o_turnsAt o_slowAt o_fuelAt o_ringAt o_pieceParts o_dragCell o_dragBy o_sums) post) : Cv l (dC, dI) (tyL cyI cyJ cyO) yX7_ends wsX7_ends rm_X7_ends [.ref h_o] sz (W_X7_ends cyI cyJ cyO h_o a_o_sets a_o_ringFar a_o_ringTone a_o_currents a_o_warmths a_o_depths a_o_tape a_o_readFar a_o_readTone a_o_readSea a_o_code a_o_cellAt a_o_courseAt a_o_paceAt a_o_turnsAt a_o_slowAt a_o_fuelAt a_o_ringAt a_o_pieceParts a_o_dragCell a_o_dragBy a_o_sums a_o_shares a_o_keptFar a_o_image a_o_lanes a_o_sizes a_o_items a_o_movedItems o_taped o_at o_wrong o_level o_noRings o_noTones o_noFuel o_pieces o_drags o_all o_noPieces o_noDrags o_kept o_sets o_ringFar o_ringTone o_currents o_warmths o_code o_cellAt o_courseAt o_paceAt o_turnsAt o_slowAt o_fuelAt o_ringAt o_pieceParts o_dragCell o_dragBy o_sums) zN (fun u => post u) (fun u => (W_X7_ends cyI cyJ cyO h_o a_o_sets a_o_ringFar a_o_ringTone a_o_currents a_o_warmths a_o_depths a_o_tape a_o_readFar a_o_readTone a_o_readSea a_o_code a_o_cellAt a_o_courseAt a_o_paceAt a_o_turnsAt a_o_slowAt a_o_fuelAt a_o_ringAt a_o_pieceParts a_o_dragCell a_o_dragBy a_o_sums a_o_shares a_o_keptFar a_o_image a_o_lanes a_o_sizes a_o_items a_o_movedItems o_taped o_at o_wrong u.1 o_noRings o_noTones o_noFuel o_pieces o_drags u.2.1 o_noPieces o_noDrags o_kept o_sets o_ringFar o_ringTone o_currents o_warmths u.2.2.1 u.2.2.2.1 u.2.2.2.2.1 u.2.2.2.2.2.1 u.2.2.2.2.2.2.1 u.2.2.2.2.2.2.2.1 u.2.2.2.2.2.2.2.2.1 u.2.2.2.2.2.2.2.2.2.1 o_pieceParts o_dragCell o_dragBy u.2.2.2.2.2.2.2.2.2.2)) := by
  refine Met.ofW (cc := cX7_ends) (maxL := 5) (ret := none) (by decide) rfl ?_
  intro p e s m args below meth c s₁ B hml hv
  obtain ⟨rfl, hsz, hP, hK, hD0, hZ⟩ := hv
  have hx := B.exec
  have hb := B.bytes
  have hr := B.returns
  have hts := atoms_spec (ws := wsX7_ends) B.pre
  have hown : s.vm.findClass RX7 = some m.cls := findClass_of_methodNamed B.named
  have hlocks := B.notSynchronized
  subst hsz
  have hD := hD0.self (sz := s.heap.size)
  generalize hAe : va_A (W_X7_ends cyI cyJ cyO h_o a_o_sets a_o_ringFar a_o_ringTone a_o_currents a_o_warmths a_o_depths a_o_tape a_o_readFar a_o_readTone a_o_readSea a_o_code a_o_cellAt a_o_courseAt a_o_paceAt a_o_turnsAt a_o_slowAt a_o_fuelAt a_o_ringAt a_o_pieceParts a_o_dragCell a_o_dragBy a_o_sums a_o_shares a_o_keptFar a_o_image a_o_lanes a_o_sizes a_o_items a_o_movedItems o_taped o_at o_wrong o_level o_noRings o_noTones o_noFuel o_pieces o_drags o_all o_noPieces o_noDrags o_kept o_sets o_ringFar o_ringTone o_currents o_warmths o_code o_cellAt o_courseAt o_paceAt o_turnsAt o_slowAt o_fuelAt o_ringAt o_pieceParts o_dragCell o_dragBy o_sums) s.heap.size = A at hD hZ ⊢
  have hA : ∀ q : Nat, s.heap.size ≤ q → A q := fun q h => by rw [← hAe]; exact Or.inr h
  clear hAe hD0
  have hS : va_S A s.heap s.heap [] := va_S.rf
  have hl := lv_entry ([.ref h_o]) (n := 5) (Nat.le_of_ble_eq_true rfl)
  rw [lg_entry_eq]
  generalize (lg_sl ([.ref h_o]) ++ List.replicate (5 - (lg_sl ([.ref h_o])).length) Slot.unset).toArray = ls at hl ⊢
  have hl : lv_has ls 5 [(0, .ref h_o)] := hl
  refine kW (fun Q hQ => ?_)
  have hq0 := hts _ (List.mem_cons_of_mem _ q_737)
  have hi7 : ∀ w ∈ u_ws RX7 TX7 42, w ∈ wsX7_ends := fun w h => List.mem_cons_of_mem _ (inX7 w h)
  have hq2 := hts _ (List.mem_cons_of_mem _ q_736)
  have hq3 := hts _ (List.mem_cons_of_mem _ q_733)
  have hq4 := hts _ (List.mem_cons_of_mem _ q_739)
  have hq5 := hts _ (List.mem_cons_of_mem _ q_734)
  have hq6 := hts _ (List.mem_cons_of_mem _ q_865)
  have hq7 := hts _ (List.mem_cons_of_mem _ q_735)
  have hq8 := hts _ (List.mem_cons_of_mem _ q_731)
  have hq9 := hts _ (List.mem_cons_of_mem _ q_738)
  have hq10 := hts _ (List.mem_cons_of_mem _ q_706)
  have hq11 := hts _ (List.mem_cons_of_mem _ q_720)
  have hq12 := hts _ (List.mem_cons_of_mem _ q_721)
  have hq13 := hts _ (List.mem_cons_of_mem _ q_860)
  have hw := hf
  have w130 : ∀ (n : Nat), ∀ (v1 : Int32) (o_level : Int32) (o_all : Int64) (o_code : Nat → Int32) (o_cellAt : Nat → Int32) (o_courseAt : Nat → Int32) (o_paceAt : Nat → Int32) (o_turnsAt : Nat → Int32) (o_slowAt : Nat → Int32) (o_fuelAt : Nat → Int32) (o_ringAt : Nat → Int32) (o_sums : Nat → Int64) (H : Heap) (locs : List Loc), va_P (dC, dI) vwCl (W_X7_ends cyI cyJ cyO h_o a_o_sets a_o_ringFar a_o_ringTone a_o_currents a_o_warmths a_o_depths a_o_tape a_o_readFar a_o_readTone a_o_readSea a_o_code a_o_cellAt a_o_courseAt a_o_paceAt a_o_turnsAt a_o_slowAt a_o_fuelAt a_o_ringAt a_o_pieceParts a_o_dragCell a_o_dragBy a_o_sums a_o_shares a_o_keptFar a_o_image a_o_lanes a_o_sizes a_o_items a_o_movedItems o_taped o_at o_wrong o_level o_noRings o_noTones o_noFuel o_pieces o_drags o_all o_noPieces o_noDrags o_kept o_sets o_ringFar o_ringTone o_currents o_warmths o_code o_cellAt o_courseAt o_paceAt o_turnsAt o_slowAt o_fuelAt o_ringAt o_pieceParts o_dragCell o_dragBy o_sums) H → va_D A (W_X7_ends cyI cyJ cyO h_o a_o_sets a_o_ringFar a_o_ringTone a_o_currents a_o_warmths a_o_depths a_o_tape a_o_readFar a_o_readTone a_o_readSea a_o_code a_o_cellAt a_o_courseAt a_o_paceAt a_o_turnsAt a_o_slowAt a_o_fuelAt a_o_ringAt a_o_pieceParts a_o_dragCell a_o_dragBy a_o_sums a_o_shares a_o_keptFar a_o_image a_o_lanes a_o_sizes a_o_items a_o_movedItems o_taped o_at o_wrong o_level o_noRings o_noTones o_noFuel o_pieces o_drags o_all o_noPieces o_noDrags o_kept o_sets o_ringFar o_ringTone o_currents o_warmths o_code o_cellAt o_courseAt o_paceAt o_turnsAt o_slowAt o_fuelAt o_ringAt o_pieceParts o_dragCell o_dragBy o_sums) → va_S A s.heap H locs → ∀ (ls : Array Slot), lv_has ls 5 [(0, .ref h_o), (1, .int v1)] → okP (f_X7_ends_L130 n v1 o_level o_noRings o_noTones o_noFuel o_pieces o_drags o_all o_noPieces o_noDrags o_sets o_ringFar o_ringTone o_currents o_warmths o_code o_cellAt o_courseAt o_paceAt o_turnsAt o_slowAt o_fuelAt o_ringAt o_pieceParts o_dragCell o_dragBy o_sums) post → W p l e (headSpec wsX7_ends rm_X7_ends).room s m ([.ref h_o] : List Value).toArray below meth c H locs 0 0 Q (F0 m 130 ls []) := by
    intro n
    induction n with
    | zero =>
      intro v1 o_level o_all o_code o_cellAt o_courseAt o_paceAt o_turnsAt o_slowAt o_fuelAt o_ringAt o_sums H locs hP hD hS ls hl hw
      exact (ok0 hw).elim
    | succ n130 ih130 =>
      have w253 : ∀ (v1 : Int32) (o_level : Int32) (o_all : Int64) (o_code : Nat → Int32) (o_cellAt : Nat → Int32) (o_courseAt : Nat → Int32) (o_paceAt : Nat → Int32) (o_turnsAt : Nat → Int32) (o_slowAt : Nat → Int32) (o_fuelAt : Nat → Int32) (o_ringAt : Nat → Int32) (o_sums : Nat → Int64) (H : Heap) (locs : List Loc), va_P (dC, dI) vwCl (W_X7_ends cyI cyJ cyO h_o a_o_sets a_o_ringFar a_o_ringTone a_o_currents a_o_warmths a_o_depths a_o_tape a_o_readFar a_o_readTone a_o_readSea a_o_code a_o_cellAt a_o_courseAt a_o_paceAt a_o_turnsAt a_o_slowAt a_o_fuelAt a_o_ringAt a_o_pieceParts a_o_dragCell a_o_dragBy a_o_sums a_o_shares a_o_keptFar a_o_image a_o_lanes a_o_sizes a_o_items a_o_movedItems o_taped o_at o_wrong o_level o_noRings o_noTones o_noFuel o_pieces o_drags o_all o_noPieces o_noDrags o_kept o_sets o_ringFar o_ringTone o_currents o_warmths o_code o_cellAt o_courseAt o_paceAt o_turnsAt o_slowAt o_fuelAt o_ringAt o_pieceParts o_dragCell o_dragBy o_sums) H → va_D A (W_X7_ends cyI cyJ cyO h_o a_o_sets a_o_ringFar a_o_ringTone a_o_currents a_o_warmths a_o_depths a_o_tape a_o_readFar a_o_readTone a_o_readSea a_o_code a_o_cellAt a_o_courseAt a_o_paceAt a_o_turnsAt a_o_slowAt a_o_fuelAt a_o_ringAt a_o_pieceParts a_o_dragCell a_o_dragBy a_o_sums a_o_shares a_o_keptFar a_o_image a_o_lanes a_o_sizes a_o_items a_o_movedItems o_taped o_at o_wrong o_level o_noRings o_noTones o_noFuel o_pieces o_drags o_all o_noPieces o_noDrags o_kept o_sets o_ringFar o_ringTone o_currents o_warmths o_code o_cellAt o_courseAt o_paceAt o_turnsAt o_slowAt o_fuelAt o_ringAt o_pieceParts o_dragCell o_dragBy o_sums) → va_S A s.heap H locs → ∀ (ls : Array Slot), lv_has ls 5 [(0, .ref h_o), (1, .int v1)] → okP (f_X7_ends_B253 (f_X7_ends_L130 n130) v1 o_level o_noRings o_noTones o_noFuel o_pieces o_drags o_all o_noPieces o_noDrags o_sets o_ringFar o_ringTone o_currents o_warmths o_code o_cellAt o_courseAt o_paceAt o_turnsAt o_slowAt o_fuelAt o_ringAt o_pieceParts o_dragCell o_dragBy o_sums) post → W p l e (headSpec wsX7_ends rm_X7_ends).room s m ([.ref h_o] : List Value).toArray below meth c H locs 0 0 Q (F0 m 253 ls []) := by
        intro v1 o_level o_all o_code o_cellAt o_courseAt o_paceAt o_turnsAt o_slowAt o_fuelAt o_ringAt o_sums H locs hP hD hS ls hl hw
        unfold f_X7_ends_B253 at hw
        refine lv_aload_n hx hb dX7_ends_253 rfl (lv_at hl 0 rfl) ?_
        refine lv_dup hx hb dX7_ends_254 rfl ?_
        refine va_get (D := (dC, dI)) (ci := 7) (v := .long o_all) (C := RX7) (T := TX7) (N := 42) hx hb hts hi7 hown hK hP 0 rfl rfl 31 (by decide) hq0 (fun _ h9 => h9) rfl dX7_ends_255 ?_
        refine lv_aload_n hx hb dX7_ends_258 rfl (lv_at hl 0 rfl) ?_
        refine va_get (D := (dC, dI)) (ci := 7) (v := .ref a_o_sums) (C := RX7) (T := TX7) (N := 42) hx hb hts hi7 hown hK hP 0 rfl rfl 30 (by decide) hq2 (fun _ h9 => h9) rfl dX7_ends_259 ?_
        refine lv_iload_n hx hb dX7_ends_262 rfl (lv_at hl 1 rfl) ?_
        obtain ⟨h_1, hw⟩ := okC hw
        refine va_lald (i := v1) hx hb hK hP 17 1 rfl rfl h_1 dX7_ends_263 ?_
        refine lv_ladd hx hb dX7_ends_264 ?_
        refine lv_topl (fun x_2 ex_2 => ?_)
        replace hw := okN ex_2 hw
        clear ex_2
        refine va_put (D := (dC, dI)) (ci := 7) (v := .long x_2) (ty := .long) (C := RX7) (T := TX7) (N := 42) hx hb hts hi7 tyX7 tyX7_ok nmX7 hown hK hP hD hS 0 rfl rfl 31 (by decide) hq0 (fun _ h9 => h9) rfl (by decide +kernel) rfl rfl (Nat.le_of_ble_eq_true rfl) dX7_ends_265 (fun H locs hP hD hS => ?_)
        have hP : va_P (dC, dI) vwCl (W_X7_ends cyI cyJ cyO h_o a_o_sets a_o_ringFar a_o_ringTone a_o_currents a_o_warmths a_o_depths a_o_tape a_o_readFar a_o_readTone a_o_readSea a_o_code a_o_cellAt a_o_courseAt a_o_paceAt a_o_turnsAt a_o_slowAt a_o_fuelAt a_o_ringAt a_o_pieceParts a_o_dragCell a_o_dragBy a_o_sums a_o_shares a_o_keptFar a_o_image a_o_lanes a_o_sizes a_o_items a_o_movedItems o_taped o_at o_wrong o_level o_noRings o_noTones o_noFuel o_pieces o_drags x_2 o_noPieces o_noDrags o_kept o_sets o_ringFar o_ringTone o_currents o_warmths o_code o_cellAt o_courseAt o_paceAt o_turnsAt o_slowAt o_fuelAt o_ringAt o_pieceParts o_dragCell o_dragBy o_sums) H := hP
        have hD : va_D A (W_X7_ends cyI cyJ cyO h_o a_o_sets a_o_ringFar a_o_ringTone a_o_currents a_o_warmths a_o_depths a_o_tape a_o_readFar a_o_readTone a_o_readSea a_o_code a_o_cellAt a_o_courseAt a_o_paceAt a_o_turnsAt a_o_slowAt a_o_fuelAt a_o_ringAt a_o_pieceParts a_o_dragCell a_o_dragBy a_o_sums a_o_shares a_o_keptFar a_o_image a_o_lanes a_o_sizes a_o_items a_o_movedItems o_taped o_at o_wrong o_level o_noRings o_noTones o_noFuel o_pieces o_drags x_2 o_noPieces o_noDrags o_kept o_sets o_ringFar o_ringTone o_currents o_warmths o_code o_cellAt o_courseAt o_paceAt o_turnsAt o_slowAt o_fuelAt o_ringAt o_pieceParts o_dragCell o_dragBy o_sums) := hD
        obtain ⟨x_3, ex_3⟩ : ∃ y : Int32, y = v1 + 1 := ⟨_, rfl⟩
        replace hw := okN ex_3 hw
        refine lv_iinc (v := x_3) (lv' := [(1, .int x_3), (0, .ref h_o)]) hx hb dX7_ends_268 hl (k := 1) rfl (by rw [ex_3]; rfl) (by decide) rfl (fun ls hl => ?_)
        clear ex_3
        refine lv_goto (tgt := 130) hx hb dX7_ends_271 (by decide) ?_
        exact ih130 x_3 o_level x_2 o_code o_cellAt o_courseAt o_paceAt o_turnsAt o_slowAt o_fuelAt o_ringAt o_sums _ _ hP hD hS _ (lv_sub hl [1, 0] rfl) hw
      have w197 : ∀ (n : Nat), ∀ (v1 : Int32) (v2 : Int32) (o_level : Int32) (o_all : Int64) (o_code : Nat → Int32) (o_cellAt : Nat → Int32) (o_courseAt : Nat → Int32) (o_paceAt : Nat → Int32) (o_turnsAt : Nat → Int32) (o_slowAt : Nat → Int32) (o_fuelAt : Nat → Int32) (o_ringAt : Nat → Int32) (o_sums : Nat → Int64) (H : Heap) (locs : List Loc), va_P (dC, dI) vwCl (W_X7_ends cyI cyJ cyO h_o a_o_sets a_o_ringFar a_o_ringTone a_o_currents a_o_warmths a_o_depths a_o_tape a_o_readFar a_o_readTone a_o_readSea a_o_code a_o_cellAt a_o_courseAt a_o_paceAt a_o_turnsAt a_o_slowAt a_o_fuelAt a_o_ringAt a_o_pieceParts a_o_dragCell a_o_dragBy a_o_sums a_o_shares a_o_keptFar a_o_image a_o_lanes a_o_sizes a_o_items a_o_movedItems o_taped o_at o_wrong o_level o_noRings o_noTones o_noFuel o_pieces o_drags o_all o_noPieces o_noDrags o_kept o_sets o_ringFar o_ringTone o_currents o_warmths o_code o_cellAt o_courseAt o_paceAt o_turnsAt o_slowAt o_fuelAt o_ringAt o_pieceParts o_dragCell o_dragBy o_sums) H → va_D A (W_X7_ends cyI cyJ cyO h_o a_o_sets a_o_ringFar a_o_ringTone a_o_currents a_o_warmths a_o_depths a_o_tape a_o_readFar a_o_readTone a_o_readSea a_o_code a_o_cellAt a_o_courseAt a_o_paceAt a_o_turnsAt a_o_slowAt a_o_fuelAt a_o_ringAt a_o_pieceParts a_o_dragCell a_o_dragBy a_o_sums a_o_shares a_o_keptFar a_o_image a_o_lanes a_o_sizes a_o_items a_o_movedItems o_taped o_at o_wrong o_level o_noRings o_noTones o_noFuel o_pieces o_drags o_all o_noPieces o_noDrags o_kept o_sets o_ringFar o_ringTone o_currents o_warmths o_code o_cellAt o_courseAt o_paceAt o_turnsAt o_slowAt o_fuelAt o_ringAt o_pieceParts o_dragCell o_dragBy o_sums) → va_S A s.heap H locs → ∀ (ls : Array Slot), lv_has ls 5 [(0, .ref h_o), (1, .int v1), (2, .int v2)] → okP (f_X7_ends_L197 (f_X7_ends_L130 n130) n v1 v2 o_level o_noRings o_noTones o_noFuel o_pieces o_drags o_all o_noPieces o_noDrags o_sets o_ringFar o_ringTone o_currents o_warmths o_code o_cellAt o_courseAt o_paceAt o_turnsAt o_slowAt o_fuelAt o_ringAt o_pieceParts o_dragCell o_dragBy o_sums) post → W p l e (headSpec wsX7_ends rm_X7_ends).room s m ([.ref h_o] : List Value).toArray below meth c H locs 0 0 Q (F0 m 197 ls []) := by
        intro n
        induction n with
        | zero =>
          intro v1 v2 o_level o_all o_code o_cellAt o_courseAt o_paceAt o_turnsAt o_slowAt o_fuelAt o_ringAt o_sums H locs hP hD hS ls hl hw
          exact (ok0 hw).elim
        | succ n197 ih197 =>
          have w245 : ∀ (v1 : Int32) (v2 : Int32) (y0 : Int64) (y1 : Int64) (y2 : Int32) (o_level : Int32) (o_all : Int64) (o_code : Nat → Int32) (o_cellAt : Nat → Int32) (o_courseAt : Nat → Int32) (o_paceAt : Nat → Int32) (o_turnsAt : Nat → Int32) (o_slowAt : Nat → Int32) (o_fuelAt : Nat → Int32) (o_ringAt : Nat → Int32) (o_sums : Nat → Int64) (H : Heap) (locs : List Loc), va_P (dC, dI) vwCl (W_X7_ends cyI cyJ cyO h_o a_o_sets a_o_ringFar a_o_ringTone a_o_currents a_o_warmths a_o_depths a_o_tape a_o_readFar a_o_readTone a_o_readSea a_o_code a_o_cellAt a_o_courseAt a_o_paceAt a_o_turnsAt a_o_slowAt a_o_fuelAt a_o_ringAt a_o_pieceParts a_o_dragCell a_o_dragBy a_o_sums a_o_shares a_o_keptFar a_o_image a_o_lanes a_o_sizes a_o_items a_o_movedItems o_taped o_at o_wrong o_level o_noRings o_noTones o_noFuel o_pieces o_drags o_all o_noPieces o_noDrags o_kept o_sets o_ringFar o_ringTone o_currents o_warmths o_code o_cellAt o_courseAt o_paceAt o_turnsAt o_slowAt o_fuelAt o_ringAt o_pieceParts o_dragCell o_dragBy o_sums) H → va_D A (W_X7_ends cyI cyJ cyO h_o a_o_sets a_o_ringFar a_o_ringTone a_o_currents a_o_warmths a_o_depths a_o_tape a_o_readFar a_o_readTone a_o_readSea a_o_code a_o_cellAt a_o_courseAt a_o_paceAt a_o_turnsAt a_o_slowAt a_o_fuelAt a_o_ringAt a_o_pieceParts a_o_dragCell a_o_dragBy a_o_sums a_o_shares a_o_keptFar a_o_image a_o_lanes a_o_sizes a_o_items a_o_movedItems o_taped o_at o_wrong o_level o_noRings o_noTones o_noFuel o_pieces o_drags o_all o_noPieces o_noDrags o_kept o_sets o_ringFar o_ringTone o_currents o_warmths o_code o_cellAt o_courseAt o_paceAt o_turnsAt o_slowAt o_fuelAt o_ringAt o_pieceParts o_dragCell o_dragBy o_sums) → va_S A s.heap H locs → ∀ (ls : Array Slot), lv_has ls 5 [(0, .ref h_o), (1, .int v1), (2, .int v2)] → okP (f_X7_ends_B245 (f_X7_ends_L130 n130) (f_X7_ends_L197 (f_X7_ends_L130 n130) n197) v1 v2 y0 y1 y2 o_level o_noRings o_noTones o_noFuel o_pieces o_drags o_all o_noPieces o_noDrags o_sets o_ringFar o_ringTone o_currents o_warmths o_code o_cellAt o_courseAt o_paceAt o_turnsAt o_slowAt o_fuelAt o_ringAt o_pieceParts o_dragCell o_dragBy o_sums) post → W p l e (headSpec wsX7_ends rm_X7_ends).room s m ([.ref h_o] : List Value).toArray below meth c H locs 0 0 Q (F0 m 245 ls [.long y0, .long y1, .int y2, .ref a_o_sums]) := by
            intro v1 v2 y0 y1 y2 o_level o_all o_code o_cellAt o_courseAt o_paceAt o_turnsAt o_slowAt o_fuelAt o_ringAt o_sums H locs hP hD hS ls hl hw
            unfold f_X7_ends_B245 at hw
            refine lv_lmul hx hb dX7_ends_245 ?_
            refine lv_topl (fun x_4 ex_4 => ?_)
            replace hw := okN ex_4 hw
            clear ex_4
            obtain ⟨h_5, hw⟩ := okC hw
            refine va_last (i := y2) (x := x_4) hx hb hK hP hD hS 17 1 rfl rfl h_5 dX7_ends_246 (fun H locs hP hD hS => ?_)
            have hP : va_P (dC, dI) vwCl (W_X7_ends cyI cyJ cyO h_o a_o_sets a_o_ringFar a_o_ringTone a_o_currents a_o_warmths a_o_depths a_o_tape a_o_readFar a_o_readTone a_o_readSea a_o_code a_o_cellAt a_o_courseAt a_o_paceAt a_o_turnsAt a_o_slowAt a_o_fuelAt a_o_ringAt a_o_pieceParts a_o_dragCell a_o_dragBy a_o_sums a_o_shares a_o_keptFar a_o_image a_o_lanes a_o_sizes a_o_items a_o_movedItems o_taped o_at o_wrong o_level o_noRings o_noTones o_noFuel o_pieces o_drags o_all o_noPieces o_noDrags o_kept o_sets o_ringFar o_ringTone o_currents o_warmths o_code o_cellAt o_courseAt o_paceAt o_turnsAt o_slowAt o_fuelAt o_ringAt o_pieceParts o_dragCell o_dragBy (vp_updL o_sums y2.toNatClampNeg x_4)) H := hP
            have hD : va_D A (W_X7_ends cyI cyJ cyO h_o a_o_sets a_o_ringFar a_o_ringTone a_o_currents a_o_warmths a_o_depths a_o_tape a_o_readFar a_o_readTone a_o_readSea a_o_code a_o_cellAt a_o_courseAt a_o_paceAt a_o_turnsAt a_o_slowAt a_o_fuelAt a_o_ringAt a_o_pieceParts a_o_dragCell a_o_dragBy a_o_sums a_o_shares a_o_keptFar a_o_image a_o_lanes a_o_sizes a_o_items a_o_movedItems o_taped o_at o_wrong o_level o_noRings o_noTones o_noFuel o_pieces o_drags o_all o_noPieces o_noDrags o_kept o_sets o_ringFar o_ringTone o_currents o_warmths o_code o_cellAt o_courseAt o_paceAt o_turnsAt o_slowAt o_fuelAt o_ringAt o_pieceParts o_dragCell o_dragBy (vp_updL o_sums y2.toNatClampNeg x_4)) := hD
            obtain ⟨x_6, ex_6⟩ : ∃ y : Int32, y = v2 + 1 := ⟨_, rfl⟩
            replace hw := okN ex_6 hw
            refine lv_iinc (v := x_6) (lv' := [(2, .int x_6), (0, .ref h_o), (1, .int v1)]) hx hb dX7_ends_247 hl (k := 2) rfl (by rw [ex_6]; rfl) (by decide) rfl (fun ls hl => ?_)
            clear ex_6
            refine lv_goto (tgt := 197) hx hb dX7_ends_250 (by decide) ?_
            exact ih197 v1 x_6 o_level o_all o_code o_cellAt o_courseAt o_paceAt o_turnsAt o_slowAt o_fuelAt o_ringAt (vp_updL o_sums y2.toNatClampNeg x_4) _ _ hP hD hS _ (lv_sub hl [1, 2, 0] rfl) hw
          intro v1 v2 o_level o_all o_code o_cellAt o_courseAt o_paceAt o_turnsAt o_slowAt o_fuelAt o_ringAt o_sums H locs hP hD hS ls hl hw
          replace hw : okP (f_X7_ends_L197b (f_X7_ends_L130 n130) (f_X7_ends_L197 (f_X7_ends_L130 n130) n197) v1 v2 o_level o_noRings o_noTones o_noFuel o_pieces o_drags o_all o_noPieces o_noDrags o_sets o_ringFar o_ringTone o_currents o_warmths o_code o_cellAt o_courseAt o_paceAt o_turnsAt o_slowAt o_fuelAt o_ringAt o_pieceParts o_dragCell o_dragBy o_sums) post := hw
          unfold f_X7_ends_L197b at hw
          refine lv_iload_n hx hb dX7_ends_197 rfl (lv_at hl 2 rfl) ?_
          refine lv_aload_n hx hb dX7_ends_198 rfl (lv_at hl 0 rfl) ?_
          refine va_get (D := (dC, dI)) (ci := 7) (v := .int o_drags) (C := RX7) (T := TX7) (N := 42) hx hb hts hi7 hown hK hP 0 rfl rfl 27 (by decide) hq3 (fun _ h9 => h9) rfl dX7_ends_199 ?_
          refine lv_icmp_ge (tgt := 253) hx hb dX7_ends_202 (by decide) (fun c_7 => ?_) (fun c_7 => ?_)
          · replace hw := okT hw c_7
            clear c_7
            exact w253 v1 o_level o_all o_code o_cellAt o_courseAt o_paceAt o_turnsAt o_slowAt o_fuelAt o_ringAt o_sums _ _ hP hD hS _ (lv_sub hl [0, 1] rfl) hw
          · replace hw := okF hw c_7
            clear c_7
            refine lv_aload_n hx hb dX7_ends_205 rfl (lv_at hl 0 rfl) ?_
            refine va_get (D := (dC, dI)) (ci := 7) (v := .int o_noDrags) (C := RX7) (T := TX7) (N := 42) hx hb hts hi7 hown hK hP 0 rfl rfl 33 (by decide) hq4 (fun _ h9 => h9) rfl dX7_ends_206 ?_
            refine lv_if_ne (tgt := 253) hx hb dX7_ends_209 (by decide) (fun c_8 => ?_) (fun c_8 => ?_)
            · replace hw := okF hw c_8
              clear c_8
              exact w253 v1 o_level o_all o_code o_cellAt o_courseAt o_paceAt o_turnsAt o_slowAt o_fuelAt o_ringAt o_sums _ _ hP hD hS _ (lv_sub hl [0, 1] rfl) hw
            · replace hw := okT hw c_8
              clear c_8
              refine lv_aload_n hx hb dX7_ends_212 rfl (lv_at hl 0 rfl) ?_
              refine va_get (D := (dC, dI)) (ci := 7) (v := .ref a_o_sums) (C := RX7) (T := TX7) (N := 42) hx hb hts hi7 hown hK hP 0 rfl rfl 30 (by decide) hq2 (fun _ h9 => h9) rfl dX7_ends_213 ?_
              refine lv_iload_n hx hb dX7_ends_216 rfl (lv_at hl 1 rfl) ?_
              refine lv_dup2_11 hx hb dX7_ends_217 rfl rfl ?_
              obtain ⟨h_9, hw⟩ := okC hw
              refine va_lald (i := v1) hx hb hK hP 17 1 rfl rfl h_9 dX7_ends_218 ?_
              refine lv_aload_n hx hb dX7_ends_219 rfl (lv_at hl 0 rfl) ?_
              refine va_get (D := (dC, dI)) (ci := 7) (v := .ref a_o_dragCell) (C := RX7) (T := TX7) (N := 42) hx hb hts hi7 hown hK hP 0 rfl rfl 28 (by decide) hq5 (fun _ h9 => h9) rfl dX7_ends_220 ?_
              refine lv_iload_n hx hb dX7_ends_223 rfl (lv_at hl 2 rfl) ?_
              obtain ⟨h_10, hw⟩ := okC hw
              refine va_iald (i := v2) hx hb hK hP 15 0 rfl rfl h_10 dX7_ends_224 ?_
              refine lv_iload_n hx hb dX7_ends_225 rfl (lv_at hl 1 rfl) ?_
              refine lv_icmp_ne (tgt := 242) hx hb dX7_ends_226 (by decide) (fun c_11 => ?_) (fun c_11 => ?_)
              · replace hw := okF hw c_11
                clear c_11
                refine lv_ldc2 (v := 8) hx hb hown hq6 dX7_ends_242 ?_
                exact w245 v1 v2 8 (o_sums v1.toNatClampNeg) v1 o_level o_all o_code o_cellAt o_courseAt o_paceAt o_turnsAt o_slowAt o_fuelAt o_ringAt o_sums _ _ hP hD hS _ (lv_sub hl [0, 1, 2] rfl) hw
              · replace hw := okT hw c_11
                clear c_11
                refine lv_bipush (v := 8) hx hb dX7_ends_229 (by decide) ?_
                refine lv_aload_n hx hb dX7_ends_231 rfl (lv_at hl 0 rfl) ?_
                refine va_get (D := (dC, dI)) (ci := 7) (v := .ref a_o_dragBy) (C := RX7) (T := TX7) (N := 42) hx hb hts hi7 hown hK hP 0 rfl rfl 29 (by decide) hq7 (fun _ h9 => h9) rfl dX7_ends_232 ?_
                refine lv_iload_n hx hb dX7_ends_235 rfl (lv_at hl 2 rfl) ?_
                obtain ⟨h_12, hw⟩ := okC hw
                refine va_iald (i := v2) hx hb hK hP 16 0 rfl rfl h_12 dX7_ends_236 ?_
                refine lv_isub hx hb dX7_ends_237 ?_
                refine lv_i2l (v := (8 - (o_dragBy v2.toNatClampNeg)).toInt64) hx hb dX7_ends_238 rfl ?_
                refine lv_goto (tgt := 245) hx hb dX7_ends_239 (by decide) ?_
                exact w245 v1 v2 ((8 - (o_dragBy v2.toNatClampNeg)).toInt64) (o_sums v1.toNatClampNeg) v1 o_level o_all o_code o_cellAt o_courseAt o_paceAt o_turnsAt o_slowAt o_fuelAt o_ringAt o_sums _ _ hP hD hS _ (lv_sub hl [0, 1, 2] rfl) hw
      have w138 : ∀ (n : Nat), ∀ (v1 : Int32) (v2 : Int32) (o_level : Int32) (o_all : Int64) (o_code : Nat → Int32) (o_cellAt : Nat → Int32) (o_courseAt : Nat → Int32) (o_paceAt : Nat → Int32) (o_turnsAt : Nat → Int32) (o_slowAt : Nat → Int32) (o_fuelAt : Nat → Int32) (o_ringAt : Nat → Int32) (o_sums : Nat → Int64) (H : Heap) (locs : List Loc), va_P (dC, dI) vwCl (W_X7_ends cyI cyJ cyO h_o a_o_sets a_o_ringFar a_o_ringTone a_o_currents a_o_warmths a_o_depths a_o_tape a_o_readFar a_o_readTone a_o_readSea a_o_code a_o_cellAt a_o_courseAt a_o_paceAt a_o_turnsAt a_o_slowAt a_o_fuelAt a_o_ringAt a_o_pieceParts a_o_dragCell a_o_dragBy a_o_sums a_o_shares a_o_keptFar a_o_image a_o_lanes a_o_sizes a_o_items a_o_movedItems o_taped o_at o_wrong o_level o_noRings o_noTones o_noFuel o_pieces o_drags o_all o_noPieces o_noDrags o_kept o_sets o_ringFar o_ringTone o_currents o_warmths o_code o_cellAt o_courseAt o_paceAt o_turnsAt o_slowAt o_fuelAt o_ringAt o_pieceParts o_dragCell o_dragBy o_sums) H → va_D A (W_X7_ends cyI cyJ cyO h_o a_o_sets a_o_ringFar a_o_ringTone a_o_currents a_o_warmths a_o_depths a_o_tape a_o_readFar a_o_readTone a_o_readSea a_o_code a_o_cellAt a_o_courseAt a_o_paceAt a_o_turnsAt a_o_slowAt a_o_fuelAt a_o_ringAt a_o_pieceParts a_o_dragCell a_o_dragBy a_o_sums a_o_shares a_o_keptFar a_o_image a_o_lanes a_o_sizes a_o_items a_o_movedItems o_taped o_at o_wrong o_level o_noRings o_noTones o_noFuel o_pieces o_drags o_all o_noPieces o_noDrags o_kept o_sets o_ringFar o_ringTone o_currents o_warmths o_code o_cellAt o_courseAt o_paceAt o_turnsAt o_slowAt o_fuelAt o_ringAt o_pieceParts o_dragCell o_dragBy o_sums) → va_S A s.heap H locs → ∀ (ls : Array Slot), lv_has ls 5 [(0, .ref h_o), (1, .int v1), (2, .int v2)] → okP (f_X7_ends_L138 (f_X7_ends_L130 n130) n v1 v2 o_level o_noRings o_noTones o_noFuel o_pieces o_drags o_all o_noPieces o_noDrags o_sets o_ringFar o_ringTone o_currents o_warmths o_code o_cellAt o_courseAt o_paceAt o_turnsAt o_slowAt o_fuelAt o_ringAt o_pieceParts o_dragCell o_dragBy o_sums) post → W p l e (headSpec wsX7_ends rm_X7_ends).room s m ([.ref h_o] : List Value).toArray below meth c H locs 0 0 Q (F0 m 138 ls []) := by
        intro n
        induction n with
        | zero =>
          intro v1 v2 o_level o_all o_code o_cellAt o_courseAt o_paceAt o_turnsAt o_slowAt o_fuelAt o_ringAt o_sums H locs hP hD hS ls hl hw
          exact (ok0 hw).elim
        | succ n138 ih138 =>
          have w187 : ∀ (v1 : Int32) (v2 : Int32) (y0 : Int64) (y1 : Int64) (y2 : Int32) (o_level : Int32) (o_all : Int64) (o_code : Nat → Int32) (o_cellAt : Nat → Int32) (o_courseAt : Nat → Int32) (o_paceAt : Nat → Int32) (o_turnsAt : Nat → Int32) (o_slowAt : Nat → Int32) (o_fuelAt : Nat → Int32) (o_ringAt : Nat → Int32) (o_sums : Nat → Int64) (H : Heap) (locs : List Loc), va_P (dC, dI) vwCl (W_X7_ends cyI cyJ cyO h_o a_o_sets a_o_ringFar a_o_ringTone a_o_currents a_o_warmths a_o_depths a_o_tape a_o_readFar a_o_readTone a_o_readSea a_o_code a_o_cellAt a_o_courseAt a_o_paceAt a_o_turnsAt a_o_slowAt a_o_fuelAt a_o_ringAt a_o_pieceParts a_o_dragCell a_o_dragBy a_o_sums a_o_shares a_o_keptFar a_o_image a_o_lanes a_o_sizes a_o_items a_o_movedItems o_taped o_at o_wrong o_level o_noRings o_noTones o_noFuel o_pieces o_drags o_all o_noPieces o_noDrags o_kept o_sets o_ringFar o_ringTone o_currents o_warmths o_code o_cellAt o_courseAt o_paceAt o_turnsAt o_slowAt o_fuelAt o_ringAt o_pieceParts o_dragCell o_dragBy o_sums) H → va_D A (W_X7_ends cyI cyJ cyO h_o a_o_sets a_o_ringFar a_o_ringTone a_o_currents a_o_warmths a_o_depths a_o_tape a_o_readFar a_o_readTone a_o_readSea a_o_code a_o_cellAt a_o_courseAt a_o_paceAt a_o_turnsAt a_o_slowAt a_o_fuelAt a_o_ringAt a_o_pieceParts a_o_dragCell a_o_dragBy a_o_sums a_o_shares a_o_keptFar a_o_image a_o_lanes a_o_sizes a_o_items a_o_movedItems o_taped o_at o_wrong o_level o_noRings o_noTones o_noFuel o_pieces o_drags o_all o_noPieces o_noDrags o_kept o_sets o_ringFar o_ringTone o_currents o_warmths o_code o_cellAt o_courseAt o_paceAt o_turnsAt o_slowAt o_fuelAt o_ringAt o_pieceParts o_dragCell o_dragBy o_sums) → va_S A s.heap H locs → ∀ (ls : Array Slot), lv_has ls 5 [(0, .ref h_o), (1, .int v1), (2, .int v2)] → okP (f_X7_ends_B187 (f_X7_ends_L130 n130) (f_X7_ends_L138 (f_X7_ends_L130 n130) n138) v1 v2 y0 y1 y2 o_level o_noRings o_noTones o_noFuel o_pieces o_drags o_all o_noPieces o_noDrags o_sets o_ringFar o_ringTone o_currents o_warmths o_code o_cellAt o_courseAt o_paceAt o_turnsAt o_slowAt o_fuelAt o_ringAt o_pieceParts o_dragCell o_dragBy o_sums) post → W p l e (headSpec wsX7_ends rm_X7_ends).room s m ([.ref h_o] : List Value).toArray below meth c H locs 0 0 Q (F0 m 187 ls [.long y0, .long y1, .int y2, .ref a_o_sums]) := by
            intro v1 v2 y0 y1 y2 o_level o_all o_code o_cellAt o_courseAt o_paceAt o_turnsAt o_slowAt o_fuelAt o_ringAt o_sums H locs hP hD hS ls hl hw
            unfold f_X7_ends_B187 at hw
            refine lv_lmul hx hb dX7_ends_187 ?_
            refine lv_topl (fun x_13 ex_13 => ?_)
            replace hw := okN ex_13 hw
            clear ex_13
            obtain ⟨h_14, hw⟩ := okC hw
            refine va_last (i := y2) (x := x_13) hx hb hK hP hD hS 17 1 rfl rfl h_14 dX7_ends_188 (fun H locs hP hD hS => ?_)
            have hP : va_P (dC, dI) vwCl (W_X7_ends cyI cyJ cyO h_o a_o_sets a_o_ringFar a_o_ringTone a_o_currents a_o_warmths a_o_depths a_o_tape a_o_readFar a_o_readTone a_o_readSea a_o_code a_o_cellAt a_o_courseAt a_o_paceAt a_o_turnsAt a_o_slowAt a_o_fuelAt a_o_ringAt a_o_pieceParts a_o_dragCell a_o_dragBy a_o_sums a_o_shares a_o_keptFar a_o_image a_o_lanes a_o_sizes a_o_items a_o_movedItems o_taped o_at o_wrong o_level o_noRings o_noTones o_noFuel o_pieces o_drags o_all o_noPieces o_noDrags o_kept o_sets o_ringFar o_ringTone o_currents o_warmths o_code o_cellAt o_courseAt o_paceAt o_turnsAt o_slowAt o_fuelAt o_ringAt o_pieceParts o_dragCell o_dragBy (vp_updL o_sums y2.toNatClampNeg x_13)) H := hP
            have hD : va_D A (W_X7_ends cyI cyJ cyO h_o a_o_sets a_o_ringFar a_o_ringTone a_o_currents a_o_warmths a_o_depths a_o_tape a_o_readFar a_o_readTone a_o_readSea a_o_code a_o_cellAt a_o_courseAt a_o_paceAt a_o_turnsAt a_o_slowAt a_o_fuelAt a_o_ringAt a_o_pieceParts a_o_dragCell a_o_dragBy a_o_sums a_o_shares a_o_keptFar a_o_image a_o_lanes a_o_sizes a_o_items a_o_movedItems o_taped o_at o_wrong o_level o_noRings o_noTones o_noFuel o_pieces o_drags o_all o_noPieces o_noDrags o_kept o_sets o_ringFar o_ringTone o_currents o_warmths o_code o_cellAt o_courseAt o_paceAt o_turnsAt o_slowAt o_fuelAt o_ringAt o_pieceParts o_dragCell o_dragBy (vp_updL o_sums y2.toNatClampNeg x_13)) := hD
            obtain ⟨x_15, ex_15⟩ : ∃ y : Int32, y = v2 + 1 := ⟨_, rfl⟩
            replace hw := okN ex_15 hw
            refine lv_iinc (v := x_15) (lv' := [(2, .int x_15), (0, .ref h_o), (1, .int v1)]) hx hb dX7_ends_189 hl (k := 2) rfl (by rw [ex_15]; rfl) (by decide) rfl (fun ls hl => ?_)
            clear ex_15
            refine lv_goto (tgt := 138) hx hb dX7_ends_192 (by decide) ?_
            exact ih138 v1 x_15 o_level o_all o_code o_cellAt o_courseAt o_paceAt o_turnsAt o_slowAt o_fuelAt o_ringAt (vp_updL o_sums y2.toNatClampNeg x_13) _ _ hP hD hS _ (lv_sub hl [1, 2, 0] rfl) hw
          have w176 : ∀ (v1 : Int32) (v2 : Int32) (y0 : Int64) (y1 : Int32) (o_level : Int32) (o_all : Int64) (o_code : Nat → Int32) (o_cellAt : Nat → Int32) (o_courseAt : Nat → Int32) (o_paceAt : Nat → Int32) (o_turnsAt : Nat → Int32) (o_slowAt : Nat → Int32) (o_fuelAt : Nat → Int32) (o_ringAt : Nat → Int32) (o_sums : Nat → Int64) (H : Heap) (locs : List Loc), va_P (dC, dI) vwCl (W_X7_ends cyI cyJ cyO h_o a_o_sets a_o_ringFar a_o_ringTone a_o_currents a_o_warmths a_o_depths a_o_tape a_o_readFar a_o_readTone a_o_readSea a_o_code a_o_cellAt a_o_courseAt a_o_paceAt a_o_turnsAt a_o_slowAt a_o_fuelAt a_o_ringAt a_o_pieceParts a_o_dragCell a_o_dragBy a_o_sums a_o_shares a_o_keptFar a_o_image a_o_lanes a_o_sizes a_o_items a_o_movedItems o_taped o_at o_wrong o_level o_noRings o_noTones o_noFuel o_pieces o_drags o_all o_noPieces o_noDrags o_kept o_sets o_ringFar o_ringTone o_currents o_warmths o_code o_cellAt o_courseAt o_paceAt o_turnsAt o_slowAt o_fuelAt o_ringAt o_pieceParts o_dragCell o_dragBy o_sums) H → va_D A (W_X7_ends cyI cyJ cyO h_o a_o_sets a_o_ringFar a_o_ringTone a_o_currents a_o_warmths a_o_depths a_o_tape a_o_readFar a_o_readTone a_o_readSea a_o_code a_o_cellAt a_o_courseAt a_o_paceAt a_o_turnsAt a_o_slowAt a_o_fuelAt a_o_ringAt a_o_pieceParts a_o_dragCell a_o_dragBy a_o_sums a_o_shares a_o_keptFar a_o_image a_o_lanes a_o_sizes a_o_items a_o_movedItems o_taped o_at o_wrong o_level o_noRings o_noTones o_noFuel o_pieces o_drags o_all o_noPieces o_noDrags o_kept o_sets o_ringFar o_ringTone o_currents o_warmths o_code o_cellAt o_courseAt o_paceAt o_turnsAt o_slowAt o_fuelAt o_ringAt o_pieceParts o_dragCell o_dragBy o_sums) → va_S A s.heap H locs → ∀ (ls : Array Slot), lv_has ls 5 [(0, .ref h_o), (1, .int v1), (2, .int v2)] → okP (f_X7_ends_B176 (f_X7_ends_L130 n130) (f_X7_ends_L138 (f_X7_ends_L130 n130) n138) v1 v2 y0 y1 o_level o_noRings o_noTones o_noFuel o_pieces o_drags o_all o_noPieces o_noDrags o_sets o_ringFar o_ringTone o_currents o_warmths o_code o_cellAt o_courseAt o_paceAt o_turnsAt o_slowAt o_fuelAt o_ringAt o_pieceParts o_dragCell o_dragBy o_sums) post → W p l e (headSpec wsX7_ends rm_X7_ends).room s m ([.ref h_o] : List Value).toArray below meth c H locs 0 0 Q (F0 m 176 ls [.long y0, .int y1, .ref a_o_sums]) := by
            intro v1 v2 y0 y1 o_level o_all o_code o_cellAt o_courseAt o_paceAt o_turnsAt o_slowAt o_fuelAt o_ringAt o_sums H locs hP hD hS ls hl hw
            unfold f_X7_ends_B176 at hw
            refine lv_lconst (v := 1) hx hb dX7_ends_176 (by decide) ?_
            refine lv_goto (tgt := 187) hx hb dX7_ends_177 (by decide) ?_
            exact w187 v1 v2 1 y0 y1 o_level o_all o_code o_cellAt o_courseAt o_paceAt o_turnsAt o_slowAt o_fuelAt o_ringAt o_sums _ _ hP hD hS _ (lv_sub hl [0, 1, 2] rfl) hw
          intro v1 v2 o_level o_all o_code o_cellAt o_courseAt o_paceAt o_turnsAt o_slowAt o_fuelAt o_ringAt o_sums H locs hP hD hS ls hl hw
          replace hw : okP (f_X7_ends_L138b (f_X7_ends_L130 n130) (f_X7_ends_L138 (f_X7_ends_L130 n130) n138) v1 v2 o_level o_noRings o_noTones o_noFuel o_pieces o_drags o_all o_noPieces o_noDrags o_sets o_ringFar o_ringTone o_currents o_warmths o_code o_cellAt o_courseAt o_paceAt o_turnsAt o_slowAt o_fuelAt o_ringAt o_pieceParts o_dragCell o_dragBy o_sums) post := hw
          unfold f_X7_ends_L138b at hw
          refine lv_iload_n hx hb dX7_ends_138 rfl (lv_at hl 2 rfl) ?_
          refine lv_aload_n hx hb dX7_ends_139 rfl (lv_at hl 0 rfl) ?_
          refine va_get (D := (dC, dI)) (ci := 7) (v := .int o_pieces) (C := RX7) (T := TX7) (N := 42) hx hb hts hi7 hown hK hP 0 rfl rfl 25 (by decide) hq8 (fun _ h9 => h9) rfl dX7_ends_140 ?_
          refine lv_icmp_ge (tgt := 195) hx hb dX7_ends_143 (by decide) (fun c_16 => ?_) (fun c_16 => ?_)
          · replace hw := okT hw c_16
            clear c_16
            refine lv_iconst (v := 0) hx hb dX7_ends_195 (by decide) ?_
            refine lv_istore_n (lv' := [(2, .int 0), (0, .ref h_o), (1, .int v1)]) hx hb dX7_ends_196 rfl hl (by decide) rfl (fun ls hl => ?_)
            exact w197 FU v1 0 o_level o_all o_code o_cellAt o_courseAt o_paceAt o_turnsAt o_slowAt o_fuelAt o_ringAt o_sums _ _ hP hD hS _ (lv_sub hl [1, 2, 0] rfl) hw
          · replace hw := okF hw c_16
            clear c_16
            refine lv_aload_n hx hb dX7_ends_146 rfl (lv_at hl 0 rfl) ?_
            refine va_get (D := (dC, dI)) (ci := 7) (v := .ref a_o_sums) (C := RX7) (T := TX7) (N := 42) hx hb hts hi7 hown hK hP 0 rfl rfl 30 (by decide) hq2 (fun _ h9 => h9) rfl dX7_ends_147 ?_
            refine lv_iload_n hx hb dX7_ends_150 rfl (lv_at hl 1 rfl) ?_
            refine lv_dup2_11 hx hb dX7_ends_151 rfl rfl ?_
            obtain ⟨h_17, hw⟩ := okC hw
            refine va_lald (i := v1) hx hb hK hP 17 1 rfl rfl h_17 dX7_ends_152 ?_
            refine lv_aload_n hx hb dX7_ends_153 rfl (lv_at hl 0 rfl) ?_
            refine va_get (D := (dC, dI)) (ci := 7) (v := .ref a_o_sums) (C := RX7) (T := TX7) (N := 42) hx hb hts hi7 hown hK hP 0 rfl rfl 30 (by decide) hq2 (fun _ h9 => h9) rfl dX7_ends_154 ?_
            refine lv_iload_n hx hb dX7_ends_157 rfl (lv_at hl 1 rfl) ?_
            obtain ⟨h_18, hw⟩ := okC hw
            refine va_lald (i := v1) hx hb hK hP 17 1 rfl rfl h_18 dX7_ends_158 ?_
            refine lv_lconst (v := 0) hx hb dX7_ends_159 (by decide) ?_
            refine W.lcmp hx hb dX7_ends_160 ?_
            refine lv_if_eq (tgt := 176) hx hb dX7_ends_161 (by decide) (fun c_19 => ?_) (fun c_19 => ?_)
            · replace hw := okT hw c_19
              clear c_19
              exact w176 v1 v2 (o_sums v1.toNatClampNeg) v1 o_level o_all o_code o_cellAt o_courseAt o_paceAt o_turnsAt o_slowAt o_fuelAt o_ringAt o_sums _ _ hP hD hS _ (lv_sub hl [0, 1, 2] rfl) hw
            · replace hw := okF hw c_19
              clear c_19
              refine lv_aload_n hx hb dX7_ends_164 rfl (lv_at hl 0 rfl) ?_
              refine va_get (D := (dC, dI)) (ci := 7) (v := .int o_noPieces) (C := RX7) (T := TX7) (N := 42) hx hb hts hi7 hown hK hP 0 rfl rfl 32 (by decide) hq9 (fun _ h9 => h9) rfl dX7_ends_165 ?_
              refine lv_iload_n hx hb dX7_ends_168 rfl (lv_at hl 2 rfl) ?_
              refine lv_ishr hx hb dX7_ends_169 ?_
              refine lv_iconst (v := 1) hx hb dX7_ends_170 (by decide) ?_
              refine lv_iand hx hb dX7_ends_171 ?_
              refine lv_iconst (v := 1) hx hb dX7_ends_172 (by decide) ?_
              refine lv_icmp_ne (tgt := 180) hx hb dX7_ends_173 (by decide) (fun c_20 => ?_) (fun c_20 => ?_)
              · replace hw := okF hw c_20
                clear c_20
                refine lv_aload_n hx hb dX7_ends_180 rfl (lv_at hl 0 rfl) ?_
                refine lv_iload_n hx hb dX7_ends_181 rfl (lv_at hl 2 rfl) ?_
                refine lv_iload_n hx hb dX7_ends_182 rfl (lv_at hl 1 rfl) ?_
                have hPc := hP.sub (ws' := (W_X7_fit cyI cyJ cyO h_o a_o_sets a_o_ringFar a_o_ringTone a_o_currents a_o_warmths a_o_depths a_o_tape a_o_readFar a_o_readTone a_o_readSea a_o_code a_o_cellAt a_o_courseAt a_o_paceAt a_o_turnsAt a_o_slowAt a_o_fuelAt a_o_ringAt a_o_pieceParts a_o_dragCell a_o_dragBy a_o_sums a_o_shares a_o_keptFar a_o_image a_o_lanes a_o_sizes a_o_items a_o_movedItems o_taped o_at o_wrong o_level o_noRings o_noTones o_noFuel o_pieces o_drags o_all o_noPieces o_noDrags o_kept o_sets o_currents o_warmths o_pieceParts)) [0, 1, 4, 5, 14] rfl
                have hDc := hD.sub (ws' := (W_X7_fit cyI cyJ cyO h_o a_o_sets a_o_ringFar a_o_ringTone a_o_currents a_o_warmths a_o_depths a_o_tape a_o_readFar a_o_readTone a_o_readSea a_o_code a_o_cellAt a_o_courseAt a_o_paceAt a_o_turnsAt a_o_slowAt a_o_fuelAt a_o_ringAt a_o_pieceParts a_o_dragCell a_o_dragBy a_o_sums a_o_shares a_o_keptFar a_o_image a_o_lanes a_o_sizes a_o_items a_o_movedItems o_taped o_at o_wrong o_level o_noRings o_noTones o_noFuel o_pieces o_drags o_all o_noPieces o_noDrags o_kept o_sets o_currents o_warmths o_pieceParts)) [0, 1, 4, 5, 14] (by decide +kernel) rfl
                have hFc := va_free (wc := (W_X7_fit cyI cyJ cyO h_o a_o_sets a_o_ringFar a_o_ringTone a_o_currents a_o_warmths a_o_depths a_o_tape a_o_readFar a_o_readTone a_o_readSea a_o_code a_o_cellAt a_o_courseAt a_o_paceAt a_o_turnsAt a_o_slowAt a_o_fuelAt a_o_ringAt a_o_pieceParts a_o_dragCell a_o_dragBy a_o_sums a_o_shares a_o_keptFar a_o_image a_o_lanes a_o_sizes a_o_items a_o_movedItems o_taped o_at o_wrong o_level o_noRings o_noTones o_noFuel o_pieces o_drags o_all o_noPieces o_noDrags o_kept o_sets o_currents o_warmths o_pieceParts)) hD hS hA [0, 1, 4, 5, 14] rfl
                refine kc_i (wr := [(a_o_ringFar, .inl (cyI, 7, .inl o_ringFar)), (a_o_ringTone, .inl (cyI, 7, .inl o_ringTone)), (a_o_code, .inl (cyI, 7, .inl o_code)), (a_o_cellAt, .inl (cyI, 7, .inl o_cellAt)), (a_o_courseAt, .inl (cyI, 7, .inl o_courseAt)), (a_o_paceAt, .inl (cyI, 7, .inl o_paceAt)), (a_o_turnsAt, .inl (cyI, 7, .inl o_turnsAt)), (a_o_slowAt, .inl (cyI, 7, .inl o_slowAt)), (a_o_fuelAt, .inl (cyI, 7, .inl o_fuelAt)), (a_o_ringAt, .inl (cyI, 7, .inl o_ringAt)), (a_o_dragCell, .inl (cyI, 6, .inl o_dragCell)), (a_o_dragBy, .inl (cyI, 6, .inl o_dragBy)), (a_o_sums, .inl (cyJ, 100, .inr (.inl o_sums)))]) (va_runV (As := [.int v2, .int v1]) (rest := [.long (o_sums v1.toNatClampNeg), .int v1, .ref a_o_sums]) ⟨hx, hb, hml, hown, hts⟩ (c_X7_fit l dC dI cyI cyJ cyO H.size h_o a_o_sets a_o_ringFar a_o_ringTone a_o_currents a_o_warmths a_o_depths a_o_tape a_o_readFar a_o_readTone a_o_readSea a_o_code a_o_cellAt a_o_courseAt a_o_paceAt a_o_turnsAt a_o_slowAt a_o_fuelAt a_o_ringAt a_o_pieceParts a_o_dragCell a_o_dragBy a_o_sums a_o_shares a_o_keptFar a_o_image a_o_lanes a_o_sizes a_o_items a_o_movedItems o_taped o_at o_wrong o_level o_noRings o_noTones o_noFuel o_pieces o_drags o_all o_noPieces o_noDrags o_kept o_sets o_currents o_warmths o_pieceParts v2 v1 _ (okb1 hw)) (cwV 2 hts (gdV (fun w h => List.mem_cons_of_mem _ h) q_975 q_977 qs_37 q_8 q_978) rfl rfl rfl (by decide +kernel) ⟨Nat.le_of_ble_eq_true rfl, Nat.le_of_ble_eq_true rfl⟩) ⟨(kpre zN_ok hK hPc hDc trivial hS hFc).1, va_recv hK hP (ci := 7) (q0 := 0) rfl rfl, (kpre zN_ok hK hPc hDc trivial hS hFc).2⟩ rfl rfl hl.1 rfl (lv_room (Nat.le_of_ble_eq_true rfl)) dX7_ends_183 ⟨Nat.le_of_ble_eq_true rfl, Nat.le_of_ble_eq_true rfl⟩) hP hD hS hFc [0, 1, 4, 5, 14] [2, 3, 6, 7, 8, 9, 10, 11, 12, 13, 15, 16, 17] rfl rfl (by decide +kernel) (by decide +kernel) (fun r_21 u H locs hw hP hD hS => ?_)
                try dsimp only at hw
                have hP : va_P (dC, dI) vwCl (W_X7_ends cyI cyJ cyO h_o a_o_sets a_o_ringFar a_o_ringTone a_o_currents a_o_warmths a_o_depths a_o_tape a_o_readFar a_o_readTone a_o_readSea a_o_code a_o_cellAt a_o_courseAt a_o_paceAt a_o_turnsAt a_o_slowAt a_o_fuelAt a_o_ringAt a_o_pieceParts a_o_dragCell a_o_dragBy a_o_sums a_o_shares a_o_keptFar a_o_image a_o_lanes a_o_sizes a_o_items a_o_movedItems o_taped o_at o_wrong o_level o_noRings o_noTones o_noFuel o_pieces o_drags o_all o_noPieces o_noDrags o_kept o_sets o_ringFar o_ringTone o_currents o_warmths o_code o_cellAt o_courseAt o_paceAt o_turnsAt o_slowAt o_fuelAt o_ringAt o_pieceParts o_dragCell o_dragBy o_sums) H := hP.sub [13, 14, 0, 1, 15, 16, 2, 3, 4, 5, 6, 7, 8, 9, 17, 10, 11, 12] rfl
                have hD : va_D A (W_X7_ends cyI cyJ cyO h_o a_o_sets a_o_ringFar a_o_ringTone a_o_currents a_o_warmths a_o_depths a_o_tape a_o_readFar a_o_readTone a_o_readSea a_o_code a_o_cellAt a_o_courseAt a_o_paceAt a_o_turnsAt a_o_slowAt a_o_fuelAt a_o_ringAt a_o_pieceParts a_o_dragCell a_o_dragBy a_o_sums a_o_shares a_o_keptFar a_o_image a_o_lanes a_o_sizes a_o_items a_o_movedItems o_taped o_at o_wrong o_level o_noRings o_noTones o_noFuel o_pieces o_drags o_all o_noPieces o_noDrags o_kept o_sets o_ringFar o_ringTone o_currents o_warmths o_code o_cellAt o_courseAt o_paceAt o_turnsAt o_slowAt o_fuelAt o_ringAt o_pieceParts o_dragCell o_dragBy o_sums) := hD.sub [13, 14, 0, 1, 15, 16, 2, 3, 4, 5, 6, 7, 8, 9, 17, 10, 11, 12] (by decide +kernel) rfl
                clear hPc hDc hFc
                refine lv_i2l (v := r_21.toInt64) hx hb dX7_ends_186 rfl ?_
                exact w187 v1 v2 r_21.toInt64 (o_sums v1.toNatClampNeg) v1 o_level o_all o_code o_cellAt o_courseAt o_paceAt o_turnsAt o_slowAt o_fuelAt o_ringAt o_sums _ _ hP hD hS _ (lv_sub hl [0, 1, 2] rfl) hw
              · replace hw := okT hw c_20
                clear c_20
                exact w176 v1 v2 (o_sums v1.toNatClampNeg) v1 o_level o_all o_code o_cellAt o_courseAt o_paceAt o_turnsAt o_slowAt o_fuelAt o_ringAt o_sums _ _ hP hD hS _ (lv_sub hl [0, 1, 2] rfl) hw
      intro v1 o_level o_all o_code o_cellAt o_courseAt o_paceAt o_turnsAt o_slowAt o_fuelAt o_ringAt o_sums H locs hP hD hS ls hl hw
      replace hw : okP (f_X7_ends_L130b (f_X7_ends_L130 n130) v1 o_level o_noRings o_noTones o_noFuel o_pieces o_drags o_all o_noPieces o_noDrags o_sets o_ringFar o_ringTone o_currents o_warmths o_code o_cellAt o_courseAt o_paceAt o_turnsAt o_slowAt o_fuelAt o_ringAt o_pieceParts o_dragCell o_dragBy o_sums) post := hw
      unfold f_X7_ends_L130b at hw
      refine lv_iload_n hx hb dX7_ends_130 rfl (lv_at hl 1 rfl) ?_
      refine lv_bipush (v := 100) hx hb dX7_ends_131 (by decide) ?_
      refine lv_icmp_ge (tgt := 274) hx hb dX7_ends_133 (by decide) (fun c_22 => ?_) (fun c_22 => ?_)
      · replace hw := okT hw c_22
        clear c_22
        rw [hQ]
        exact W.vret hx hb hr (fun t ht hW => ⟨⟨(o_level, o_all, o_code, o_cellAt, o_courseAt, o_paceAt, o_turnsAt, o_slowAt, o_fuelAt, o_ringAt, o_sums), rfl, okS hw, by rw [ht]; exact hP, va_K.moved hW.alike hK, hD⟩, hS.F ht⟩) hS.2.2 dX7_ends_274
      · replace hw := okF hw c_22
        clear c_22
        refine lv_iconst (v := 0) hx hb dX7_ends_136 (by decide) ?_
        refine lv_istore_n (lv' := [(2, .int 0), (0, .ref h_o), (1, .int v1)]) hx hb dX7_ends_137 rfl hl (by decide) rfl (fun ls hl => ?_)
        exact w138 FU v1 0 o_level o_all o_code o_cellAt o_courseAt o_paceAt o_turnsAt o_slowAt o_fuelAt o_ringAt o_sums _ _ hP hD hS _ (lv_sub hl [1, 2, 0] rfl) hw
  have w25 : ∀ (n : Nat), ∀ (o_level : Int32) (o_all : Int64) (o_code : Nat → Int32) (o_cellAt : Nat → Int32) (o_courseAt : Nat → Int32) (o_paceAt : Nat → Int32) (o_turnsAt : Nat → Int32) (o_slowAt : Nat → Int32) (o_fuelAt : Nat → Int32) (o_ringAt : Nat → Int32) (o_sums : Nat → Int64) (H : Heap) (locs : List Loc), va_P (dC, dI) vwCl (W_X7_ends cyI cyJ cyO h_o a_o_sets a_o_ringFar a_o_ringTone a_o_currents a_o_warmths a_o_depths a_o_tape a_o_readFar a_o_readTone a_o_readSea a_o_code a_o_cellAt a_o_courseAt a_o_paceAt a_o_turnsAt a_o_slowAt a_o_fuelAt a_o_ringAt a_o_pieceParts a_o_dragCell a_o_dragBy a_o_sums a_o_shares a_o_keptFar a_o_image a_o_lanes a_o_sizes a_o_items a_o_movedItems o_taped o_at o_wrong o_level o_noRings o_noTones o_noFuel o_pieces o_drags o_all o_noPieces o_noDrags o_kept o_sets o_ringFar o_ringTone o_currents o_warmths o_code o_cellAt o_courseAt o_paceAt o_turnsAt o_slowAt o_fuelAt o_ringAt o_pieceParts o_dragCell o_dragBy o_sums) H → va_D A (W_X7_ends cyI cyJ cyO h_o a_o_sets a_o_ringFar a_o_ringTone a_o_currents a_o_warmths a_o_depths a_o_tape a_o_readFar a_o_readTone a_o_readSea a_o_code a_o_cellAt a_o_courseAt a_o_paceAt a_o_turnsAt a_o_slowAt a_o_fuelAt a_o_ringAt a_o_pieceParts a_o_dragCell a_o_dragBy a_o_sums a_o_shares a_o_keptFar a_o_image a_o_lanes a_o_sizes a_o_items a_o_movedItems o_taped o_at o_wrong o_level o_noRings o_noTones o_noFuel o_pieces o_drags o_all o_noPieces o_noDrags o_kept o_sets o_ringFar o_ringTone o_currents o_warmths o_code o_cellAt o_courseAt o_paceAt o_turnsAt o_slowAt o_fuelAt o_ringAt o_pieceParts o_dragCell o_dragBy o_sums) → va_S A s.heap H locs → ∀ (ls : Array Slot), lv_has ls 5 [(0, .ref h_o)] → okP (f_X7_ends_L25 n o_level o_noRings o_noTones o_noFuel o_pieces o_drags o_all o_noPieces o_noDrags o_sets o_ringFar o_ringTone o_currents o_warmths o_code o_cellAt o_courseAt o_paceAt o_turnsAt o_slowAt o_fuelAt o_ringAt o_pieceParts o_dragCell o_dragBy o_sums) post → W p l e (headSpec wsX7_ends rm_X7_ends).room s m ([.ref h_o] : List Value).toArray below meth c H locs 0 0 Q (F0 m 25 ls []) := by
    intro n
    induction n with
    | zero =>
      intro o_level o_all o_code o_cellAt o_courseAt o_paceAt o_turnsAt o_slowAt o_fuelAt o_ringAt o_sums H locs hP hD hS ls hl hw
      exact (ok0 hw).elim
    | succ n25 ih25 =>
      have w66 : ∀ (n : Nat), ∀ (v1 : Int32) (v2 : Int32) (v3 : Int32) (o_level : Int32) (o_all : Int64) (o_code : Nat → Int32) (o_cellAt : Nat → Int32) (o_courseAt : Nat → Int32) (o_paceAt : Nat → Int32) (o_turnsAt : Nat → Int32) (o_slowAt : Nat → Int32) (o_fuelAt : Nat → Int32) (o_ringAt : Nat → Int32) (o_sums : Nat → Int64) (H : Heap) (locs : List Loc), va_P (dC, dI) vwCl (W_X7_ends cyI cyJ cyO h_o a_o_sets a_o_ringFar a_o_ringTone a_o_currents a_o_warmths a_o_depths a_o_tape a_o_readFar a_o_readTone a_o_readSea a_o_code a_o_cellAt a_o_courseAt a_o_paceAt a_o_turnsAt a_o_slowAt a_o_fuelAt a_o_ringAt a_o_pieceParts a_o_dragCell a_o_dragBy a_o_sums a_o_shares a_o_keptFar a_o_image a_o_lanes a_o_sizes a_o_items a_o_movedItems o_taped o_at o_wrong o_level o_noRings o_noTones o_noFuel o_pieces o_drags o_all o_noPieces o_noDrags o_kept o_sets o_ringFar o_ringTone o_currents o_warmths o_code o_cellAt o_courseAt o_paceAt o_turnsAt o_slowAt o_fuelAt o_ringAt o_pieceParts o_dragCell o_dragBy o_sums) H → va_D A (W_X7_ends cyI cyJ cyO h_o a_o_sets a_o_ringFar a_o_ringTone a_o_currents a_o_warmths a_o_depths a_o_tape a_o_readFar a_o_readTone a_o_readSea a_o_code a_o_cellAt a_o_courseAt a_o_paceAt a_o_turnsAt a_o_slowAt a_o_fuelAt a_o_ringAt a_o_pieceParts a_o_dragCell a_o_dragBy a_o_sums a_o_shares a_o_keptFar a_o_image a_o_lanes a_o_sizes a_o_items a_o_movedItems o_taped o_at o_wrong o_level o_noRings o_noTones o_noFuel o_pieces o_drags o_all o_noPieces o_noDrags o_kept o_sets o_ringFar o_ringTone o_currents o_warmths o_code o_cellAt o_courseAt o_paceAt o_turnsAt o_slowAt o_fuelAt o_ringAt o_pieceParts o_dragCell o_dragBy o_sums) → va_S A s.heap H locs → ∀ (ls : Array Slot), lv_has ls 5 [(0, .ref h_o), (1, .int v1), (2, .int v2), (3, .int v3)] → okP (f_X7_ends_L66 (f_X7_ends_L25 n25) n v1 v2 v3 o_level o_noRings o_noTones o_noFuel o_pieces o_drags o_all o_noPieces o_noDrags o_sets o_ringFar o_ringTone o_currents o_warmths o_code o_cellAt o_courseAt o_paceAt o_turnsAt o_slowAt o_fuelAt o_ringAt o_pieceParts o_dragCell o_dragBy o_sums) post → W p l e (headSpec wsX7_ends rm_X7_ends).room s m ([.ref h_o] : List Value).toArray below meth c H locs 0 0 Q (F0 m 66 ls []) := by
        intro n
        induction n with
        | zero =>
          intro v1 v2 v3 o_level o_all o_code o_cellAt o_courseAt o_paceAt o_turnsAt o_slowAt o_fuelAt o_ringAt o_sums H locs hP hD hS ls hl hw
          exact (ok0 hw).elim
        | succ n66 ih66 =>
          have w114 : ∀ (v1 : Int32) (v2 : Int32) (v3 : Int32) (o_level : Int32) (o_all : Int64) (o_code : Nat → Int32) (o_cellAt : Nat → Int32) (o_courseAt : Nat → Int32) (o_paceAt : Nat → Int32) (o_turnsAt : Nat → Int32) (o_slowAt : Nat → Int32) (o_fuelAt : Nat → Int32) (o_ringAt : Nat → Int32) (o_sums : Nat → Int64) (H : Heap) (locs : List Loc), va_P (dC, dI) vwCl (W_X7_ends cyI cyJ cyO h_o a_o_sets a_o_ringFar a_o_ringTone a_o_currents a_o_warmths a_o_depths a_o_tape a_o_readFar a_o_readTone a_o_readSea a_o_code a_o_cellAt a_o_courseAt a_o_paceAt a_o_turnsAt a_o_slowAt a_o_fuelAt a_o_ringAt a_o_pieceParts a_o_dragCell a_o_dragBy a_o_sums a_o_shares a_o_keptFar a_o_image a_o_lanes a_o_sizes a_o_items a_o_movedItems o_taped o_at o_wrong o_level o_noRings o_noTones o_noFuel o_pieces o_drags o_all o_noPieces o_noDrags o_kept o_sets o_ringFar o_ringTone o_currents o_warmths o_code o_cellAt o_courseAt o_paceAt o_turnsAt o_slowAt o_fuelAt o_ringAt o_pieceParts o_dragCell o_dragBy o_sums) H → va_D A (W_X7_ends cyI cyJ cyO h_o a_o_sets a_o_ringFar a_o_ringTone a_o_currents a_o_warmths a_o_depths a_o_tape a_o_readFar a_o_readTone a_o_readSea a_o_code a_o_cellAt a_o_courseAt a_o_paceAt a_o_turnsAt a_o_slowAt a_o_fuelAt a_o_ringAt a_o_pieceParts a_o_dragCell a_o_dragBy a_o_sums a_o_shares a_o_keptFar a_o_image a_o_lanes a_o_sizes a_o_items a_o_movedItems o_taped o_at o_wrong o_level o_noRings o_noTones o_noFuel o_pieces o_drags o_all o_noPieces o_noDrags o_kept o_sets o_ringFar o_ringTone o_currents o_warmths o_code o_cellAt o_courseAt o_paceAt o_turnsAt o_slowAt o_fuelAt o_ringAt o_pieceParts o_dragCell o_dragBy o_sums) → va_S A s.heap H locs → ∀ (ls : Array Slot), lv_has ls 5 [(0, .ref h_o), (1, .int v1), (2, .int v2), (3, .int v3)] → okP (f_X7_ends_B114 (f_X7_ends_L25 n25) (f_X7_ends_L66 (f_X7_ends_L25 n25) n66) v1 v2 v3 o_level o_noRings o_noTones o_noFuel o_pieces o_drags o_all o_noPieces o_noDrags o_sets o_ringFar o_ringTone o_currents o_warmths o_code o_cellAt o_courseAt o_paceAt o_turnsAt o_slowAt o_fuelAt o_ringAt o_pieceParts o_dragCell o_dragBy o_sums) post → W p l e (headSpec wsX7_ends rm_X7_ends).room s m ([.ref h_o] : List Value).toArray below meth c H locs 0 0 Q (F0 m 114 ls []) := by
            intro v1 v2 v3 o_level o_all o_code o_cellAt o_courseAt o_paceAt o_turnsAt o_slowAt o_fuelAt o_ringAt o_sums H locs hP hD hS ls hl hw
            unfold f_X7_ends_B114 at hw
            obtain ⟨x_23, ex_23⟩ : ∃ y : Int32, y = v3 + 1 := ⟨_, rfl⟩
            replace hw := okN ex_23 hw
            refine lv_iinc (v := x_23) (lv' := [(3, .int x_23), (0, .ref h_o), (1, .int v1), (2, .int v2)]) hx hb dX7_ends_114 hl (k := 3) rfl (by rw [ex_23]; rfl) (by decide) rfl (fun ls hl => ?_)
            clear ex_23
            refine lv_goto (tgt := 66) hx hb dX7_ends_117 (by decide) ?_
            exact ih66 v1 v2 x_23 o_level o_all o_code o_cellAt o_courseAt o_paceAt o_turnsAt o_slowAt o_fuelAt o_ringAt o_sums _ _ hP hD hS _ (lv_sub hl [1, 2, 3, 0] rfl) hw
          intro v1 v2 v3 o_level o_all o_code o_cellAt o_courseAt o_paceAt o_turnsAt o_slowAt o_fuelAt o_ringAt o_sums H locs hP hD hS ls hl hw
          replace hw : okP (f_X7_ends_L66b (f_X7_ends_L25 n25) (f_X7_ends_L66 (f_X7_ends_L25 n25) n66) v1 v2 v3 o_level o_noRings o_noTones o_noFuel o_pieces o_drags o_all o_noPieces o_noDrags o_sets o_ringFar o_ringTone o_currents o_warmths o_code o_cellAt o_courseAt o_paceAt o_turnsAt o_slowAt o_fuelAt o_ringAt o_pieceParts o_dragCell o_dragBy o_sums) post := hw
          unfold f_X7_ends_L66b at hw
          refine lv_iload_n hx hb dX7_ends_66 rfl (lv_at hl 3 rfl) ?_
          refine lv_aload_n hx hb dX7_ends_67 rfl (lv_at hl 0 rfl) ?_
          refine va_get (D := (dC, dI)) (ci := 7) (v := .ref a_o_sets) (C := RX7) (T := TX7) (N := 42) hx hb hts hi7 hown hK hP 0 rfl rfl 0 (by decide) hq10 (fun _ h9 => h9) rfl dX7_ends_68 ?_
          refine lv_bipush (v := 6) hx hb dX7_ends_71 (by decide) ?_
          refine va_iald (i := 6) hx hb hK hP 1 0 rfl rfl (show ¬ _ by decide) dX7_ends_73 ?_
          refine lv_icmp_gt (tgt := 120) hx hb dX7_ends_74 (by decide) (fun c_24 => ?_) (fun c_24 => ?_)
          · replace hw := okT hw c_24
            clear c_24
            refine lv_goto (tgt := 25) hx hb dX7_ends_120 (by decide) ?_
            exact ih25 o_level o_all o_code o_cellAt o_courseAt o_paceAt o_turnsAt o_slowAt o_fuelAt o_ringAt o_sums _ _ hP hD hS _ (lv_sub hl [0] rfl) hw
          · replace hw := okF hw c_24
            clear c_24
            refine lv_aload_n hx hb dX7_ends_77 rfl (lv_at hl 0 rfl) ?_
            refine va_get (D := (dC, dI)) (ci := 7) (v := .ref a_o_cellAt) (C := RX7) (T := TX7) (N := 42) hx hb hts hi7 hown hK hP 0 rfl rfl 14 (by decide) hq11 (fun _ h9 => h9) rfl dX7_ends_78 ?_
            refine lv_iload_n hx hb dX7_ends_81 rfl (lv_at hl 1 rfl) ?_
            obtain ⟨h_25, hw⟩ := okC hw
            refine va_iald (i := v1) hx hb hK hP 7 0 rfl rfl h_25 dX7_ends_82 ?_
            refine lv_aload_n hx hb dX7_ends_83 rfl (lv_at hl 0 rfl) ?_
            refine va_get (D := (dC, dI)) (ci := 7) (v := .ref a_o_courseAt) (C := RX7) (T := TX7) (N := 42) hx hb hts hi7 hown hK hP 0 rfl rfl 15 (by decide) hq12 (fun _ h9 => h9) rfl dX7_ends_84 ?_
            refine lv_iload_n hx hb dX7_ends_87 rfl (lv_at hl 1 rfl) ?_
            refine lv_iconst (v := 1) hx hb dX7_ends_88 (by decide) ?_
            refine lv_isub hx hb dX7_ends_89 ?_
            obtain ⟨h_26, hw⟩ := okC hw
            refine va_iald (i := v1 - 1) hx hb hK hP 8 0 rfl rfl h_26 dX7_ends_90 ?_
            refine lv_iload_n hx hb dX7_ends_91 rfl (lv_at hl 3 rfl) ?_
            have hFc := va_free (wc := []) hD hS hA [] rfl
            refine kp_i (va_runS (As := [.int (o_cellAt v1.toNatClampNeg), .int (o_courseAt (v1 - 1).toNatClampNeg), .int v3]) (rest := []) ⟨hx, hb, hml, hown, hts⟩ (c_X7_gone l dC dI cyI cyJ cyO H.size (o_cellAt v1.toNatClampNeg) (o_courseAt (v1 - 1).toNatClampNeg) v3 _ (okb1 hw)) (va_cwS 3 hts (gdS (fun w h => List.mem_cons_of_mem _ h) q_912 q_913 q_8 q_914) rfl rfl rfl (by decide +kernel) ⟨Nat.le_of_ble_eq_true rfl, Nat.le_of_ble_eq_true rfl⟩) (kpre zN_ok hK va_P0 va_D0 trivial hS hFc) rfl rfl hl.1 rfl (lv_room (Nat.le_of_ble_eq_true rfl)) dX7_ends_92 ⟨Nat.le_of_ble_eq_true rfl, Nat.le_of_ble_eq_true rfl⟩) hP hD hS hFc (fun r_27 H locs hw hP hS => ?_)
            try dsimp only at hw
            clear hFc
            refine lv_istore (lv' := [(4, .int r_27), (0, .ref h_o), (1, .int v1), (2, .int v2), (3, .int v3)]) hx hb dX7_ends_95 hl (by decide) rfl (fun ls hl => ?_)
            refine lv_iload hx hb dX7_ends_97 (lv_at hl 0 rfl) ?_
            refine lv_if_lt (tgt := 114) hx hb dX7_ends_99 (by decide) (fun c_28 => ?_) (fun c_28 => ?_)
            · replace hw := okT hw c_28
              clear c_28
              exact w114 v1 v2 v3 o_level o_all o_code o_cellAt o_courseAt o_paceAt o_turnsAt o_slowAt o_fuelAt o_ringAt o_sums _ _ hP hD hS _ (lv_sub hl [1, 2, 3, 4] rfl) hw
            · replace hw := okF hw c_28
              clear c_28
              refine lv_aload_n hx hb dX7_ends_102 rfl (lv_at hl 1 rfl) ?_
              refine va_get (D := (dC, dI)) (ci := 7) (v := .ref a_o_sums) (C := RX7) (T := TX7) (N := 42) hx hb hts hi7 hown hK hP 0 rfl rfl 30 (by decide) hq2 (fun _ h9 => h9) rfl dX7_ends_103 ?_
              refine lv_iload hx hb dX7_ends_106 (lv_at hl 0 rfl) ?_
              refine lv_dup2_11 hx hb dX7_ends_108 rfl rfl ?_
              obtain ⟨h_29, hw⟩ := okC hw
              refine va_lald (i := r_27) hx hb hK hP 17 1 rfl rfl h_29 dX7_ends_109 ?_
              refine lv_iload_n hx hb dX7_ends_110 rfl (lv_at hl 3 rfl) ?_
              refine lv_i2l (v := v2.toInt64) hx hb dX7_ends_111 rfl ?_
              refine lv_ladd hx hb dX7_ends_112 ?_
              refine lv_topl (fun x_30 ex_30 => ?_)
              replace hw := okN ex_30 hw
              clear ex_30
              obtain ⟨h_31, hw⟩ := okC hw
              refine va_last (i := r_27) (x := x_30) hx hb hK hP hD hS 17 1 rfl rfl h_31 dX7_ends_113 (fun H locs hP hD hS => ?_)
              have hP : va_P (dC, dI) vwCl (W_X7_ends cyI cyJ cyO h_o a_o_sets a_o_ringFar a_o_ringTone a_o_currents a_o_warmths a_o_depths a_o_tape a_o_readFar a_o_readTone a_o_readSea a_o_code a_o_cellAt a_o_courseAt a_o_paceAt a_o_turnsAt a_o_slowAt a_o_fuelAt a_o_ringAt a_o_pieceParts a_o_dragCell a_o_dragBy a_o_sums a_o_shares a_o_keptFar a_o_image a_o_lanes a_o_sizes a_o_items a_o_movedItems o_taped o_at o_wrong o_level o_noRings o_noTones o_noFuel o_pieces o_drags o_all o_noPieces o_noDrags o_kept o_sets o_ringFar o_ringTone o_currents o_warmths o_code o_cellAt o_courseAt o_paceAt o_turnsAt o_slowAt o_fuelAt o_ringAt o_pieceParts o_dragCell o_dragBy (vp_updL o_sums r_27.toNatClampNeg x_30)) H := hP
              have hD : va_D A (W_X7_ends cyI cyJ cyO h_o a_o_sets a_o_ringFar a_o_ringTone a_o_currents a_o_warmths a_o_depths a_o_tape a_o_readFar a_o_readTone a_o_readSea a_o_code a_o_cellAt a_o_courseAt a_o_paceAt a_o_turnsAt a_o_slowAt a_o_fuelAt a_o_ringAt a_o_pieceParts a_o_dragCell a_o_dragBy a_o_sums a_o_shares a_o_keptFar a_o_image a_o_lanes a_o_sizes a_o_items a_o_movedItems o_taped o_at o_wrong o_level o_noRings o_noTones o_noFuel o_pieces o_drags o_all o_noPieces o_noDrags o_kept o_sets o_ringFar o_ringTone o_currents o_warmths o_code o_cellAt o_courseAt o_paceAt o_turnsAt o_slowAt o_fuelAt o_ringAt o_pieceParts o_dragCell o_dragBy (vp_updL o_sums r_27.toNatClampNeg x_30)) := hD
              exact w114 v1 v2 v3 o_level o_all o_code o_cellAt o_courseAt o_paceAt o_turnsAt o_slowAt o_fuelAt o_ringAt (vp_updL o_sums r_27.toNatClampNeg x_30) _ _ hP hD hS _ (lv_sub hl [1, 2, 3, 4] rfl) hw
      intro o_level o_all o_code o_cellAt o_courseAt o_paceAt o_turnsAt o_slowAt o_fuelAt o_ringAt o_sums H locs hP hD hS ls hl hw
      replace hw : okP (f_X7_ends_L25b (f_X7_ends_L25 n25) o_level o_noRings o_noTones o_noFuel o_pieces o_drags o_all o_noPieces o_noDrags o_sets o_ringFar o_ringTone o_currents o_warmths o_code o_cellAt o_courseAt o_paceAt o_turnsAt o_slowAt o_fuelAt o_ringAt o_pieceParts o_dragCell o_dragBy o_sums) post := hw
      unfold f_X7_ends_L25b at hw
      refine lv_aload_n hx hb dX7_ends_25 rfl (lv_at hl 0 rfl) ?_
      have hPc := hP.sub (ws' := (W_X7_goesOn cyI cyJ cyO h_o a_o_sets a_o_ringFar a_o_ringTone a_o_currents a_o_warmths a_o_depths a_o_tape a_o_readFar a_o_readTone a_o_readSea a_o_code a_o_cellAt a_o_courseAt a_o_paceAt a_o_turnsAt a_o_slowAt a_o_fuelAt a_o_ringAt a_o_pieceParts a_o_dragCell a_o_dragBy a_o_sums a_o_shares a_o_keptFar a_o_image a_o_lanes a_o_sizes a_o_items a_o_movedItems o_taped o_at o_wrong o_level o_noRings o_noTones o_noFuel o_pieces o_drags o_all o_noPieces o_noDrags o_kept o_sets o_ringFar o_ringTone o_code o_cellAt o_courseAt o_paceAt o_turnsAt o_slowAt o_fuelAt o_ringAt)) [0, 1, 2, 3, 6, 7, 8, 9, 10, 11, 12, 13] rfl
      have hDc := hD.sub (ws' := (W_X7_goesOn cyI cyJ cyO h_o a_o_sets a_o_ringFar a_o_ringTone a_o_currents a_o_warmths a_o_depths a_o_tape a_o_readFar a_o_readTone a_o_readSea a_o_code a_o_cellAt a_o_courseAt a_o_paceAt a_o_turnsAt a_o_slowAt a_o_fuelAt a_o_ringAt a_o_pieceParts a_o_dragCell a_o_dragBy a_o_sums a_o_shares a_o_keptFar a_o_image a_o_lanes a_o_sizes a_o_items a_o_movedItems o_taped o_at o_wrong o_level o_noRings o_noTones o_noFuel o_pieces o_drags o_all o_noPieces o_noDrags o_kept o_sets o_ringFar o_ringTone o_code o_cellAt o_courseAt o_paceAt o_turnsAt o_slowAt o_fuelAt o_ringAt)) [0, 1, 2, 3, 6, 7, 8, 9, 10, 11, 12, 13] (by decide +kernel) rfl
      have hFc := va_free (wc := (W_X7_goesOn cyI cyJ cyO h_o a_o_sets a_o_ringFar a_o_ringTone a_o_currents a_o_warmths a_o_depths a_o_tape a_o_readFar a_o_readTone a_o_readSea a_o_code a_o_cellAt a_o_courseAt a_o_paceAt a_o_turnsAt a_o_slowAt a_o_fuelAt a_o_ringAt a_o_pieceParts a_o_dragCell a_o_dragBy a_o_sums a_o_shares a_o_keptFar a_o_image a_o_lanes a_o_sizes a_o_items a_o_movedItems o_taped o_at o_wrong o_level o_noRings o_noTones o_noFuel o_pieces o_drags o_all o_noPieces o_noDrags o_kept o_sets o_ringFar o_ringTone o_code o_cellAt o_courseAt o_paceAt o_turnsAt o_slowAt o_fuelAt o_ringAt)) hD hS hA [0, 1, 2, 3, 6, 7, 8, 9, 10, 11, 12, 13] rfl
      refine kc_i (wr := [(a_o_currents, .inl (cyI, 200, .inl o_currents)), (a_o_warmths, .inl (cyI, 200, .inl o_warmths)), (a_o_pieceParts, .inl (cyI, 20, .inl o_pieceParts)), (a_o_dragCell, .inl (cyI, 6, .inl o_dragCell)), (a_o_dragBy, .inl (cyI, 6, .inl o_dragBy)), (a_o_sums, .inl (cyJ, 100, .inr (.inl o_sums)))]) (va_runV (As := []) (rest := []) ⟨hx, hb, hml, hown, hts⟩ (c_X7_goesOn l dC dI cyI cyJ cyO H.size h_o a_o_sets a_o_ringFar a_o_ringTone a_o_currents a_o_warmths a_o_depths a_o_tape a_o_readFar a_o_readTone a_o_readSea a_o_code a_o_cellAt a_o_courseAt a_o_paceAt a_o_turnsAt a_o_slowAt a_o_fuelAt a_o_ringAt a_o_pieceParts a_o_dragCell a_o_dragBy a_o_sums a_o_shares a_o_keptFar a_o_image a_o_lanes a_o_sizes a_o_items a_o_movedItems o_taped o_at o_wrong o_level o_noRings o_noTones o_noFuel o_pieces o_drags o_all o_noPieces o_noDrags o_kept o_sets o_ringFar o_ringTone o_code o_cellAt o_courseAt o_paceAt o_turnsAt o_slowAt o_fuelAt o_ringAt _ (okb10 hw)) (cwV 0 hts (gdV (fun w h => List.mem_cons_of_mem _ h) q_904 q_906 qs_30 q_8 q_907) rfl rfl rfl (by decide +kernel) ⟨Nat.le_of_ble_eq_true rfl, Nat.le_of_ble_eq_true rfl⟩) ⟨(kpre zN_ok hK hPc hDc trivial hS hFc).1, va_recv hK hP (ci := 7) (q0 := 0) rfl rfl, (kpre zN_ok hK hPc hDc trivial hS hFc).2⟩ rfl rfl hl.1 rfl (lv_room (Nat.le_of_ble_eq_true rfl)) dX7_ends_26 ⟨Nat.le_of_ble_eq_true rfl, Nat.le_of_ble_eq_true rfl⟩) hP hD hS hFc [0, 1, 2, 3, 6, 7, 8, 9, 10, 11, 12, 13] [4, 5, 14, 15, 16, 17] rfl rfl (by decide +kernel) (by decide +kernel) (fun r_32 u H locs hw hP hD hS => ?_)
      obtain ⟨w_33, w_34, w_35, w_36, w_37, w_38, w_39, w_40, w_41⟩ := u
      try dsimp only at hw
      have hP : va_P (dC, dI) vwCl (W_X7_ends cyI cyJ cyO h_o a_o_sets a_o_ringFar a_o_ringTone a_o_currents a_o_warmths a_o_depths a_o_tape a_o_readFar a_o_readTone a_o_readSea a_o_code a_o_cellAt a_o_courseAt a_o_paceAt a_o_turnsAt a_o_slowAt a_o_fuelAt a_o_ringAt a_o_pieceParts a_o_dragCell a_o_dragBy a_o_sums a_o_shares a_o_keptFar a_o_image a_o_lanes a_o_sizes a_o_items a_o_movedItems o_taped o_at o_wrong w_33 o_noRings o_noTones o_noFuel o_pieces o_drags o_all o_noPieces o_noDrags o_kept o_sets o_ringFar o_ringTone o_currents o_warmths w_34 w_35 w_36 w_37 w_38 w_39 w_40 w_41 o_pieceParts o_dragCell o_dragBy o_sums) H := hP.sub [6, 7, 8, 9, 0, 1, 10, 11, 12, 13, 14, 15, 16, 17, 2, 3, 4, 5] rfl
      have hD : va_D A (W_X7_ends cyI cyJ cyO h_o a_o_sets a_o_ringFar a_o_ringTone a_o_currents a_o_warmths a_o_depths a_o_tape a_o_readFar a_o_readTone a_o_readSea a_o_code a_o_cellAt a_o_courseAt a_o_paceAt a_o_turnsAt a_o_slowAt a_o_fuelAt a_o_ringAt a_o_pieceParts a_o_dragCell a_o_dragBy a_o_sums a_o_shares a_o_keptFar a_o_image a_o_lanes a_o_sizes a_o_items a_o_movedItems o_taped o_at o_wrong w_33 o_noRings o_noTones o_noFuel o_pieces o_drags o_all o_noPieces o_noDrags o_kept o_sets o_ringFar o_ringTone o_currents o_warmths w_34 w_35 w_36 w_37 w_38 w_39 w_40 w_41 o_pieceParts o_dragCell o_dragBy o_sums) := hD.sub [6, 7, 8, 9, 0, 1, 10, 11, 12, 13, 14, 15, 16, 17, 2, 3, 4, 5] (by decide +kernel) rfl
      clear hPc hDc hFc
      refine lv_if_eq (tgt := 123) hx hb dX7_ends_29 (by decide) (fun c_42 => ?_) (fun c_42 => ?_)
      · replace hw := okT hw c_42
        clear c_42
        refine lv_aload_n hx hb dX7_ends_123 rfl (lv_at hl 0 rfl) ?_
        refine lv_lconst (v := 0) hx hb dX7_ends_124 (by decide) ?_
        refine va_put (D := (dC, dI)) (ci := 7) (v := .long 0) (ty := .long) (C := RX7) (T := TX7) (N := 42) hx hb hts hi7 tyX7 tyX7_ok nmX7 hown hK hP hD hS 0 rfl rfl 31 (by decide) hq0 (fun _ h9 => h9) rfl (by decide +kernel) rfl rfl (Nat.le_of_ble_eq_true rfl) dX7_ends_125 (fun H locs hP hD hS => ?_)
        have hP : va_P (dC, dI) vwCl (W_X7_ends cyI cyJ cyO h_o a_o_sets a_o_ringFar a_o_ringTone a_o_currents a_o_warmths a_o_depths a_o_tape a_o_readFar a_o_readTone a_o_readSea a_o_code a_o_cellAt a_o_courseAt a_o_paceAt a_o_turnsAt a_o_slowAt a_o_fuelAt a_o_ringAt a_o_pieceParts a_o_dragCell a_o_dragBy a_o_sums a_o_shares a_o_keptFar a_o_image a_o_lanes a_o_sizes a_o_items a_o_movedItems o_taped o_at o_wrong w_33 o_noRings o_noTones o_noFuel o_pieces o_drags 0 o_noPieces o_noDrags o_kept o_sets o_ringFar o_ringTone o_currents o_warmths w_34 w_35 w_36 w_37 w_38 w_39 w_40 w_41 o_pieceParts o_dragCell o_dragBy o_sums) H := hP
        have hD : va_D A (W_X7_ends cyI cyJ cyO h_o a_o_sets a_o_ringFar a_o_ringTone a_o_currents a_o_warmths a_o_depths a_o_tape a_o_readFar a_o_readTone a_o_readSea a_o_code a_o_cellAt a_o_courseAt a_o_paceAt a_o_turnsAt a_o_slowAt a_o_fuelAt a_o_ringAt a_o_pieceParts a_o_dragCell a_o_dragBy a_o_sums a_o_shares a_o_keptFar a_o_image a_o_lanes a_o_sizes a_o_items a_o_movedItems o_taped o_at o_wrong w_33 o_noRings o_noTones o_noFuel o_pieces o_drags 0 o_noPieces o_noDrags o_kept o_sets o_ringFar o_ringTone o_currents o_warmths w_34 w_35 w_36 w_37 w_38 w_39 w_40 w_41 o_pieceParts o_dragCell o_dragBy o_sums) := hD
        refine lv_iconst (v := 0) hx hb dX7_ends_128 (by decide) ?_
        refine lv_istore_n (lv' := [(1, .int 0), (0, .ref h_o)]) hx hb dX7_ends_129 rfl hl (by decide) rfl (fun ls hl => ?_)
        exact w130 FU 0 w_33 0 w_34 w_35 w_36 w_37 w_38 w_39 w_40 w_41 o_sums _ _ hP hD hS _ (lv_sub hl [1, 0] rfl) hw
      · replace hw := okF hw c_42
        clear c_42
        refine lv_aload_n hx hb dX7_ends_32 rfl (lv_at hl 0 rfl) ?_
        refine va_get (D := (dC, dI)) (ci := 7) (v := .ref a_o_sets) (C := RX7) (T := TX7) (N := 42) hx hb hts hi7 hown hK hP 0 rfl rfl 0 (by decide) hq10 (fun _ h9 => h9) rfl dX7_ends_33 ?_
        refine lv_iconst (v := 2) hx hb dX7_ends_36 (by decide) ?_
        refine va_iald (i := 2) hx hb hK hP 1 0 rfl rfl (show ¬ _ by decide) dX7_ends_37 ?_
        refine lv_topi (fun x_43 ex_43 => ?_)
        replace hw := okN ex_43 hw
        clear ex_43
        refine lv_istore_n (lv' := [(1, .int x_43), (0, .ref h_o)]) hx hb dX7_ends_38 rfl hl (by decide) rfl (fun ls hl => ?_)
        refine lv_aload_n hx hb dX7_ends_39 rfl (lv_at hl 1 rfl) ?_
        have hPc := hP.sub (ws' := (W_X7_heavy cyI cyJ cyO h_o a_o_sets a_o_ringFar a_o_ringTone a_o_currents a_o_warmths a_o_depths a_o_tape a_o_readFar a_o_readTone a_o_readSea a_o_code a_o_cellAt a_o_courseAt a_o_paceAt a_o_turnsAt a_o_slowAt a_o_fuelAt a_o_ringAt a_o_pieceParts a_o_dragCell a_o_dragBy a_o_sums a_o_shares a_o_keptFar a_o_image a_o_lanes a_o_sizes a_o_items a_o_movedItems o_taped o_at o_wrong w_33 o_noRings o_noTones o_noFuel o_pieces o_drags o_all o_noPieces o_noDrags o_kept o_sets w_38 w_39 w_41)) [0, 1, 10, 11, 13] rfl
        have hDc := hD.sub (ws' := (W_X7_heavy cyI cyJ cyO h_o a_o_sets a_o_ringFar a_o_ringTone a_o_currents a_o_warmths a_o_depths a_o_tape a_o_readFar a_o_readTone a_o_readSea a_o_code a_o_cellAt a_o_courseAt a_o_paceAt a_o_turnsAt a_o_slowAt a_o_fuelAt a_o_ringAt a_o_pieceParts a_o_dragCell a_o_dragBy a_o_sums a_o_shares a_o_keptFar a_o_image a_o_lanes a_o_sizes a_o_items a_o_movedItems o_taped o_at o_wrong w_33 o_noRings o_noTones o_noFuel o_pieces o_drags o_all o_noPieces o_noDrags o_kept o_sets w_38 w_39 w_41)) [0, 1, 10, 11, 13] (by decide +kernel) rfl
        have hFc := va_free (wc := (W_X7_heavy cyI cyJ cyO h_o a_o_sets a_o_ringFar a_o_ringTone a_o_currents a_o_warmths a_o_depths a_o_tape a_o_readFar a_o_readTone a_o_readSea a_o_code a_o_cellAt a_o_courseAt a_o_paceAt a_o_turnsAt a_o_slowAt a_o_fuelAt a_o_ringAt a_o_pieceParts a_o_dragCell a_o_dragBy a_o_sums a_o_shares a_o_keptFar a_o_image a_o_lanes a_o_sizes a_o_items a_o_movedItems o_taped o_at o_wrong w_33 o_noRings o_noTones o_noFuel o_pieces o_drags o_all o_noPieces o_noDrags o_kept o_sets w_38 w_39 w_41)) hD hS hA [0, 1, 10, 11, 13] rfl
        refine kc_i (wr := [(a_o_ringFar, .inl (cyI, 7, .inl o_ringFar)), (a_o_ringTone, .inl (cyI, 7, .inl o_ringTone)), (a_o_currents, .inl (cyI, 200, .inl o_currents)), (a_o_warmths, .inl (cyI, 200, .inl o_warmths)), (a_o_code, .inl (cyI, 7, .inl w_34)), (a_o_cellAt, .inl (cyI, 7, .inl w_35)), (a_o_courseAt, .inl (cyI, 7, .inl w_36)), (a_o_paceAt, .inl (cyI, 7, .inl w_37)), (a_o_fuelAt, .inl (cyI, 7, .inl w_40)), (a_o_pieceParts, .inl (cyI, 20, .inl o_pieceParts)), (a_o_dragCell, .inl (cyI, 6, .inl o_dragCell)), (a_o_dragBy, .inl (cyI, 6, .inl o_dragBy)), (a_o_sums, .inl (cyJ, 100, .inr (.inl o_sums)))]) (va_runV (As := []) (rest := []) ⟨hx, hb, hml, hown, hts⟩ (c_X7_heavy l dC dI cyI cyJ cyO H.size h_o a_o_sets a_o_ringFar a_o_ringTone a_o_currents a_o_warmths a_o_depths a_o_tape a_o_readFar a_o_readTone a_o_readSea a_o_code a_o_cellAt a_o_courseAt a_o_paceAt a_o_turnsAt a_o_slowAt a_o_fuelAt a_o_ringAt a_o_pieceParts a_o_dragCell a_o_dragBy a_o_sums a_o_shares a_o_keptFar a_o_image a_o_lanes a_o_sizes a_o_items a_o_movedItems o_taped o_at o_wrong w_33 o_noRings o_noTones o_noFuel o_pieces o_drags o_all o_noPieces o_noDrags o_kept o_sets w_38 w_39 w_41 _ (okb1 hw)) (cwV 0 hts (gdV (fun w h => List.mem_cons_of_mem _ h) q_929 q_931 qs_33 q_8 q_932) rfl rfl rfl (by decide +kernel) ⟨Nat.le_of_ble_eq_true rfl, Nat.le_of_ble_eq_true rfl⟩) ⟨(kpre zN_ok hK hPc hDc trivial hS hFc).1, va_recv hK hP (ci := 7) (q0 := 0) rfl rfl, (kpre zN_ok hK hPc hDc trivial hS hFc).2⟩ rfl rfl hl.1 rfl (lv_room (Nat.le_of_ble_eq_true rfl)) dX7_ends_40 ⟨Nat.le_of_ble_eq_true rfl, Nat.le_of_ble_eq_true rfl⟩) hP hD hS hFc [0, 1, 10, 11, 13] [2, 3, 4, 5, 6, 7, 8, 9, 12, 14, 15, 16, 17] rfl rfl (by decide +kernel) (by decide +kernel) (fun r_44 u H locs hw hP hD hS => ?_)
        try dsimp only at hw
        have hP : va_P (dC, dI) vwCl (W_X7_ends cyI cyJ cyO h_o a_o_sets a_o_ringFar a_o_ringTone a_o_currents a_o_warmths a_o_depths a_o_tape a_o_readFar a_o_readTone a_o_readSea a_o_code a_o_cellAt a_o_courseAt a_o_paceAt a_o_turnsAt a_o_slowAt a_o_fuelAt a_o_ringAt a_o_pieceParts a_o_dragCell a_o_dragBy a_o_sums a_o_shares a_o_keptFar a_o_image a_o_lanes a_o_sizes a_o_items a_o_movedItems o_taped o_at o_wrong w_33 o_noRings o_noTones o_noFuel o_pieces o_drags o_all o_noPieces o_noDrags o_kept o_sets o_ringFar o_ringTone o_currents o_warmths w_34 w_35 w_36 w_37 w_38 w_39 w_40 w_41 o_pieceParts o_dragCell o_dragBy o_sums) H := hP.sub [13, 14, 0, 1, 2, 3, 4, 5, 6, 7, 15, 16, 8, 17, 9, 10, 11, 12] rfl
        have hD : va_D A (W_X7_ends cyI cyJ cyO h_o a_o_sets a_o_ringFar a_o_ringTone a_o_currents a_o_warmths a_o_depths a_o_tape a_o_readFar a_o_readTone a_o_readSea a_o_code a_o_cellAt a_o_courseAt a_o_paceAt a_o_turnsAt a_o_slowAt a_o_fuelAt a_o_ringAt a_o_pieceParts a_o_dragCell a_o_dragBy a_o_sums a_o_shares a_o_keptFar a_o_image a_o_lanes a_o_sizes a_o_items a_o_movedItems o_taped o_at o_wrong w_33 o_noRings o_noTones o_noFuel o_pieces o_drags o_all o_noPieces o_noDrags o_kept o_sets o_ringFar o_ringTone o_currents o_warmths w_34 w_35 w_36 w_37 w_38 w_39 w_40 w_41 o_pieceParts o_dragCell o_dragBy o_sums) := hD.sub [13, 14, 0, 1, 2, 3, 4, 5, 6, 7, 15, 16, 8, 17, 9, 10, 11, 12] (by decide +kernel) rfl
        clear hPc hDc hFc
        refine lv_istore_n (lv' := [(2, .int r_44), (1, .int x_43), (0, .ref h_o)]) hx hb dX7_ends_43 rfl hl (by decide) rfl (fun ls hl => ?_)
        refine lv_aload_n hx hb dX7_ends_44 rfl (lv_at hl 2 rfl) ?_
        refine va_get (D := (dC, dI)) (ci := 7) (v := .ref a_o_sums) (C := RX7) (T := TX7) (N := 42) hx hb hts hi7 hown hK hP 0 rfl rfl 30 (by decide) hq2 (fun _ h9 => h9) rfl dX7_ends_45 ?_
        refine lv_aload_n hx hb dX7_ends_48 rfl (lv_at hl 2 rfl) ?_
        refine va_get (D := (dC, dI)) (ci := 7) (v := .ref a_o_cellAt) (C := RX7) (T := TX7) (N := 42) hx hb hts hi7 hown hK hP 0 rfl rfl 14 (by decide) hq11 (fun _ h9 => h9) rfl dX7_ends_49 ?_
        refine lv_iload_n hx hb dX7_ends_52 rfl (lv_at hl 1 rfl) ?_
        obtain ⟨h_45, hw⟩ := okC hw
        refine va_iald (i := x_43) hx hb hK hP 7 0 rfl rfl h_45 dX7_ends_53 ?_
        refine lv_topi (fun x_46 ex_46 => ?_)
        replace hw := okN ex_46 hw
        clear ex_46
        refine lv_dup2_11 hx hb dX7_ends_54 rfl rfl ?_
        obtain ⟨h_47, hw⟩ := okC hw
        refine va_lald (i := x_46) hx hb hK hP 17 1 rfl rfl h_47 dX7_ends_55 ?_
        refine lv_ldc2 (v := 2) hx hb hown hq13 dX7_ends_56 ?_
        refine lv_iload_n hx hb dX7_ends_59 rfl (lv_at hl 0 rfl) ?_
        refine lv_i2l (v := r_44.toInt64) hx hb dX7_ends_60 rfl ?_
        refine lv_lmul hx hb dX7_ends_61 ?_
        refine lv_ladd hx hb dX7_ends_62 ?_
        refine lv_topl (fun x_48 ex_48 => ?_)
        replace hw := okN ex_48 hw
        clear ex_48
        obtain ⟨h_49, hw⟩ := okC hw
        refine va_last (i := x_46) (x := x_48) hx hb hK hP hD hS 17 1 rfl rfl h_49 dX7_ends_63 (fun H locs hP hD hS => ?_)
        have hP : va_P (dC, dI) vwCl (W_X7_ends cyI cyJ cyO h_o a_o_sets a_o_ringFar a_o_ringTone a_o_currents a_o_warmths a_o_depths a_o_tape a_o_readFar a_o_readTone a_o_readSea a_o_code a_o_cellAt a_o_courseAt a_o_paceAt a_o_turnsAt a_o_slowAt a_o_fuelAt a_o_ringAt a_o_pieceParts a_o_dragCell a_o_dragBy a_o_sums a_o_shares a_o_keptFar a_o_image a_o_lanes a_o_sizes a_o_items a_o_movedItems o_taped o_at o_wrong w_33 o_noRings o_noTones o_noFuel o_pieces o_drags o_all o_noPieces o_noDrags o_kept o_sets o_ringFar o_ringTone o_currents o_warmths w_34 w_35 w_36 w_37 w_38 w_39 w_40 w_41 o_pieceParts o_dragCell o_dragBy (vp_updL o_sums x_46.toNatClampNeg x_48)) H := hP
        have hD : va_D A (W_X7_ends cyI cyJ cyO h_o a_o_sets a_o_ringFar a_o_ringTone a_o_currents a_o_warmths a_o_depths a_o_tape a_o_readFar a_o_readTone a_o_readSea a_o_code a_o_cellAt a_o_courseAt a_o_paceAt a_o_turnsAt a_o_slowAt a_o_fuelAt a_o_ringAt a_o_pieceParts a_o_dragCell a_o_dragBy a_o_sums a_o_shares a_o_keptFar a_o_image a_o_lanes a_o_sizes a_o_items a_o_movedItems o_taped o_at o_wrong w_33 o_noRings o_noTones o_noFuel o_pieces o_drags o_all o_noPieces o_noDrags o_kept o_sets o_ringFar o_ringTone o_currents o_warmths w_34 w_35 w_36 w_37 w_38 w_39 w_40 w_41 o_pieceParts o_dragCell o_dragBy (vp_updL o_sums x_46.toNatClampNeg x_48)) := hD
        refine lv_iconst (v := 1) hx hb dX7_ends_64 (by decide) ?_
        refine lv_istore_n (lv' := [(3, .int 1), (2, .int r_44), (1, .int x_43), (0, .ref h_o)]) hx hb dX7_ends_65 rfl hl (by decide) rfl (fun ls hl => ?_)
        exact w66 FU x_43 r_44 1 w_33 o_all w_34 w_35 w_36 w_37 w_38 w_39 w_40 w_41 (vp_updL o_sums x_46.toNatClampNeg x_48) _ _ hP hD hS _ (lv_sub hl [3, 2, 1, 0] rfl) hw
  have w2 : ∀ (n : Nat), ∀ (v1 : Int32) (o_level : Int32) (o_all : Int64) (o_code : Nat → Int32) (o_cellAt : Nat → Int32) (o_courseAt : Nat → Int32) (o_paceAt : Nat → Int32) (o_turnsAt : Nat → Int32) (o_slowAt : Nat → Int32) (o_fuelAt : Nat → Int32) (o_ringAt : Nat → Int32) (o_sums : Nat → Int64) (H : Heap) (locs : List Loc), va_P (dC, dI) vwCl (W_X7_ends cyI cyJ cyO h_o a_o_sets a_o_ringFar a_o_ringTone a_o_currents a_o_warmths a_o_depths a_o_tape a_o_readFar a_o_readTone a_o_readSea a_o_code a_o_cellAt a_o_courseAt a_o_paceAt a_o_turnsAt a_o_slowAt a_o_fuelAt a_o_ringAt a_o_pieceParts a_o_dragCell a_o_dragBy a_o_sums a_o_shares a_o_keptFar a_o_image a_o_lanes a_o_sizes a_o_items a_o_movedItems o_taped o_at o_wrong o_level o_noRings o_noTones o_noFuel o_pieces o_drags o_all o_noPieces o_noDrags o_kept o_sets o_ringFar o_ringTone o_currents o_warmths o_code o_cellAt o_courseAt o_paceAt o_turnsAt o_slowAt o_fuelAt o_ringAt o_pieceParts o_dragCell o_dragBy o_sums) H → va_D A (W_X7_ends cyI cyJ cyO h_o a_o_sets a_o_ringFar a_o_ringTone a_o_currents a_o_warmths a_o_depths a_o_tape a_o_readFar a_o_readTone a_o_readSea a_o_code a_o_cellAt a_o_courseAt a_o_paceAt a_o_turnsAt a_o_slowAt a_o_fuelAt a_o_ringAt a_o_pieceParts a_o_dragCell a_o_dragBy a_o_sums a_o_shares a_o_keptFar a_o_image a_o_lanes a_o_sizes a_o_items a_o_movedItems o_taped o_at o_wrong o_level o_noRings o_noTones o_noFuel o_pieces o_drags o_all o_noPieces o_noDrags o_kept o_sets o_ringFar o_ringTone o_currents o_warmths o_code o_cellAt o_courseAt o_paceAt o_turnsAt o_slowAt o_fuelAt o_ringAt o_pieceParts o_dragCell o_dragBy o_sums) → va_S A s.heap H locs → ∀ (ls : Array Slot), lv_has ls 5 [(0, .ref h_o), (1, .int v1)] → okP (f_X7_ends_L2 n v1 o_level o_noRings o_noTones o_noFuel o_pieces o_drags o_all o_noPieces o_noDrags o_sets o_ringFar o_ringTone o_currents o_warmths o_code o_cellAt o_courseAt o_paceAt o_turnsAt o_slowAt o_fuelAt o_ringAt o_pieceParts o_dragCell o_dragBy o_sums) post → W p l e (headSpec wsX7_ends rm_X7_ends).room s m ([.ref h_o] : List Value).toArray below meth c H locs 0 0 Q (F0 m 2 ls []) := by
    intro n
    induction n with
    | zero =>
      intro v1 o_level o_all o_code o_cellAt o_courseAt o_paceAt o_turnsAt o_slowAt o_fuelAt o_ringAt o_sums H locs hP hD hS ls hl hw
      exact (ok0 hw).elim
    | succ n2 ih2 =>
      intro v1 o_level o_all o_code o_cellAt o_courseAt o_paceAt o_turnsAt o_slowAt o_fuelAt o_ringAt o_sums H locs hP hD hS ls hl hw
      replace hw : okP (f_X7_ends_L2b (f_X7_ends_L2 n2) v1 o_level o_noRings o_noTones o_noFuel o_pieces o_drags o_all o_noPieces o_noDrags o_sets o_ringFar o_ringTone o_currents o_warmths o_code o_cellAt o_courseAt o_paceAt o_turnsAt o_slowAt o_fuelAt o_ringAt o_pieceParts o_dragCell o_dragBy o_sums) post := hw
      unfold f_X7_ends_L2b at hw
      refine lv_iload_n hx hb dX7_ends_2 rfl (lv_at hl 1 rfl) ?_
      refine lv_bipush (v := 100) hx hb dX7_ends_3 (by decide) ?_
      refine lv_icmp_ge (tgt := 21) hx hb dX7_ends_5 (by decide) (fun c_50 => ?_) (fun c_50 => ?_)
      · replace hw := okT hw c_50
        clear c_50
        refine lv_aload_n hx hb dX7_ends_21 rfl (lv_at hl 0 rfl) ?_
        have hPc := hP.sub (ws' := (W_X7_begins cyI cyJ cyO h_o a_o_sets a_o_ringFar a_o_ringTone a_o_currents a_o_warmths a_o_depths a_o_tape a_o_readFar a_o_readTone a_o_readSea a_o_code a_o_cellAt a_o_courseAt a_o_paceAt a_o_turnsAt a_o_slowAt a_o_fuelAt a_o_ringAt a_o_pieceParts a_o_dragCell a_o_dragBy a_o_sums a_o_shares a_o_keptFar a_o_image a_o_lanes a_o_sizes a_o_items a_o_movedItems o_taped o_at o_wrong o_level o_noRings o_noTones o_noFuel o_pieces o_drags o_all o_noPieces o_noDrags o_kept o_sets o_code o_cellAt o_turnsAt o_slowAt o_fuelAt o_ringAt)) [0, 1, 6, 7, 10, 11, 12, 13] rfl
        have hDc := hD.sub (ws' := (W_X7_begins cyI cyJ cyO h_o a_o_sets a_o_ringFar a_o_ringTone a_o_currents a_o_warmths a_o_depths a_o_tape a_o_readFar a_o_readTone a_o_readSea a_o_code a_o_cellAt a_o_courseAt a_o_paceAt a_o_turnsAt a_o_slowAt a_o_fuelAt a_o_ringAt a_o_pieceParts a_o_dragCell a_o_dragBy a_o_sums a_o_shares a_o_keptFar a_o_image a_o_lanes a_o_sizes a_o_items a_o_movedItems o_taped o_at o_wrong o_level o_noRings o_noTones o_noFuel o_pieces o_drags o_all o_noPieces o_noDrags o_kept o_sets o_code o_cellAt o_turnsAt o_slowAt o_fuelAt o_ringAt)) [0, 1, 6, 7, 10, 11, 12, 13] (by decide +kernel) rfl
        have hFc := va_free (wc := (W_X7_begins cyI cyJ cyO h_o a_o_sets a_o_ringFar a_o_ringTone a_o_currents a_o_warmths a_o_depths a_o_tape a_o_readFar a_o_readTone a_o_readSea a_o_code a_o_cellAt a_o_courseAt a_o_paceAt a_o_turnsAt a_o_slowAt a_o_fuelAt a_o_ringAt a_o_pieceParts a_o_dragCell a_o_dragBy a_o_sums a_o_shares a_o_keptFar a_o_image a_o_lanes a_o_sizes a_o_items a_o_movedItems o_taped o_at o_wrong o_level o_noRings o_noTones o_noFuel o_pieces o_drags o_all o_noPieces o_noDrags o_kept o_sets o_code o_cellAt o_turnsAt o_slowAt o_fuelAt o_ringAt)) hD hS hA [0, 1, 6, 7, 10, 11, 12, 13] rfl
        refine kc_v (wr := [(a_o_ringFar, .inl (cyI, 7, .inl o_ringFar)), (a_o_ringTone, .inl (cyI, 7, .inl o_ringTone)), (a_o_currents, .inl (cyI, 200, .inl o_currents)), (a_o_warmths, .inl (cyI, 200, .inl o_warmths)), (a_o_courseAt, .inl (cyI, 7, .inl o_courseAt)), (a_o_paceAt, .inl (cyI, 7, .inl o_paceAt)), (a_o_pieceParts, .inl (cyI, 20, .inl o_pieceParts)), (a_o_dragCell, .inl (cyI, 6, .inl o_dragCell)), (a_o_dragBy, .inl (cyI, 6, .inl o_dragBy)), (a_o_sums, .inl (cyJ, 100, .inr (.inl o_sums)))]) (va_runV (As := []) (rest := []) ⟨hx, hb, hml, hown, hts⟩ (c_X7_begins l dC dI cyI cyJ cyO H.size h_o a_o_sets a_o_ringFar a_o_ringTone a_o_currents a_o_warmths a_o_depths a_o_tape a_o_readFar a_o_readTone a_o_readSea a_o_code a_o_cellAt a_o_courseAt a_o_paceAt a_o_turnsAt a_o_slowAt a_o_fuelAt a_o_ringAt a_o_pieceParts a_o_dragCell a_o_dragBy a_o_sums a_o_shares a_o_keptFar a_o_image a_o_lanes a_o_sizes a_o_items a_o_movedItems o_taped o_at o_wrong o_level o_noRings o_noTones o_noFuel o_pieces o_drags o_all o_noPieces o_noDrags o_kept o_sets o_code o_cellAt o_turnsAt o_slowAt o_fuelAt o_ringAt _ (okb7 hw)) (cwV 0 hts (gdV (fun w h => List.mem_cons_of_mem _ h) q_900 q_902 qs_29 q_8 q_903) rfl rfl rfl (by decide +kernel) ⟨Nat.le_of_ble_eq_true rfl, Nat.le_of_ble_eq_true rfl⟩) ⟨(kpre zN_ok hK hPc hDc trivial hS hFc).1, va_recv hK hP (ci := 7) (q0 := 0) rfl rfl, (kpre zN_ok hK hPc hDc trivial hS hFc).2⟩ rfl rfl hl.1 rfl (lv_room (Nat.le_of_ble_eq_true rfl)) dX7_ends_22 ⟨Nat.le_of_ble_eq_true rfl, Nat.le_of_ble_eq_true rfl⟩) hP hD hS hFc [0, 1, 6, 7, 10, 11, 12, 13] [2, 3, 4, 5, 8, 9, 14, 15, 16, 17] rfl rfl (by decide +kernel) (by decide +kernel) (fun u H locs hw hP hD hS => ?_)
        obtain ⟨w_51, w_52, w_53, w_54, w_55, w_56, w_57⟩ := u
        try dsimp only at hw
        have hP : va_P (dC, dI) vwCl (W_X7_ends cyI cyJ cyO h_o a_o_sets a_o_ringFar a_o_ringTone a_o_currents a_o_warmths a_o_depths a_o_tape a_o_readFar a_o_readTone a_o_readSea a_o_code a_o_cellAt a_o_courseAt a_o_paceAt a_o_turnsAt a_o_slowAt a_o_fuelAt a_o_ringAt a_o_pieceParts a_o_dragCell a_o_dragBy a_o_sums a_o_shares a_o_keptFar a_o_image a_o_lanes a_o_sizes a_o_items a_o_movedItems o_taped o_at o_wrong w_51 o_noRings o_noTones o_noFuel o_pieces o_drags o_all o_noPieces o_noDrags o_kept o_sets o_ringFar o_ringTone o_currents o_warmths w_52 w_53 o_courseAt o_paceAt w_54 w_55 w_56 w_57 o_pieceParts o_dragCell o_dragBy o_sums) H := hP.sub [10, 11, 0, 1, 2, 3, 12, 13, 4, 5, 14, 15, 16, 17, 6, 7, 8, 9] rfl
        have hD : va_D A (W_X7_ends cyI cyJ cyO h_o a_o_sets a_o_ringFar a_o_ringTone a_o_currents a_o_warmths a_o_depths a_o_tape a_o_readFar a_o_readTone a_o_readSea a_o_code a_o_cellAt a_o_courseAt a_o_paceAt a_o_turnsAt a_o_slowAt a_o_fuelAt a_o_ringAt a_o_pieceParts a_o_dragCell a_o_dragBy a_o_sums a_o_shares a_o_keptFar a_o_image a_o_lanes a_o_sizes a_o_items a_o_movedItems o_taped o_at o_wrong w_51 o_noRings o_noTones o_noFuel o_pieces o_drags o_all o_noPieces o_noDrags o_kept o_sets o_ringFar o_ringTone o_currents o_warmths w_52 w_53 o_courseAt o_paceAt w_54 w_55 w_56 w_57 o_pieceParts o_dragCell o_dragBy o_sums) := hD.sub [10, 11, 0, 1, 2, 3, 12, 13, 4, 5, 14, 15, 16, 17, 6, 7, 8, 9] (by decide +kernel) rfl
        clear hPc hDc hFc
        exact w25 FU w_51 o_all w_52 w_53 o_courseAt o_paceAt w_54 w_55 w_56 w_57 o_sums _ _ hP hD hS _ (lv_sub hl [0] rfl) hw
      · replace hw := okF hw c_50
        clear c_50
        refine lv_aload_n hx hb dX7_ends_8 rfl (lv_at hl 0 rfl) ?_
        refine va_get (D := (dC, dI)) (ci := 7) (v := .ref a_o_sums) (C := RX7) (T := TX7) (N := 42) hx hb hts hi7 hown hK hP 0 rfl rfl 30 (by decide) hq2 (fun _ h9 => h9) rfl dX7_ends_9 ?_
        refine lv_iload_n hx hb dX7_ends_12 rfl (lv_at hl 1 rfl) ?_
        refine lv_lconst (v := 0) hx hb dX7_ends_13 (by decide) ?_
        obtain ⟨h_58, hw⟩ := okC hw
        refine va_last (i := v1) (x := 0) hx hb hK hP hD hS 17 1 rfl rfl h_58 dX7_ends_14 (fun H locs hP hD hS => ?_)
        have hP : va_P (dC, dI) vwCl (W_X7_ends cyI cyJ cyO h_o a_o_sets a_o_ringFar a_o_ringTone a_o_currents a_o_warmths a_o_depths a_o_tape a_o_readFar a_o_readTone a_o_readSea a_o_code a_o_cellAt a_o_courseAt a_o_paceAt a_o_turnsAt a_o_slowAt a_o_fuelAt a_o_ringAt a_o_pieceParts a_o_dragCell a_o_dragBy a_o_sums a_o_shares a_o_keptFar a_o_image a_o_lanes a_o_sizes a_o_items a_o_movedItems o_taped o_at o_wrong o_level o_noRings o_noTones o_noFuel o_pieces o_drags o_all o_noPieces o_noDrags o_kept o_sets o_ringFar o_ringTone o_currents o_warmths o_code o_cellAt o_courseAt o_paceAt o_turnsAt o_slowAt o_fuelAt o_ringAt o_pieceParts o_dragCell o_dragBy (vp_updL o_sums v1.toNatClampNeg 0)) H := hP
        have hD : va_D A (W_X7_ends cyI cyJ cyO h_o a_o_sets a_o_ringFar a_o_ringTone a_o_currents a_o_warmths a_o_depths a_o_tape a_o_readFar a_o_readTone a_o_readSea a_o_code a_o_cellAt a_o_courseAt a_o_paceAt a_o_turnsAt a_o_slowAt a_o_fuelAt a_o_ringAt a_o_pieceParts a_o_dragCell a_o_dragBy a_o_sums a_o_shares a_o_keptFar a_o_image a_o_lanes a_o_sizes a_o_items a_o_movedItems o_taped o_at o_wrong o_level o_noRings o_noTones o_noFuel o_pieces o_drags o_all o_noPieces o_noDrags o_kept o_sets o_ringFar o_ringTone o_currents o_warmths o_code o_cellAt o_courseAt o_paceAt o_turnsAt o_slowAt o_fuelAt o_ringAt o_pieceParts o_dragCell o_dragBy (vp_updL o_sums v1.toNatClampNeg 0)) := hD
        obtain ⟨x_59, ex_59⟩ : ∃ y : Int32, y = v1 + 1 := ⟨_, rfl⟩
        replace hw := okN ex_59 hw
        refine lv_iinc (v := x_59) (lv' := [(1, .int x_59), (0, .ref h_o)]) hx hb dX7_ends_15 hl (k := 1) rfl (by rw [ex_59]; rfl) (by decide) rfl (fun ls hl => ?_)
        clear ex_59
        refine lv_goto (tgt := 2) hx hb dX7_ends_18 (by decide) ?_
        exact ih2 x_59 o_level o_all o_code o_cellAt o_courseAt o_paceAt o_turnsAt o_slowAt o_fuelAt o_ringAt (vp_updL o_sums v1.toNatClampNeg 0) _ _ hP hD hS _ (lv_sub hl [1, 0] rfl) hw
  unfold f_X7_ends at hw
  have hP : va_P (dC, dI) vwCl (W_X7_ends cyI cyJ cyO h_o a_o_sets a_o_ringFar a_o_ringTone a_o_currents a_o_warmths a_o_depths a_o_tape a_o_readFar a_o_readTone a_o_readSea a_o_code a_o_cellAt a_o_courseAt a_o_paceAt a_o_turnsAt a_o_slowAt a_o_fuelAt a_o_ringAt a_o_pieceParts a_o_dragCell a_o_dragBy a_o_sums a_o_shares a_o_keptFar a_o_image a_o_lanes a_o_sizes a_o_items a_o_movedItems o_taped o_at o_wrong o_level o_noRings o_noTones o_noFuel o_pieces o_drags o_all o_noPieces o_noDrags o_kept o_sets o_ringFar o_ringTone o_currents o_warmths o_code o_cellAt o_courseAt o_paceAt o_turnsAt o_slowAt o_fuelAt o_ringAt o_pieceParts o_dragCell o_dragBy o_sums) s.heap := hP
  obtain ⟨H, hH⟩ : ∃ H, H = s.heap := ⟨_, rfl⟩
  obtain ⟨locs, hlo⟩ : ∃ x : List Loc, x = [] := ⟨_, rfl⟩
  have hP : va_P (dC, dI) vwCl (W_X7_ends cyI cyJ cyO h_o a_o_sets a_o_ringFar a_o_ringTone a_o_currents a_o_warmths a_o_depths a_o_tape a_o_readFar a_o_readTone a_o_readSea a_o_code a_o_cellAt a_o_courseAt a_o_paceAt a_o_turnsAt a_o_slowAt a_o_fuelAt a_o_ringAt a_o_pieceParts a_o_dragCell a_o_dragBy a_o_sums a_o_shares a_o_keptFar a_o_image a_o_lanes a_o_sizes a_o_items a_o_movedItems o_taped o_at o_wrong o_level o_noRings o_noTones o_noFuel o_pieces o_drags o_all o_noPieces o_noDrags o_kept o_sets o_ringFar o_ringTone o_currents o_warmths o_code o_cellAt o_courseAt o_paceAt o_turnsAt o_slowAt o_fuelAt o_ringAt o_pieceParts o_dragCell o_dragBy o_sums) H := by rw [hH]; exact hP
  have hS : va_S A s.heap H locs := by rw [hH, hlo]; exact hS
  refine kH hH hlo ?_
  clear hH hlo
  refine lv_iconst (v := 0) hx hb dX7_ends_0 (by decide) ?_
  refine lv_istore_n (lv' := [(1, .int 0), (0, .ref h_o)]) hx hb dX7_ends_1 rfl hl (by decide) rfl (fun ls hl => ?_)
  exact w2 FU 0 o_level o_all o_code o_cellAt o_courseAt o_paceAt o_turnsAt o_slowAt o_fuelAt o_ringAt o_sums _ _ hP hD hS _ (lv_sub hl [1, 0] rfl) hw
/-! ===== X7_endsAsTold ===== -/
theorem dX7_endsAsTold_0 : decode cX7_endsAsTold 0 = .ok (.aload_n 0, 1) := by decide +kernel
theorem dX7_endsAsTold_1 : decode cX7_endsAsTold 1 = .ok (.invokevirtual 187, 3) := by decide +kernel
theorem dX7_endsAsTold_4 : decode cX7_endsAsTold 4 = .ok (.aload_n 0, 1) := by decide +kernel
theorem dX7_endsAsTold_5 : decode cX7_endsAsTold 5 = .ok (.iconst 0, 1) := by decide +kernel
theorem dX7_endsAsTold_6 : decode cX7_endsAsTold 6 = .ok (.putfield 225, 3) := by decide +kernel
theorem dX7_endsAsTold_9 : decode cX7_endsAsTold 9 = .ok (.aload_n 0, 1) := by decide +kernel
theorem dX7_endsAsTold_10 : decode cX7_endsAsTold 10 = .ok (.iconst 0, 1) := by decide +kernel
theorem dX7_endsAsTold_11 : decode cX7_endsAsTold 11 = .ok (.putfield 228, 3) := by decide +kernel
theorem dX7_endsAsTold_14 : decode cX7_endsAsTold 14 = .ok (.aload_n 0, 1) := by decide +kernel
theorem dX7_endsAsTold_15 : decode cX7_endsAsTold 15 = .ok (.invokevirtual 231, 3) := by decide +kernel
theorem dX7_endsAsTold_18 : decode cX7_endsAsTold 18 = .ok (.return_, 1) := by decide +kernel
abbrev W_X7_endsAsTold (cyI cyJ cyO : ClassId) (h_o a_o_sets a_o_ringFar a_o_ringTone a_o_currents a_o_warmths a_o_depths a_o_tape a_o_readFar a_o_readTone a_o_readSea a_o_code a_o_cellAt a_o_courseAt a_o_paceAt a_o_turnsAt a_o_slowAt a_o_fuelAt a_o_ringAt a_o_pieceParts a_o_dragCell a_o_dragBy a_o_sums a_o_shares a_o_keptFar a_o_image a_o_lanes a_o_sizes a_o_items a_o_movedItems : Nat) (o_taped : Int32) (o_at : Int32) (o_wrong : Int32) (o_level : Int32) (o_noRings : Int32) (o_noTones : Int32) (o_noFuel : Int32) (o_pieces : Int32) (o_drags : Int32) (o_all : Int64) (o_noPieces : Int32) (o_noDrags : Int32) (o_kept : Int32) (o_sets : Nat → Int32) (o_ringFar : Nat → Int32) (o_ringTone : Nat → Int32) (o_currents : Nat → Int32) (o_warmths : Nat → Int32) (o_code : Nat → Int32) (o_cellAt : Nat → Int32) (o_courseAt : Nat → Int32) (o_paceAt : Nat → Int32) (o_turnsAt : Nat → Int32) (o_slowAt : Nat → Int32) (o_fuelAt : Nat → Int32) (o_ringAt : Nat → Int32) (o_pieceParts : Nat → Int32) (o_dragCell : Nat → Int32) (o_dragBy : Nat → Int32) (o_sums : Nat → Int64) : va_W := [(h_o, .inr (7, [.ref a_o_sets, .ref a_o_ringFar, .ref a_o_ringTone, .ref a_o_currents, .ref a_o_warmths, .ref a_o_depths, .ref a_o_tape, .int o_taped, .int o_at, .int o_wrong, .ref a_o_readFar, .ref a_o_readTone, .ref a_o_readSea, .ref a_o_code, .ref a_o_cellAt, .ref a_o_courseAt, .ref a_o_paceAt, .ref a_o_turnsAt, .ref a_o_slowAt, .ref a_o_fuelAt, .ref a_o_ringAt, .int o_level, .int o_noRings, .int o_noTones, .int o_noFuel, .int o_pieces, .ref a_o_pieceParts, .int o_drags, .ref a_o_dragCell, .ref a_o_dragBy, .ref a_o_sums, .long o_all, .int o_noPieces, .int o_noDrags, .ref a_o_shares, .ref a_o_keptFar, .ref a_o_image, .int o_kept, .ref a_o_lanes, .ref a_o_sizes, .ref a_o_items, .ref a_o_movedItems])), (a_o_sets, .inl (cyI, 8, .inl o_sets)), (a_o_ringFar, .inl (cyI, 7, .inl o_ringFar)), (a_o_ringTone, .inl (cyI, 7, .inl o_ringTone)), (a_o_currents, .inl (cyI, 200, .inl o_currents)), (a_o_warmths, .inl (cyI, 200, .inl o_warmths)), (a_o_code, .inl (cyI, 7, .inl o_code)), (a_o_cellAt, .inl (cyI, 7, .inl o_cellAt)), (a_o_courseAt, .inl (cyI, 7, .inl o_courseAt)), (a_o_paceAt, .inl (cyI, 7, .inl o_paceAt)), (a_o_turnsAt, .inl (cyI, 7, .inl o_turnsAt)), (a_o_slowAt, .inl (cyI, 7, .inl o_slowAt)), (a_o_fuelAt, .inl (cyI, 7, .inl o_fuelAt)), (a_o_ringAt, .inl (cyI, 7, .inl o_ringAt)), (a_o_pieceParts, .inl (cyI, 20, .inl o_pieceParts)), (a_o_dragCell, .inl (cyI, 6, .inl o_dragCell)), (a_o_dragBy, .inl (cyI, 6, .inl o_dragBy)), (a_o_sums, .inl (cyJ, 100, .inr (.inl o_sums)))]
def f_X7_endsAsTold (o_level : Int32) (o_noRings : Int32) (o_noTones : Int32) (o_noFuel : Int32) (o_pieces : Int32) (o_drags : Int32) (o_all : Int64) (o_noPieces : Int32) (o_noDrags : Int32) (o_sets : Nat → Int32) (o_ringFar : Nat → Int32) (o_ringTone : Nat → Int32) (o_currents : Nat → Int32) (o_warmths : Nat → Int32) (o_code : Nat → Int32) (o_cellAt : Nat → Int32) (o_courseAt : Nat → Int32) (o_paceAt : Nat → Int32) (o_turnsAt : Nat → Int32) (o_slowAt : Nat → Int32) (o_fuelAt : Nat → Int32) (o_ringAt : Nat → Int32) (o_pieceParts : Nat → Int32) (o_dragCell : Nat → Int32) (o_dragBy : Nat → Int32) (o_sums : Nat → Int64) : Option (Int32 × Int32 × Int32 × Int32 × Int64 × Int32 × Int32 × (Nat → Int32) × (Nat → Int32) × (Nat → Int32) × (Nat → Int32) × (Nat → Int32) × (Nat → Int32) × (Nat → Int32) × (Nat → Int32) × (Nat → Int64)) :=
  bd3 (f_X7_asTold o_noRings o_noTones o_noFuel) fun w_1 w_2 w_3 =>
  bd11 (f_X7_ends o_level w_1 w_2 w_3 o_pieces o_drags o_all 0 0 o_sets o_ringFar o_ringTone o_currents o_warmths o_code o_cellAt o_courseAt o_paceAt o_turnsAt o_slowAt o_fuelAt o_ringAt o_pieceParts o_dragCell o_dragBy o_sums) fun w_4 w_5 w_6 w_7 w_8 w_9 w_10 w_11 w_12 w_13 w_14 =>
  some (w_4, w_1, w_2, w_3, w_5, 0, 0, w_6, w_7, w_8, w_9, w_10, w_11, w_12, w_13, w_14)
abbrev rm_X7_endsAsTold : Room := { frames := 5, cells := 0, slots := 0, locals := 128 }
set_option maxRecDepth 100000 in
set_option maxHeartbeats 4000000 in
theorem c_X7_endsAsTold (l : Launch) (dC : Nat → ClassId) (dI : Nat → Nat → Nat) (cyI cyJ cyO : ClassId) (sz : Nat) (h_o a_o_sets a_o_ringFar a_o_ringTone a_o_currents a_o_warmths a_o_depths a_o_tape a_o_readFar a_o_readTone a_o_readSea a_o_code a_o_cellAt a_o_courseAt a_o_paceAt a_o_turnsAt a_o_slowAt a_o_fuelAt a_o_ringAt a_o_pieceParts a_o_dragCell a_o_dragBy a_o_sums a_o_shares a_o_keptFar a_o_image a_o_lanes a_o_sizes a_o_items a_o_movedItems : Nat) (o_taped : Int32) (o_at : Int32) (o_wrong : Int32) (o_level : Int32) (o_noRings : Int32) (o_noTones : Int32) (o_noFuel : Int32) (o_pieces : Int32) (o_drags : Int32) (o_all : Int64) (o_noPieces : Int32) (o_noDrags : Int32) (o_kept : Int32) (o_sets : Nat → Int32) (o_ringFar : Nat → Int32) (o_ringTone : Nat → Int32) (o_currents : Nat → Int32) (o_warmths : Nat → Int32) (o_code : Nat → Int32) (o_cellAt : Nat → Int32) (o_courseAt : Nat → Int32) (o_paceAt : Nat → Int32) (o_turnsAt : Nat → Int32) (o_slowAt : Nat → Int32) (o_fuelAt : Nat → Int32) (o_ringAt : Nat → Int32) (o_pieceParts : Nat → Int32) (o_dragCell : Nat → Int32) (o_dragBy : Nat → Int32) (o_sums : Nat → Int64) (post : (Int32 × Int32 × Int32 × Int32 × Int64 × Int32 × Int32 × (Nat → Int32) × (Nat → Int32) × (Nat → Int32) × (Nat → Int32) × (Nat → Int32) × (Nat → Int32) × (Nat → Int32) × (Nat → Int32) × (Nat → Int64)) → Prop) (hf : okP (f_X7_endsAsTold o_level o_noRings o_noTones o_noFuel o_pieces o_drags o_all o_noPieces o_noDrags o_sets o_ringFar o_ringTone o_currents o_warmths o_code o_cellAt o_courseAt o_paceAt o_turnsAt o_slowAt o_fuelAt o_ringAt o_pieceParts o_dragCell o_dragBy o_sums) post) : Cv l (dC, dI) (tyL cyI cyJ cyO) yX7_endsAsTold wsX7_endsAsTold rm_X7_endsAsTold [.ref h_o] sz (W_X7_endsAsTold cyI cyJ cyO h_o a_o_sets a_o_ringFar a_o_ringTone a_o_currents a_o_warmths a_o_depths a_o_tape a_o_readFar a_o_readTone a_o_readSea a_o_code a_o_cellAt a_o_courseAt a_o_paceAt a_o_turnsAt a_o_slowAt a_o_fuelAt a_o_ringAt a_o_pieceParts a_o_dragCell a_o_dragBy a_o_sums a_o_shares a_o_keptFar a_o_image a_o_lanes a_o_sizes a_o_items a_o_movedItems o_taped o_at o_wrong o_level o_noRings o_noTones o_noFuel o_pieces o_drags o_all o_noPieces o_noDrags o_kept o_sets o_ringFar o_ringTone o_currents o_warmths o_code o_cellAt o_courseAt o_paceAt o_turnsAt o_slowAt o_fuelAt o_ringAt o_pieceParts o_dragCell o_dragBy o_sums) zN (fun u => post u) (fun u => (W_X7_endsAsTold cyI cyJ cyO h_o a_o_sets a_o_ringFar a_o_ringTone a_o_currents a_o_warmths a_o_depths a_o_tape a_o_readFar a_o_readTone a_o_readSea a_o_code a_o_cellAt a_o_courseAt a_o_paceAt a_o_turnsAt a_o_slowAt a_o_fuelAt a_o_ringAt a_o_pieceParts a_o_dragCell a_o_dragBy a_o_sums a_o_shares a_o_keptFar a_o_image a_o_lanes a_o_sizes a_o_items a_o_movedItems o_taped o_at o_wrong u.1 u.2.1 u.2.2.1 u.2.2.2.1 o_pieces o_drags u.2.2.2.2.1 u.2.2.2.2.2.1 u.2.2.2.2.2.2.1 o_kept o_sets o_ringFar o_ringTone o_currents o_warmths u.2.2.2.2.2.2.2.1 u.2.2.2.2.2.2.2.2.1 u.2.2.2.2.2.2.2.2.2.1 u.2.2.2.2.2.2.2.2.2.2.1 u.2.2.2.2.2.2.2.2.2.2.2.1 u.2.2.2.2.2.2.2.2.2.2.2.2.1 u.2.2.2.2.2.2.2.2.2.2.2.2.2.1 u.2.2.2.2.2.2.2.2.2.2.2.2.2.2.1 o_pieceParts o_dragCell o_dragBy u.2.2.2.2.2.2.2.2.2.2.2.2.2.2.2)) := by
  refine Met.ofW (cc := cX7_endsAsTold) (maxL := 1) (ret := none) (by decide) rfl ?_
  intro p e s m args below meth c s₁ B hml hv
  obtain ⟨rfl, hsz, hP, hK, hD0, hZ⟩ := hv
  have hx := B.exec
  have hb := B.bytes
  have hr := B.returns
  have hts := atoms_spec (ws := wsX7_endsAsTold) B.pre
  have hown : s.vm.findClass RX7 = some m.cls := findClass_of_methodNamed B.named
  have hlocks := B.notSynchronized
  subst hsz
  have hD := hD0.self (sz := s.heap.size)
  generalize hAe : va_A (W_X7_endsAsTold cyI cyJ cyO h_o a_o_sets a_o_ringFar a_o_ringTone a_o_currents a_o_warmths a_o_depths a_o_tape a_o_readFar a_o_readTone a_o_readSea a_o_code a_o_cellAt a_o_courseAt a_o_paceAt a_o_turnsAt a_o_slowAt a_o_fuelAt a_o_ringAt a_o_pieceParts a_o_dragCell a_o_dragBy a_o_sums a_o_shares a_o_keptFar a_o_image a_o_lanes a_o_sizes a_o_items a_o_movedItems o_taped o_at o_wrong o_level o_noRings o_noTones o_noFuel o_pieces o_drags o_all o_noPieces o_noDrags o_kept o_sets o_ringFar o_ringTone o_currents o_warmths o_code o_cellAt o_courseAt o_paceAt o_turnsAt o_slowAt o_fuelAt o_ringAt o_pieceParts o_dragCell o_dragBy o_sums) s.heap.size = A at hD hZ ⊢
  have hA : ∀ q : Nat, s.heap.size ≤ q → A q := fun q h => by rw [← hAe]; exact Or.inr h
  clear hAe hD0
  have hS : va_S A s.heap s.heap [] := va_S.rf
  have hl := lv_entry ([.ref h_o]) (n := 1) (Nat.le_of_ble_eq_true rfl)
  rw [lg_entry_eq]
  generalize (lg_sl ([.ref h_o]) ++ List.replicate (1 - (lg_sl ([.ref h_o])).length) Slot.unset).toArray = ls at hl ⊢
  have hl : lv_has ls 1 [(0, .ref h_o)] := hl
  refine kW (fun Q hQ => ?_)
  have hq0 := hts _ (List.mem_cons_of_mem _ q_738)
  have hi7 : ∀ w ∈ u_ws RX7 TX7 42, w ∈ wsX7_endsAsTold := fun w h => List.mem_cons_of_mem _ (inX7 w h)
  have hq2 := hts _ (List.mem_cons_of_mem _ q_739)
  have hw := hf
  unfold f_X7_endsAsTold at hw
  have hP : va_P (dC, dI) vwCl (W_X7_endsAsTold cyI cyJ cyO h_o a_o_sets a_o_ringFar a_o_ringTone a_o_currents a_o_warmths a_o_depths a_o_tape a_o_readFar a_o_readTone a_o_readSea a_o_code a_o_cellAt a_o_courseAt a_o_paceAt a_o_turnsAt a_o_slowAt a_o_fuelAt a_o_ringAt a_o_pieceParts a_o_dragCell a_o_dragBy a_o_sums a_o_shares a_o_keptFar a_o_image a_o_lanes a_o_sizes a_o_items a_o_movedItems o_taped o_at o_wrong o_level o_noRings o_noTones o_noFuel o_pieces o_drags o_all o_noPieces o_noDrags o_kept o_sets o_ringFar o_ringTone o_currents o_warmths o_code o_cellAt o_courseAt o_paceAt o_turnsAt o_slowAt o_fuelAt o_ringAt o_pieceParts o_dragCell o_dragBy o_sums) s.heap := hP
  obtain ⟨H, hH⟩ : ∃ H, H = s.heap := ⟨_, rfl⟩
  obtain ⟨locs, hlo⟩ : ∃ x : List Loc, x = [] := ⟨_, rfl⟩
  have hP : va_P (dC, dI) vwCl (W_X7_endsAsTold cyI cyJ cyO h_o a_o_sets a_o_ringFar a_o_ringTone a_o_currents a_o_warmths a_o_depths a_o_tape a_o_readFar a_o_readTone a_o_readSea a_o_code a_o_cellAt a_o_courseAt a_o_paceAt a_o_turnsAt a_o_slowAt a_o_fuelAt a_o_ringAt a_o_pieceParts a_o_dragCell a_o_dragBy a_o_sums a_o_shares a_o_keptFar a_o_image a_o_lanes a_o_sizes a_o_items a_o_movedItems o_taped o_at o_wrong o_level o_noRings o_noTones o_noFuel o_pieces o_drags o_all o_noPieces o_noDrags o_kept o_sets o_ringFar o_ringTone o_currents o_warmths o_code o_cellAt o_courseAt o_paceAt o_turnsAt o_slowAt o_fuelAt o_ringAt o_pieceParts o_dragCell o_dragBy o_sums) H := by rw [hH]; exact hP
  have hS : va_S A s.heap H locs := by rw [hH, hlo]; exact hS
  refine kH hH hlo ?_
  clear hH hlo
  refine lv_aload_n hx hb dX7_endsAsTold_0 rfl (lv_at hl 0 rfl) ?_
  have hPc := hP.sub (ws' := (W_X7_asTold cyI cyJ cyO h_o a_o_sets a_o_ringFar a_o_ringTone a_o_currents a_o_warmths a_o_depths a_o_tape a_o_readFar a_o_readTone a_o_readSea a_o_code a_o_cellAt a_o_courseAt a_o_paceAt a_o_turnsAt a_o_slowAt a_o_fuelAt a_o_ringAt a_o_pieceParts a_o_dragCell a_o_dragBy a_o_sums a_o_shares a_o_keptFar a_o_image a_o_lanes a_o_sizes a_o_items a_o_movedItems o_taped o_at o_wrong o_level o_noRings o_noTones o_noFuel o_pieces o_drags o_all o_noPieces o_noDrags o_kept)) [0] rfl
  have hDc := hD.sub (ws' := (W_X7_asTold cyI cyJ cyO h_o a_o_sets a_o_ringFar a_o_ringTone a_o_currents a_o_warmths a_o_depths a_o_tape a_o_readFar a_o_readTone a_o_readSea a_o_code a_o_cellAt a_o_courseAt a_o_paceAt a_o_turnsAt a_o_slowAt a_o_fuelAt a_o_ringAt a_o_pieceParts a_o_dragCell a_o_dragBy a_o_sums a_o_shares a_o_keptFar a_o_image a_o_lanes a_o_sizes a_o_items a_o_movedItems o_taped o_at o_wrong o_level o_noRings o_noTones o_noFuel o_pieces o_drags o_all o_noPieces o_noDrags o_kept)) [0] (by decide +kernel) rfl
  have hFc := va_free (wc := (W_X7_asTold cyI cyJ cyO h_o a_o_sets a_o_ringFar a_o_ringTone a_o_currents a_o_warmths a_o_depths a_o_tape a_o_readFar a_o_readTone a_o_readSea a_o_code a_o_cellAt a_o_courseAt a_o_paceAt a_o_turnsAt a_o_slowAt a_o_fuelAt a_o_ringAt a_o_pieceParts a_o_dragCell a_o_dragBy a_o_sums a_o_shares a_o_keptFar a_o_image a_o_lanes a_o_sizes a_o_items a_o_movedItems o_taped o_at o_wrong o_level o_noRings o_noTones o_noFuel o_pieces o_drags o_all o_noPieces o_noDrags o_kept)) hD hS hA [0] rfl
  refine kc_v (wr := [(a_o_sets, .inl (cyI, 8, .inl o_sets)), (a_o_ringFar, .inl (cyI, 7, .inl o_ringFar)), (a_o_ringTone, .inl (cyI, 7, .inl o_ringTone)), (a_o_currents, .inl (cyI, 200, .inl o_currents)), (a_o_warmths, .inl (cyI, 200, .inl o_warmths)), (a_o_code, .inl (cyI, 7, .inl o_code)), (a_o_cellAt, .inl (cyI, 7, .inl o_cellAt)), (a_o_courseAt, .inl (cyI, 7, .inl o_courseAt)), (a_o_paceAt, .inl (cyI, 7, .inl o_paceAt)), (a_o_turnsAt, .inl (cyI, 7, .inl o_turnsAt)), (a_o_slowAt, .inl (cyI, 7, .inl o_slowAt)), (a_o_fuelAt, .inl (cyI, 7, .inl o_fuelAt)), (a_o_ringAt, .inl (cyI, 7, .inl o_ringAt)), (a_o_pieceParts, .inl (cyI, 20, .inl o_pieceParts)), (a_o_dragCell, .inl (cyI, 6, .inl o_dragCell)), (a_o_dragBy, .inl (cyI, 6, .inl o_dragBy)), (a_o_sums, .inl (cyJ, 100, .inr (.inl o_sums)))]) (va_runV (As := []) (rest := []) ⟨hx, hb, hml, hown, hts⟩ (c_X7_asTold l dC dI cyI cyJ cyO H.size h_o a_o_sets a_o_ringFar a_o_ringTone a_o_currents a_o_warmths a_o_depths a_o_tape a_o_readFar a_o_readTone a_o_readSea a_o_code a_o_cellAt a_o_courseAt a_o_paceAt a_o_turnsAt a_o_slowAt a_o_fuelAt a_o_ringAt a_o_pieceParts a_o_dragCell a_o_dragBy a_o_sums a_o_shares a_o_keptFar a_o_image a_o_lanes a_o_sizes a_o_items a_o_movedItems o_taped o_at o_wrong o_level o_noRings o_noTones o_noFuel o_pieces o_drags o_all o_noPieces o_noDrags o_kept _ (okb3 hw)) (cwV 0 hts (gdV (fun w h => List.mem_cons_of_mem _ h) q_896 q_898 qs_28 q_8 q_899) rfl rfl rfl (by decide +kernel) ⟨Nat.le_of_ble_eq_true rfl, Nat.le_of_ble_eq_true rfl⟩) ⟨(kpre zN_ok hK hPc hDc trivial hS hFc).1, va_recv hK hP (ci := 7) (q0 := 0) rfl rfl, (kpre zN_ok hK hPc hDc trivial hS hFc).2⟩ rfl rfl hl.1 rfl (lv_room (Nat.le_of_ble_eq_true rfl)) dX7_endsAsTold_1 ⟨Nat.le_of_ble_eq_true rfl, Nat.le_of_ble_eq_true rfl⟩) hP hD hS hFc [0] [1, 2, 3, 4, 5, 6, 7, 8, 9, 10, 11, 12, 13, 14, 15, 16, 17] rfl rfl (by decide +kernel) (by decide +kernel) (fun u H locs hw hP hD hS => ?_)
  obtain ⟨w_1, w_2, w_3⟩ := u
  try dsimp only at hw
  have hP : va_P (dC, dI) vwCl (W_X7_endsAsTold cyI cyJ cyO h_o a_o_sets a_o_ringFar a_o_ringTone a_o_currents a_o_warmths a_o_depths a_o_tape a_o_readFar a_o_readTone a_o_readSea a_o_code a_o_cellAt a_o_courseAt a_o_paceAt a_o_turnsAt a_o_slowAt a_o_fuelAt a_o_ringAt a_o_pieceParts a_o_dragCell a_o_dragBy a_o_sums a_o_shares a_o_keptFar a_o_image a_o_lanes a_o_sizes a_o_items a_o_movedItems o_taped o_at o_wrong o_level w_1 w_2 w_3 o_pieces o_drags o_all o_noPieces o_noDrags o_kept o_sets o_ringFar o_ringTone o_currents o_warmths o_code o_cellAt o_courseAt o_paceAt o_turnsAt o_slowAt o_fuelAt o_ringAt o_pieceParts o_dragCell o_dragBy o_sums) H := hP.sub [17, 0, 1, 2, 3, 4, 5, 6, 7, 8, 9, 10, 11, 12, 13, 14, 15, 16] rfl
  have hD : va_D A (W_X7_endsAsTold cyI cyJ cyO h_o a_o_sets a_o_ringFar a_o_ringTone a_o_currents a_o_warmths a_o_depths a_o_tape a_o_readFar a_o_readTone a_o_readSea a_o_code a_o_cellAt a_o_courseAt a_o_paceAt a_o_turnsAt a_o_slowAt a_o_fuelAt a_o_ringAt a_o_pieceParts a_o_dragCell a_o_dragBy a_o_sums a_o_shares a_o_keptFar a_o_image a_o_lanes a_o_sizes a_o_items a_o_movedItems o_taped o_at o_wrong o_level w_1 w_2 w_3 o_pieces o_drags o_all o_noPieces o_noDrags o_kept o_sets o_ringFar o_ringTone o_currents o_warmths o_code o_cellAt o_courseAt o_paceAt o_turnsAt o_slowAt o_fuelAt o_ringAt o_pieceParts o_dragCell o_dragBy o_sums) := hD.sub [17, 0, 1, 2, 3, 4, 5, 6, 7, 8, 9, 10, 11, 12, 13, 14, 15, 16] (by decide +kernel) rfl
  clear hPc hDc hFc
  refine lv_aload_n hx hb dX7_endsAsTold_4 rfl (lv_at hl 0 rfl) ?_
  refine lv_iconst (v := 0) hx hb dX7_endsAsTold_5 (by decide) ?_
  refine va_put (D := (dC, dI)) (ci := 7) (v := .int 0) (ty := .int) (C := RX7) (T := TX7) (N := 42) hx hb hts hi7 tyX7 tyX7_ok nmX7 hown hK hP hD hS 0 rfl rfl 32 (by decide) hq0 (fun _ h9 => h9) rfl (by decide +kernel) rfl rfl (Nat.le_of_ble_eq_true rfl) dX7_endsAsTold_6 (fun H locs hP hD hS => ?_)
  have hP : va_P (dC, dI) vwCl (W_X7_endsAsTold cyI cyJ cyO h_o a_o_sets a_o_ringFar a_o_ringTone a_o_currents a_o_warmths a_o_depths a_o_tape a_o_readFar a_o_readTone a_o_readSea a_o_code a_o_cellAt a_o_courseAt a_o_paceAt a_o_turnsAt a_o_slowAt a_o_fuelAt a_o_ringAt a_o_pieceParts a_o_dragCell a_o_dragBy a_o_sums a_o_shares a_o_keptFar a_o_image a_o_lanes a_o_sizes a_o_items a_o_movedItems o_taped o_at o_wrong o_level w_1 w_2 w_3 o_pieces o_drags o_all 0 o_noDrags o_kept o_sets o_ringFar o_ringTone o_currents o_warmths o_code o_cellAt o_courseAt o_paceAt o_turnsAt o_slowAt o_fuelAt o_ringAt o_pieceParts o_dragCell o_dragBy o_sums) H := hP
  have hD : va_D A (W_X7_endsAsTold cyI cyJ cyO h_o a_o_sets a_o_ringFar a_o_ringTone a_o_currents a_o_warmths a_o_depths a_o_tape a_o_readFar a_o_readTone a_o_readSea a_o_code a_o_cellAt a_o_courseAt a_o_paceAt a_o_turnsAt a_o_slowAt a_o_fuelAt a_o_ringAt a_o_pieceParts a_o_dragCell a_o_dragBy a_o_sums a_o_shares a_o_keptFar a_o_image a_o_lanes a_o_sizes a_o_items a_o_movedItems o_taped o_at o_wrong o_level w_1 w_2 w_3 o_pieces o_drags o_all 0 o_noDrags o_kept o_sets o_ringFar o_ringTone o_currents o_warmths o_code o_cellAt o_courseAt o_paceAt o_turnsAt o_slowAt o_fuelAt o_ringAt o_pieceParts o_dragCell o_dragBy o_sums) := hD
  refine lv_aload_n hx hb dX7_endsAsTold_9 rfl (lv_at hl 0 rfl) ?_
  refine lv_iconst (v := 0) hx hb dX7_endsAsTold_10 (by decide) ?_
  refine va_put (D := (dC, dI)) (ci := 7) (v := .int 0) (ty := .boolean) (C := RX7) (T := TX7) (N := 42) hx hb hts hi7 tyX7 tyX7_ok nmX7 hown hK hP hD hS 0 rfl rfl 33 (by decide) hq2 (fun _ h9 => h9) rfl (by decide +kernel) rfl rfl (Nat.le_of_ble_eq_true rfl) dX7_endsAsTold_11 (fun H locs hP hD hS => ?_)
  have hP : va_P (dC, dI) vwCl (W_X7_endsAsTold cyI cyJ cyO h_o a_o_sets a_o_ringFar a_o_ringTone a_o_currents a_o_warmths a_o_depths a_o_tape a_o_readFar a_o_readTone a_o_readSea a_o_code a_o_cellAt a_o_courseAt a_o_paceAt a_o_turnsAt a_o_slowAt a_o_fuelAt a_o_ringAt a_o_pieceParts a_o_dragCell a_o_dragBy a_o_sums a_o_shares a_o_keptFar a_o_image a_o_lanes a_o_sizes a_o_items a_o_movedItems o_taped o_at o_wrong o_level w_1 w_2 w_3 o_pieces o_drags o_all 0 0 o_kept o_sets o_ringFar o_ringTone o_currents o_warmths o_code o_cellAt o_courseAt o_paceAt o_turnsAt o_slowAt o_fuelAt o_ringAt o_pieceParts o_dragCell o_dragBy o_sums) H := hP
  have hD : va_D A (W_X7_endsAsTold cyI cyJ cyO h_o a_o_sets a_o_ringFar a_o_ringTone a_o_currents a_o_warmths a_o_depths a_o_tape a_o_readFar a_o_readTone a_o_readSea a_o_code a_o_cellAt a_o_courseAt a_o_paceAt a_o_turnsAt a_o_slowAt a_o_fuelAt a_o_ringAt a_o_pieceParts a_o_dragCell a_o_dragBy a_o_sums a_o_shares a_o_keptFar a_o_image a_o_lanes a_o_sizes a_o_items a_o_movedItems o_taped o_at o_wrong o_level w_1 w_2 w_3 o_pieces o_drags o_all 0 0 o_kept o_sets o_ringFar o_ringTone o_currents o_warmths o_code o_cellAt o_courseAt o_paceAt o_turnsAt o_slowAt o_fuelAt o_ringAt o_pieceParts o_dragCell o_dragBy o_sums) := hD
  refine lv_aload_n hx hb dX7_endsAsTold_14 rfl (lv_at hl 0 rfl) ?_
  have hPc := hP.sub (ws' := (W_X7_ends cyI cyJ cyO h_o a_o_sets a_o_ringFar a_o_ringTone a_o_currents a_o_warmths a_o_depths a_o_tape a_o_readFar a_o_readTone a_o_readSea a_o_code a_o_cellAt a_o_courseAt a_o_paceAt a_o_turnsAt a_o_slowAt a_o_fuelAt a_o_ringAt a_o_pieceParts a_o_dragCell a_o_dragBy a_o_sums a_o_shares a_o_keptFar a_o_image a_o_lanes a_o_sizes a_o_items a_o_movedItems o_taped o_at o_wrong o_level w_1 w_2 w_3 o_pieces o_drags o_all 0 0 o_kept o_sets o_ringFar o_ringTone o_currents o_warmths o_code o_cellAt o_courseAt o_paceAt o_turnsAt o_slowAt o_fuelAt o_ringAt o_pieceParts o_dragCell o_dragBy o_sums)) [0, 1, 2, 3, 4, 5, 6, 7, 8, 9, 10, 11, 12, 13, 14, 15, 16, 17] rfl
  have hDc := hD.sub (ws' := (W_X7_ends cyI cyJ cyO h_o a_o_sets a_o_ringFar a_o_ringTone a_o_currents a_o_warmths a_o_depths a_o_tape a_o_readFar a_o_readTone a_o_readSea a_o_code a_o_cellAt a_o_courseAt a_o_paceAt a_o_turnsAt a_o_slowAt a_o_fuelAt a_o_ringAt a_o_pieceParts a_o_dragCell a_o_dragBy a_o_sums a_o_shares a_o_keptFar a_o_image a_o_lanes a_o_sizes a_o_items a_o_movedItems o_taped o_at o_wrong o_level w_1 w_2 w_3 o_pieces o_drags o_all 0 0 o_kept o_sets o_ringFar o_ringTone o_currents o_warmths o_code o_cellAt o_courseAt o_paceAt o_turnsAt o_slowAt o_fuelAt o_ringAt o_pieceParts o_dragCell o_dragBy o_sums)) [0, 1, 2, 3, 4, 5, 6, 7, 8, 9, 10, 11, 12, 13, 14, 15, 16, 17] (by decide +kernel) rfl
  have hFc := va_free (wc := (W_X7_ends cyI cyJ cyO h_o a_o_sets a_o_ringFar a_o_ringTone a_o_currents a_o_warmths a_o_depths a_o_tape a_o_readFar a_o_readTone a_o_readSea a_o_code a_o_cellAt a_o_courseAt a_o_paceAt a_o_turnsAt a_o_slowAt a_o_fuelAt a_o_ringAt a_o_pieceParts a_o_dragCell a_o_dragBy a_o_sums a_o_shares a_o_keptFar a_o_image a_o_lanes a_o_sizes a_o_items a_o_movedItems o_taped o_at o_wrong o_level w_1 w_2 w_3 o_pieces o_drags o_all 0 0 o_kept o_sets o_ringFar o_ringTone o_currents o_warmths o_code o_cellAt o_courseAt o_paceAt o_turnsAt o_slowAt o_fuelAt o_ringAt o_pieceParts o_dragCell o_dragBy o_sums)) hD hS hA [0, 1, 2, 3, 4, 5, 6, 7, 8, 9, 10, 11, 12, 13, 14, 15, 16, 17] rfl
  refine kc_v (wr := []) (va_runV (As := []) (rest := []) ⟨hx, hb, hml, hown, hts⟩ (c_X7_ends l dC dI cyI cyJ cyO H.size h_o a_o_sets a_o_ringFar a_o_ringTone a_o_currents a_o_warmths a_o_depths a_o_tape a_o_readFar a_o_readTone a_o_readSea a_o_code a_o_cellAt a_o_courseAt a_o_paceAt a_o_turnsAt a_o_slowAt a_o_fuelAt a_o_ringAt a_o_pieceParts a_o_dragCell a_o_dragBy a_o_sums a_o_shares a_o_keptFar a_o_image a_o_lanes a_o_sizes a_o_items a_o_movedItems o_taped o_at o_wrong o_level w_1 w_2 w_3 o_pieces o_drags o_all 0 0 o_kept o_sets o_ringFar o_ringTone o_currents o_warmths o_code o_cellAt o_courseAt o_paceAt o_turnsAt o_slowAt o_fuelAt o_ringAt o_pieceParts o_dragCell o_dragBy o_sums _ (okb11 hw)) (cwV 0 hts (gdV (fun w h => List.mem_cons_of_mem _ h) q_995 q_997 qs_39 q_8 q_998) rfl rfl rfl (by decide +kernel) ⟨Nat.le_of_ble_eq_true rfl, Nat.le_of_ble_eq_true rfl⟩) ⟨(kpre zN_ok hK hPc hDc trivial hS hFc).1, va_recv hK hP (ci := 7) (q0 := 0) rfl rfl, (kpre zN_ok hK hPc hDc trivial hS hFc).2⟩ rfl rfl hl.1 rfl (lv_room (Nat.le_of_ble_eq_true rfl)) dX7_endsAsTold_15 ⟨Nat.le_of_ble_eq_true rfl, Nat.le_of_ble_eq_true rfl⟩) hP hD hS hFc [0, 1, 2, 3, 4, 5, 6, 7, 8, 9, 10, 11, 12, 13, 14, 15, 16, 17] [] rfl rfl (by decide +kernel) (by decide +kernel) (fun u H locs hw hP hD hS => ?_)
  obtain ⟨w_4, w_5, w_6, w_7, w_8, w_9, w_10, w_11, w_12, w_13, w_14⟩ := u
  try dsimp only at hw
  have hP : va_P (dC, dI) vwCl (W_X7_endsAsTold cyI cyJ cyO h_o a_o_sets a_o_ringFar a_o_ringTone a_o_currents a_o_warmths a_o_depths a_o_tape a_o_readFar a_o_readTone a_o_readSea a_o_code a_o_cellAt a_o_courseAt a_o_paceAt a_o_turnsAt a_o_slowAt a_o_fuelAt a_o_ringAt a_o_pieceParts a_o_dragCell a_o_dragBy a_o_sums a_o_shares a_o_keptFar a_o_image a_o_lanes a_o_sizes a_o_items a_o_movedItems o_taped o_at o_wrong w_4 w_1 w_2 w_3 o_pieces o_drags w_5 0 0 o_kept o_sets o_ringFar o_ringTone o_currents o_warmths w_6 w_7 w_8 w_9 w_10 w_11 w_12 w_13 o_pieceParts o_dragCell o_dragBy w_14) H := hP.sub [0, 1, 2, 3, 4, 5, 6, 7, 8, 9, 10, 11, 12, 13, 14, 15, 16, 17] rfl
  have hD : va_D A (W_X7_endsAsTold cyI cyJ cyO h_o a_o_sets a_o_ringFar a_o_ringTone a_o_currents a_o_warmths a_o_depths a_o_tape a_o_readFar a_o_readTone a_o_readSea a_o_code a_o_cellAt a_o_courseAt a_o_paceAt a_o_turnsAt a_o_slowAt a_o_fuelAt a_o_ringAt a_o_pieceParts a_o_dragCell a_o_dragBy a_o_sums a_o_shares a_o_keptFar a_o_image a_o_lanes a_o_sizes a_o_items a_o_movedItems o_taped o_at o_wrong w_4 w_1 w_2 w_3 o_pieces o_drags w_5 0 0 o_kept o_sets o_ringFar o_ringTone o_currents o_warmths w_6 w_7 w_8 w_9 w_10 w_11 w_12 w_13 o_pieceParts o_dragCell o_dragBy w_14) := hD.sub [0, 1, 2, 3, 4, 5, 6, 7, 8, 9, 10, 11, 12, 13, 14, 15, 16, 17] (by decide +kernel) rfl
  clear hPc hDc hFc
  rw [hQ]
  exact W.vret hx hb hr (fun t ht hW => ⟨⟨(w_4, w_1, w_2, w_3, w_5, 0, 0, w_6, w_7, w_8, w_9, w_10, w_11, w_12, w_13, w_14), rfl, okS hw, by rw [ht]; exact hP, va_K.moved hW.alike hK, hD⟩, hS.F ht⟩) hS.2.2 dX7_endsAsTold_18
/-! ===== X7_lowest ===== -/
theorem dX7_lowest_0 : decode cX7_lowest 0 = .ok (.lload_n 0, 1) := by decide +kernel
theorem dX7_lowest_1 : decode cX7_lowest 1 = .ok (.lstore 5, 2) := by decide +kernel
theorem dX7_lowest_3 : decode cX7_lowest 3 = .ok (.lload_n 2, 1) := by decide +kernel
theorem dX7_lowest_4 : decode cX7_lowest 4 = .ok (.lstore 7, 2) := by decide +kernel
theorem dX7_lowest_6 : decode cX7_lowest 6 = .ok (.lload 7, 2) := by decide +kernel
theorem dX7_lowest_8 : decode cX7_lowest 8 = .ok (.lconst 0, 1) := by decide +kernel
theorem dX7_lowest_9 : decode cX7_lowest 9 = .ok (.lcmp, 1) := by decide +kernel
theorem dX7_lowest_10 : decode cX7_lowest 10 = .ok (.ifCond .eq 21, 3) := by decide +kernel
theorem dX7_lowest_13 : decode cX7_lowest 13 = .ok (.lload 5, 2) := by decide +kernel
theorem dX7_lowest_15 : decode cX7_lowest 15 = .ok (.lload 7, 2) := by decide +kernel
theorem dX7_lowest_17 : decode cX7_lowest 17 = .ok (.lrem, 1) := by decide +kernel
theorem dX7_lowest_18 : decode cX7_lowest 18 = .ok (.lstore 9, 2) := by decide +kernel
theorem dX7_lowest_20 : decode cX7_lowest 20 = .ok (.lload 7, 2) := by decide +kernel
theorem dX7_lowest_22 : decode cX7_lowest 22 = .ok (.lstore 5, 2) := by decide +kernel
theorem dX7_lowest_24 : decode cX7_lowest 24 = .ok (.lload 9, 2) := by decide +kernel
theorem dX7_lowest_26 : decode cX7_lowest 26 = .ok (.lstore 7, 2) := by decide +kernel
theorem dX7_lowest_28 : decode cX7_lowest 28 = .ok (.goto (-22), 3) := by decide +kernel
theorem dX7_lowest_31 : decode cX7_lowest 31 = .ok (.iload 4, 2) := by decide +kernel
theorem dX7_lowest_33 : decode cX7_lowest 33 = .ok (.ifCond .ne 10, 3) := by decide +kernel
theorem dX7_lowest_36 : decode cX7_lowest 36 = .ok (.lload_n 0, 1) := by decide +kernel
theorem dX7_lowest_37 : decode cX7_lowest 37 = .ok (.lload 5, 2) := by decide +kernel
theorem dX7_lowest_39 : decode cX7_lowest 39 = .ok (.ldiv, 1) := by decide +kernel
theorem dX7_lowest_40 : decode cX7_lowest 40 = .ok (.goto 7, 3) := by decide +kernel
theorem dX7_lowest_43 : decode cX7_lowest 43 = .ok (.lload_n 2, 1) := by decide +kernel
theorem dX7_lowest_44 : decode cX7_lowest 44 = .ok (.lload 5, 2) := by decide +kernel
theorem dX7_lowest_46 : decode cX7_lowest 46 = .ok (.ldiv, 1) := by decide +kernel
theorem dX7_lowest_47 : decode cX7_lowest 47 = .ok (.lreturn, 1) := by decide +kernel
abbrev W_X7_lowest (cyI cyJ cyO : ClassId) : va_W := []
def f_X7_lowest_L6b (k6 : Int64 → Int64 → Int32 → Int64 → Int64 → Option (Int64)) (v0 : Int64) (v2 : Int64) (v4 : Int32) (v5 : Int64) (v7 : Int64) : Option (Int64) :=
  if (lg_cmp v7 0) = 0 then
    if v4 = 0 then
      chk (¬ v5 = 0) <|
      some (v0 / v5)
    else
      chk (¬ v5 = 0) <|
      some (v2 / v5)
  else
    chk (¬ v7 = 0) <|
    nm (v5 - v5 / v7 * v7) fun x_1 =>
    k6 v0 v2 v4 v7 x_1
def f_X7_lowest_L6 : Nat → Int64 → Int64 → Int32 → Int64 → Int64 → Option (Int64)
  | 0 => fun _ _ _ _ _ => none
  | n + 1 => f_X7_lowest_L6b (f_X7_lowest_L6 n)
def f_X7_lowest (x1 : Int64) (x2 : Int64) (x3 : Int32) : Option (Int64) :=
  f_X7_lowest_L6 FU x1 x2 x3 x1 x2
abbrev rm_X7_lowest : Room := { frames := 0, cells := 0, slots := 0, locals := 0 }
set_option maxRecDepth 100000 in
set_option maxHeartbeats 4000000 in
theorem c_X7_lowest (l : Launch) (dC : Nat → ClassId) (dI : Nat → Nat → Nat) (cyI cyJ cyO : ClassId) (sz : Nat) (x1 : Int64) (x2 : Int64) (x3 : Int32) (post : Int64 → Prop) (hf : okP (f_X7_lowest x1 x2 x3) post) : Cl l (dC, dI) (tyL cyI cyJ cyO) yX7_lowest wsX7_lowest rm_X7_lowest [.long x1, .long x2, .int x3] sz (W_X7_lowest cyI cyJ cyO) zN (fun r (_ : Unit) => post r) (fun _ => (W_X7_lowest cyI cyJ cyO)) := by
  refine Met.ofW (cc := cX7_lowest) (maxL := 11) (ret := (some .long)) (by decide) rfl ?_
  intro p e s m args below meth c s₁ B hml hv
  obtain ⟨rfl, hsz, hP, hK, hD0, hZ⟩ := hv
  have hx := B.exec
  have hb := B.bytes
  have hr := B.returns
  have hts := atoms_spec (ws := wsX7_lowest) B.pre
  have hown : s.vm.findClass RX7 = some m.cls := findClass_of_methodNamed B.named
  have hlocks := B.notSynchronized
  subst hsz
  have hD := hD0.self (sz := s.heap.size)
  generalize hAe : va_A (W_X7_lowest cyI cyJ cyO) s.heap.size = A at hD hZ ⊢
  have hA : ∀ q : Nat, s.heap.size ≤ q → A q := fun q h => by rw [← hAe]; exact Or.inr h
  clear hAe hD0
  have hS : va_S A s.heap s.heap [] := va_S.rf
  have hl := lv_entry ([.long x1, .long x2, .int x3]) (n := 11) (Nat.le_of_ble_eq_true rfl)
  rw [lg_entry_eq]
  generalize (lg_sl ([.long x1, .long x2, .int x3]) ++ List.replicate (11 - (lg_sl ([.long x1, .long x2, .int x3])).length) Slot.unset).toArray = ls at hl ⊢
  have hl : lv_has ls 11 [(0, .long x1), (2, .long x2), (4, .int x3)] := hl
  refine kW (fun Q hQ => ?_)
  have hw := hf
  have w6 : ∀ (n : Nat), ∀ (v0 : Int64) (v2 : Int64) (v4 : Int32) (v5 : Int64) (v7 : Int64) (H : Heap) (locs : List Loc), va_P (dC, dI) vwCl (W_X7_lowest cyI cyJ cyO) H → va_D A (W_X7_lowest cyI cyJ cyO) → va_S A s.heap H locs → ∀ (ls : Array Slot), lv_has ls 11 [(0, .long v0), (2, .long v2), (4, .int v4), (5, .long v5), (7, .long v7)] → okP (f_X7_lowest_L6 n v0 v2 v4 v5 v7) post → W p l e (headSpec wsX7_lowest rm_X7_lowest).room s m ([.long x1, .long x2, .int x3] : List Value).toArray below meth c H locs 0 0 Q (F0 m 6 ls []) := by
    intro n
    induction n with
    | zero =>
      intro v0 v2 v4 v5 v7 H locs hP hD hS ls hl hw
      exact (ok0 hw).elim
    | succ n6 ih6 =>
      intro v0 v2 v4 v5 v7 H locs hP hD hS ls hl hw
      replace hw : okP (f_X7_lowest_L6b (f_X7_lowest_L6 n6) v0 v2 v4 v5 v7) post := hw
      unfold f_X7_lowest_L6b at hw
      refine lv_lload hx hb dX7_lowest_6 (lv_at hl 4 rfl) ?_
      refine lv_lconst (v := 0) hx hb dX7_lowest_8 (by decide) ?_
      refine W.lcmp hx hb dX7_lowest_9 ?_
      refine lv_if_eq (tgt := 31) hx hb dX7_lowest_10 (by decide) (fun c_1 => ?_) (fun c_1 => ?_)
      · replace hw := okT hw c_1
        clear c_1
        refine lv_iload hx hb dX7_lowest_31 (lv_at hl 2 rfl) ?_
        refine lv_if_ne (tgt := 43) hx hb dX7_lowest_33 (by decide) (fun c_2 => ?_) (fun c_2 => ?_)
        · replace hw := okF hw c_2
          clear c_2
          refine lv_lload_n hx hb dX7_lowest_43 rfl (lv_at hl 1 rfl) ?_
          refine lv_lload hx hb dX7_lowest_44 (lv_at hl 3 rfl) ?_
          obtain ⟨h_3, hw⟩ := okC hw
          refine lv_ldiv hx hb dX7_lowest_46 h_3 ?_
          rw [hQ]
          exact W.lret (v := v2 / v5) hx hb hr (fun t ht hW => ⟨⟨v2 / v5, (), rfl, okS hw, by rw [ht]; exact hP, va_K.moved hW.alike hK, hD⟩, hS.F ht⟩) hS.2.2 dX7_lowest_47
        · replace hw := okT hw c_2
          clear c_2
          refine lv_lload_n hx hb dX7_lowest_36 rfl (lv_at hl 0 rfl) ?_
          refine lv_lload hx hb dX7_lowest_37 (lv_at hl 3 rfl) ?_
          obtain ⟨h_4, hw⟩ := okC hw
          refine lv_ldiv hx hb dX7_lowest_39 h_4 ?_
          refine lv_goto (tgt := 47) hx hb dX7_lowest_40 (by decide) ?_
          rw [hQ]
          exact W.lret (v := v0 / v5) hx hb hr (fun t ht hW => ⟨⟨v0 / v5, (), rfl, okS hw, by rw [ht]; exact hP, va_K.moved hW.alike hK, hD⟩, hS.F ht⟩) hS.2.2 dX7_lowest_47
      · replace hw := okF hw c_1
        clear c_1
        refine lv_lload hx hb dX7_lowest_13 (lv_at hl 3 rfl) ?_
        refine lv_lload hx hb dX7_lowest_15 (lv_at hl 4 rfl) ?_
        obtain ⟨h_5, hw⟩ := okC hw
        refine lv_lrem hx hb dX7_lowest_17 h_5 ?_
        refine lv_topl (fun x_6 ex_6 => ?_)
        replace hw := okN ex_6 hw
        clear ex_6
        refine lv_lstore (lv' := [(9, .long x_6), (0, .long v0), (2, .long v2), (4, .int v4), (5, .long v5), (7, .long v7)]) hx hb dX7_lowest_18 hl (by decide) rfl (fun ls hl => ?_)
        refine lv_lload hx hb dX7_lowest_20 (lv_at hl 5 rfl) ?_
        refine lv_lstore (lv' := [(5, .long v7), (9, .long x_6), (0, .long v0), (2, .long v2), (4, .int v4), (7, .long v7)]) hx hb dX7_lowest_22 hl (by decide) rfl (fun ls hl => ?_)
        refine lv_lload hx hb dX7_lowest_24 (lv_at hl 1 rfl) ?_
        refine lv_lstore (lv' := [(7, .long x_6), (5, .long v7), (9, .long x_6), (0, .long v0), (2, .long v2), (4, .int v4)]) hx hb dX7_lowest_26 hl (by decide) rfl (fun ls hl => ?_)
        refine lv_goto (tgt := 6) hx hb dX7_lowest_28 (by decide) ?_
        exact ih6 v0 v2 v4 v7 x_6 _ _ hP hD hS _ (lv_sub hl [3, 4, 5, 1, 0] rfl) hw
  unfold f_X7_lowest at hw
  have hP : va_P (dC, dI) vwCl (W_X7_lowest cyI cyJ cyO) s.heap := hP
  obtain ⟨H, hH⟩ : ∃ H, H = s.heap := ⟨_, rfl⟩
  obtain ⟨locs, hlo⟩ : ∃ x : List Loc, x = [] := ⟨_, rfl⟩
  have hP : va_P (dC, dI) vwCl (W_X7_lowest cyI cyJ cyO) H := by rw [hH]; exact hP
  have hS : va_S A s.heap H locs := by rw [hH, hlo]; exact hS
  refine kH hH hlo ?_
  clear hH hlo
  refine lv_lload_n hx hb dX7_lowest_0 rfl (lv_at hl 0 rfl) ?_
  refine lv_lstore (lv' := [(5, .long x1), (0, .long x1), (2, .long x2), (4, .int x3)]) hx hb dX7_lowest_1 hl (by decide) rfl (fun ls hl => ?_)
  refine lv_lload_n hx hb dX7_lowest_3 rfl (lv_at hl 2 rfl) ?_
  refine lv_lstore (lv' := [(7, .long x2), (5, .long x1), (0, .long x1), (2, .long x2), (4, .int x3)]) hx hb dX7_lowest_4 hl (by decide) rfl (fun ls hl => ?_)
  exact w6 FU x1 x2 x3 x1 x2 _ _ hP hD hS _ (lv_sub hl [2, 3, 4, 1, 0] rfl) hw
/-! ===== X7_odds ===== -/
theorem dX7_odds_0 : decode cX7_odds 0 = .ok (.iload_n 1, 1) := by decide +kernel
theorem dX7_odds_1 : decode cX7_odds 1 = .ok (.invokestatic 115, 3) := by decide +kernel
theorem dX7_odds_4 : decode cX7_odds 4 = .ok (.ifCond .eq 13, 3) := by decide +kernel
theorem dX7_odds_7 : decode cX7_odds 7 = .ok (.iload_n 2, 1) := by decide +kernel
theorem dX7_odds_8 : decode cX7_odds 8 = .ok (.i2l, 1) := by decide +kernel
theorem dX7_odds_9 : decode cX7_odds 9 = .ok (.lconst 0, 1) := by decide +kernel
theorem dX7_odds_10 : decode cX7_odds 10 = .ok (.lconst 1, 1) := by decide +kernel
theorem dX7_odds_11 : decode cX7_odds 11 = .ok (.invokestatic 100, 3) := by decide +kernel
theorem dX7_odds_14 : decode cX7_odds 14 = .ok (.ifCond .ne 7, 3) := by decide +kernel
theorem dX7_odds_17 : decode cX7_odds 17 = .ok (.ldc2_w 124, 3) := by decide +kernel
theorem dX7_odds_20 : decode cX7_odds 20 = .ok (.lreturn, 1) := by decide +kernel
theorem dX7_odds_21 : decode cX7_odds 21 = .ok (.aload_n 0, 1) := by decide +kernel
theorem dX7_odds_22 : decode cX7_odds 22 = .ok (.invokevirtual 234, 3) := by decide +kernel
theorem dX7_odds_25 : decode cX7_odds 25 = .ok (.aload_n 0, 1) := by decide +kernel
theorem dX7_odds_26 : decode cX7_odds 26 = .ok (.getfield 221, 3) := by decide +kernel
theorem dX7_odds_29 : decode cX7_odds 29 = .ok (.lconst 0, 1) := by decide +kernel
theorem dX7_odds_30 : decode cX7_odds 30 = .ok (.lcmp, 1) := by decide +kernel
theorem dX7_odds_31 : decode cX7_odds 31 = .ok (.ifCond .ne 9, 3) := by decide +kernel
theorem dX7_odds_34 : decode cX7_odds 34 = .ok (.ldc2_w 237, 3) := by decide +kernel
theorem dX7_odds_37 : decode cX7_odds 37 = .ok (.goto 17, 3) := by decide +kernel
theorem dX7_odds_40 : decode cX7_odds 40 = .ok (.aload_n 0, 1) := by decide +kernel
theorem dX7_odds_41 : decode cX7_odds 41 = .ok (.getfield 73, 3) := by decide +kernel
theorem dX7_odds_44 : decode cX7_odds 44 = .ok (.iload_n 1, 1) := by decide +kernel
theorem dX7_odds_45 : decode cX7_odds 45 = .ok (.laload, 1) := by decide +kernel
theorem dX7_odds_46 : decode cX7_odds 46 = .ok (.aload_n 0, 1) := by decide +kernel
theorem dX7_odds_47 : decode cX7_odds 47 = .ok (.getfield 221, 3) := by decide +kernel
theorem dX7_odds_50 : decode cX7_odds 50 = .ok (.iload_n 2, 1) := by decide +kernel
theorem dX7_odds_51 : decode cX7_odds 51 = .ok (.invokestatic 239, 3) := by decide +kernel
theorem dX7_odds_54 : decode cX7_odds 54 = .ok (.lreturn, 1) := by decide +kernel
abbrev W_X7_odds (cyI cyJ cyO : ClassId) (h_o a_o_sets a_o_ringFar a_o_ringTone a_o_currents a_o_warmths a_o_depths a_o_tape a_o_readFar a_o_readTone a_o_readSea a_o_code a_o_cellAt a_o_courseAt a_o_paceAt a_o_turnsAt a_o_slowAt a_o_fuelAt a_o_ringAt a_o_pieceParts a_o_dragCell a_o_dragBy a_o_sums a_o_shares a_o_keptFar a_o_image a_o_lanes a_o_sizes a_o_items a_o_movedItems : Nat) (o_taped : Int32) (o_at : Int32) (o_wrong : Int32) (o_level : Int32) (o_noRings : Int32) (o_noTones : Int32) (o_noFuel : Int32) (o_pieces : Int32) (o_drags : Int32) (o_all : Int64) (o_noPieces : Int32) (o_noDrags : Int32) (o_kept : Int32) (o_sets : Nat → Int32) (o_ringFar : Nat → Int32) (o_ringTone : Nat → Int32) (o_currents : Nat → Int32) (o_warmths : Nat → Int32) (o_code : Nat → Int32) (o_cellAt : Nat → Int32) (o_courseAt : Nat → Int32) (o_paceAt : Nat → Int32) (o_turnsAt : Nat → Int32) (o_slowAt : Nat → Int32) (o_fuelAt : Nat → Int32) (o_ringAt : Nat → Int32) (o_pieceParts : Nat → Int32) (o_dragCell : Nat → Int32) (o_dragBy : Nat → Int32) (o_sums : Nat → Int64) : va_W := [(h_o, .inr (7, [.ref a_o_sets, .ref a_o_ringFar, .ref a_o_ringTone, .ref a_o_currents, .ref a_o_warmths, .ref a_o_depths, .ref a_o_tape, .int o_taped, .int o_at, .int o_wrong, .ref a_o_readFar, .ref a_o_readTone, .ref a_o_readSea, .ref a_o_code, .ref a_o_cellAt, .ref a_o_courseAt, .ref a_o_paceAt, .ref a_o_turnsAt, .ref a_o_slowAt, .ref a_o_fuelAt, .ref a_o_ringAt, .int o_level, .int o_noRings, .int o_noTones, .int o_noFuel, .int o_pieces, .ref a_o_pieceParts, .int o_drags, .ref a_o_dragCell, .ref a_o_dragBy, .ref a_o_sums, .long o_all, .int o_noPieces, .int o_noDrags, .ref a_o_shares, .ref a_o_keptFar, .ref a_o_image, .int o_kept, .ref a_o_lanes, .ref a_o_sizes, .ref a_o_items, .ref a_o_movedItems])), (a_o_sets, .inl (cyI, 8, .inl o_sets)), (a_o_ringFar, .inl (cyI, 7, .inl o_ringFar)), (a_o_ringTone, .inl (cyI, 7, .inl o_ringTone)), (a_o_currents, .inl (cyI, 200, .inl o_currents)), (a_o_warmths, .inl (cyI, 200, .inl o_warmths)), (a_o_code, .inl (cyI, 7, .inl o_code)), (a_o_cellAt, .inl (cyI, 7, .inl o_cellAt)), (a_o_courseAt, .inl (cyI, 7, .inl o_courseAt)), (a_o_paceAt, .inl (cyI, 7, .inl o_paceAt)), (a_o_turnsAt, .inl (cyI, 7, .inl o_turnsAt)), (a_o_slowAt, .inl (cyI, 7, .inl o_slowAt)), (a_o_fuelAt, .inl (cyI, 7, .inl o_fuelAt)), (a_o_ringAt, .inl (cyI, 7, .inl o_ringAt)), (a_o_pieceParts, .inl (cyI, 20, .inl o_pieceParts)), (a_o_dragCell, .inl (cyI, 6, .inl o_dragCell)), (a_o_dragBy, .inl (cyI, 6, .inl o_dragBy)), (a_o_sums, .inl (cyJ, 100, .inr (.inl o_sums)))]
def f_X7_odds (x1 : Int32) (x2 : Int32) (o_level : Int32) (o_noRings : Int32) (o_noTones : Int32) (o_noFuel : Int32) (o_pieces : Int32) (o_drags : Int32) (o_all : Int64) (o_noPieces : Int32) (o_noDrags : Int32) (o_sets : Nat → Int32) (o_ringFar : Nat → Int32) (o_ringTone : Nat → Int32) (o_currents : Nat → Int32) (o_warmths : Nat → Int32) (o_code : Nat → Int32) (o_cellAt : Nat → Int32) (o_courseAt : Nat → Int32) (o_paceAt : Nat → Int32) (o_turnsAt : Nat → Int32) (o_slowAt : Nat → Int32) (o_fuelAt : Nat → Int32) (o_ringAt : Nat → Int32) (o_pieceParts : Nat → Int32) (o_dragCell : Nat → Int32) (o_dragBy : Nat → Int32) (o_sums : Nat → Int64) : Option (Int64 × Int32 × Int32 × Int32 × Int32 × Int64 × Int32 × Int32 × (Nat → Int32) × (Nat → Int32) × (Nat → Int32) × (Nat → Int32) × (Nat → Int32) × (Nat → Int32) × (Nat → Int32) × (Nat → Int32) × (Nat → Int64)) :=
  bd1 (f_X7_isCell x1) fun r_1 =>
  if r_1 = 0 then
    some ((-1), o_level, o_noRings, o_noTones, o_noFuel, o_all, o_noPieces, o_noDrags, o_code, o_cellAt, o_courseAt, o_paceAt, o_turnsAt, o_slowAt, o_fuelAt, o_ringAt, o_sums)
  else
    bd1 (f_X7_in x2.toInt64 0 1) fun r_2 =>
    if r_2 = 0 then
      some ((-1), o_level, o_noRings, o_noTones, o_noFuel, o_all, o_noPieces, o_noDrags, o_code, o_cellAt, o_courseAt, o_paceAt, o_turnsAt, o_slowAt, o_fuelAt, o_ringAt, o_sums)
    else
      bd16 (f_X7_endsAsTold o_level o_noRings o_noTones o_noFuel o_pieces o_drags o_all o_noPieces o_noDrags o_sets o_ringFar o_ringTone o_currents o_warmths o_code o_cellAt o_courseAt o_paceAt o_turnsAt o_slowAt o_fuelAt o_ringAt o_pieceParts o_dragCell o_dragBy o_sums) fun w_3 w_4 w_5 w_6 w_7 w_8 w_9 w_10 w_11 w_12 w_13 w_14 w_15 w_16 w_17 w_18 =>
      if (lg_cmp w_7 0) = 0 then
        some ((-4), w_3, w_4, w_5, w_6, w_7, w_8, w_9, w_10, w_11, w_12, w_13, w_14, w_15, w_16, w_17, w_18)
      else
        chk (¬ (x1 < 0 ∨ 100 ≤ x1.toNatClampNeg)) <|
        bd1 (f_X7_lowest (w_18 x1.toNatClampNeg) w_7 x2) fun r_19 =>
        some (r_19, w_3, w_4, w_5, w_6, w_7, w_8, w_9, w_10, w_11, w_12, w_13, w_14, w_15, w_16, w_17, w_18)
abbrev rm_X7_odds : Room := { frames := 6, cells := 0, slots := 0, locals := 148 }
set_option maxRecDepth 100000 in
set_option maxHeartbeats 4000000 in
theorem c_X7_odds (l : Launch) (dC : Nat → ClassId) (dI : Nat → Nat → Nat) (cyI cyJ cyO : ClassId) (sz : Nat) (h_o a_o_sets a_o_ringFar a_o_ringTone a_o_currents a_o_warmths a_o_depths a_o_tape a_o_readFar a_o_readTone a_o_readSea a_o_code a_o_cellAt a_o_courseAt a_o_paceAt a_o_turnsAt a_o_slowAt a_o_fuelAt a_o_ringAt a_o_pieceParts a_o_dragCell a_o_dragBy a_o_sums a_o_shares a_o_keptFar a_o_image a_o_lanes a_o_sizes a_o_items a_o_movedItems : Nat) (o_taped : Int32) (o_at : Int32) (o_wrong : Int32) (o_level : Int32) (o_noRings : Int32) (o_noTones : Int32) (o_noFuel : Int32) (o_pieces : Int32) (o_drags : Int32) (o_all : Int64) (o_noPieces : Int32) (o_noDrags : Int32) (o_kept : Int32) (o_sets : Nat → Int32) (o_ringFar : Nat → Int32) (o_ringTone : Nat → Int32) (o_currents : Nat → Int32) (o_warmths : Nat → Int32) (o_code : Nat → Int32) (o_cellAt : Nat → Int32) (o_courseAt : Nat → Int32) (o_paceAt : Nat → Int32) (o_turnsAt : Nat → Int32) (o_slowAt : Nat → Int32) (o_fuelAt : Nat → Int32) (o_ringAt : Nat → Int32) (o_pieceParts : Nat → Int32) (o_dragCell : Nat → Int32) (o_dragBy : Nat → Int32) (o_sums : Nat → Int64) (x1 : Int32) (x2 : Int32) (post : (Int64 × Int32 × Int32 × Int32 × Int32 × Int64 × Int32 × Int32 × (Nat → Int32) × (Nat → Int32) × (Nat → Int32) × (Nat → Int32) × (Nat → Int32) × (Nat → Int32) × (Nat → Int32) × (Nat → Int32) × (Nat → Int64)) → Prop) (hf : okP (f_X7_odds x1 x2 o_level o_noRings o_noTones o_noFuel o_pieces o_drags o_all o_noPieces o_noDrags o_sets o_ringFar o_ringTone o_currents o_warmths o_code o_cellAt o_courseAt o_paceAt o_turnsAt o_slowAt o_fuelAt o_ringAt o_pieceParts o_dragCell o_dragBy o_sums) post) : Cl l (dC, dI) (tyL cyI cyJ cyO) yX7_odds wsX7_odds rm_X7_odds [.ref h_o, .int x1, .int x2] sz (W_X7_odds cyI cyJ cyO h_o a_o_sets a_o_ringFar a_o_ringTone a_o_currents a_o_warmths a_o_depths a_o_tape a_o_readFar a_o_readTone a_o_readSea a_o_code a_o_cellAt a_o_courseAt a_o_paceAt a_o_turnsAt a_o_slowAt a_o_fuelAt a_o_ringAt a_o_pieceParts a_o_dragCell a_o_dragBy a_o_sums a_o_shares a_o_keptFar a_o_image a_o_lanes a_o_sizes a_o_items a_o_movedItems o_taped o_at o_wrong o_level o_noRings o_noTones o_noFuel o_pieces o_drags o_all o_noPieces o_noDrags o_kept o_sets o_ringFar o_ringTone o_currents o_warmths o_code o_cellAt o_courseAt o_paceAt o_turnsAt o_slowAt o_fuelAt o_ringAt o_pieceParts o_dragCell o_dragBy o_sums) zN (fun r u => post (r, u)) (fun u => (W_X7_odds cyI cyJ cyO h_o a_o_sets a_o_ringFar a_o_ringTone a_o_currents a_o_warmths a_o_depths a_o_tape a_o_readFar a_o_readTone a_o_readSea a_o_code a_o_cellAt a_o_courseAt a_o_paceAt a_o_turnsAt a_o_slowAt a_o_fuelAt a_o_ringAt a_o_pieceParts a_o_dragCell a_o_dragBy a_o_sums a_o_shares a_o_keptFar a_o_image a_o_lanes a_o_sizes a_o_items a_o_movedItems o_taped o_at o_wrong u.1 u.2.1 u.2.2.1 u.2.2.2.1 o_pieces o_drags u.2.2.2.2.1 u.2.2.2.2.2.1 u.2.2.2.2.2.2.1 o_kept o_sets o_ringFar o_ringTone o_currents o_warmths u.2.2.2.2.2.2.2.1 u.2.2.2.2.2.2.2.2.1 u.2.2.2.2.2.2.2.2.2.1 u.2.2.2.2.2.2.2.2.2.2.1 u.2.2.2.2.2.2.2.2.2.2.2.1 u.2.2.2.2.2.2.2.2.2.2.2.2.1 u.2.2.2.2.2.2.2.2.2.2.2.2.2.1 u.2.2.2.2.2.2.2.2.2.2.2.2.2.2.1 o_pieceParts o_dragCell o_dragBy u.2.2.2.2.2.2.2.2.2.2.2.2.2.2.2)) := by
  refine Met.ofW (cc := cX7_odds) (maxL := 3) (ret := (some .long)) (by decide) rfl ?_
  intro p e s m args below meth c s₁ B hml hv
  obtain ⟨rfl, hsz, hP, hK, hD0, hZ⟩ := hv
  have hx := B.exec
  have hb := B.bytes
  have hr := B.returns
  have hts := atoms_spec (ws := wsX7_odds) B.pre
  have hown : s.vm.findClass RX7 = some m.cls := findClass_of_methodNamed B.named
  have hlocks := B.notSynchronized
  subst hsz
  have hD := hD0.self (sz := s.heap.size)
  generalize hAe : va_A (W_X7_odds cyI cyJ cyO h_o a_o_sets a_o_ringFar a_o_ringTone a_o_currents a_o_warmths a_o_depths a_o_tape a_o_readFar a_o_readTone a_o_readSea a_o_code a_o_cellAt a_o_courseAt a_o_paceAt a_o_turnsAt a_o_slowAt a_o_fuelAt a_o_ringAt a_o_pieceParts a_o_dragCell a_o_dragBy a_o_sums a_o_shares a_o_keptFar a_o_image a_o_lanes a_o_sizes a_o_items a_o_movedItems o_taped o_at o_wrong o_level o_noRings o_noTones o_noFuel o_pieces o_drags o_all o_noPieces o_noDrags o_kept o_sets o_ringFar o_ringTone o_currents o_warmths o_code o_cellAt o_courseAt o_paceAt o_turnsAt o_slowAt o_fuelAt o_ringAt o_pieceParts o_dragCell o_dragBy o_sums) s.heap.size = A at hD hZ ⊢
  have hA : ∀ q : Nat, s.heap.size ≤ q → A q := fun q h => by rw [← hAe]; exact Or.inr h
  clear hAe hD0
  have hS : va_S A s.heap s.heap [] := va_S.rf
  have hl := lv_entry ([.ref h_o, .int x1, .int x2]) (n := 3) (Nat.le_of_ble_eq_true rfl)
  rw [lg_entry_eq]
  generalize (lg_sl ([.ref h_o, .int x1, .int x2]) ++ List.replicate (3 - (lg_sl ([.ref h_o, .int x1, .int x2])).length) Slot.unset).toArray = ls at hl ⊢
  have hl : lv_has ls 3 [(0, .ref h_o), (1, .int x1), (2, .int x2)] := hl
  refine kW (fun Q hQ => ?_)
  have hq0 := hts _ (List.mem_cons_of_mem _ q_858)
  have hq1 := hts _ (List.mem_cons_of_mem _ q_737)
  have hi7 : ∀ w ∈ u_ws RX7 TX7 42, w ∈ wsX7_odds := fun w h => List.mem_cons_of_mem _ (inX7 w h)
  have hq3 := hts _ (List.mem_cons_of_mem _ q_736)
  have hq4 := hts _ (List.mem_cons_of_mem _ q_999)
  have hw := hf
  unfold f_X7_odds at hw
  have hP : va_P (dC, dI) vwCl (W_X7_odds cyI cyJ cyO h_o a_o_sets a_o_ringFar a_o_ringTone a_o_currents a_o_warmths a_o_depths a_o_tape a_o_readFar a_o_readTone a_o_readSea a_o_code a_o_cellAt a_o_courseAt a_o_paceAt a_o_turnsAt a_o_slowAt a_o_fuelAt a_o_ringAt a_o_pieceParts a_o_dragCell a_o_dragBy a_o_sums a_o_shares a_o_keptFar a_o_image a_o_lanes a_o_sizes a_o_items a_o_movedItems o_taped o_at o_wrong o_level o_noRings o_noTones o_noFuel o_pieces o_drags o_all o_noPieces o_noDrags o_kept o_sets o_ringFar o_ringTone o_currents o_warmths o_code o_cellAt o_courseAt o_paceAt o_turnsAt o_slowAt o_fuelAt o_ringAt o_pieceParts o_dragCell o_dragBy o_sums) s.heap := hP
  obtain ⟨H, hH⟩ : ∃ H, H = s.heap := ⟨_, rfl⟩
  obtain ⟨locs, hlo⟩ : ∃ x : List Loc, x = [] := ⟨_, rfl⟩
  have hP : va_P (dC, dI) vwCl (W_X7_odds cyI cyJ cyO h_o a_o_sets a_o_ringFar a_o_ringTone a_o_currents a_o_warmths a_o_depths a_o_tape a_o_readFar a_o_readTone a_o_readSea a_o_code a_o_cellAt a_o_courseAt a_o_paceAt a_o_turnsAt a_o_slowAt a_o_fuelAt a_o_ringAt a_o_pieceParts a_o_dragCell a_o_dragBy a_o_sums a_o_shares a_o_keptFar a_o_image a_o_lanes a_o_sizes a_o_items a_o_movedItems o_taped o_at o_wrong o_level o_noRings o_noTones o_noFuel o_pieces o_drags o_all o_noPieces o_noDrags o_kept o_sets o_ringFar o_ringTone o_currents o_warmths o_code o_cellAt o_courseAt o_paceAt o_turnsAt o_slowAt o_fuelAt o_ringAt o_pieceParts o_dragCell o_dragBy o_sums) H := by rw [hH]; exact hP
  have hS : va_S A s.heap H locs := by rw [hH, hlo]; exact hS
  refine kH hH hlo ?_
  clear hH hlo
  refine lv_iload_n hx hb dX7_odds_0 rfl (lv_at hl 1 rfl) ?_
  have hFc := va_free (wc := []) hD hS hA [] rfl
  refine kp_i (va_runS (As := [.int x1]) (rest := []) ⟨hx, hb, hml, hown, hts⟩ (c_X7_isCell l dC dI cyI cyJ cyO H.size x1 _ (okb1 hw)) (va_cwS 1 hts (gdS (fun w h => List.mem_cons_of_mem _ h) q_845 q_846 q_8 q_847) rfl rfl rfl (by decide +kernel) ⟨Nat.le_of_ble_eq_true rfl, Nat.le_of_ble_eq_true rfl⟩) (kpre zN_ok hK va_P0 va_D0 trivial hS hFc) rfl rfl hl.1 rfl (lv_room (Nat.le_of_ble_eq_true rfl)) dX7_odds_1 ⟨Nat.le_of_ble_eq_true rfl, Nat.le_of_ble_eq_true rfl⟩) hP hD hS hFc (fun r_1 H locs hw hP hS => ?_)
  try dsimp only at hw
  clear hFc
  refine lv_if_eq (tgt := 17) hx hb dX7_odds_4 (by decide) (fun c_2 => ?_) (fun c_2 => ?_)
  · replace hw := okT hw c_2
    clear c_2
    refine lv_ldc2 (v := (-1)) hx hb hown hq0 dX7_odds_17 ?_
    rw [hQ]
    exact W.lret (v := (-1)) hx hb hr (fun t ht hW => ⟨⟨(-1), (o_level, o_noRings, o_noTones, o_noFuel, o_all, o_noPieces, o_noDrags, o_code, o_cellAt, o_courseAt, o_paceAt, o_turnsAt, o_slowAt, o_fuelAt, o_ringAt, o_sums), rfl, okS hw, by rw [ht]; exact hP, va_K.moved hW.alike hK, hD⟩, hS.F ht⟩) hS.2.2 dX7_odds_20
  · replace hw := okF hw c_2
    clear c_2
    refine lv_iload_n hx hb dX7_odds_7 rfl (lv_at hl 2 rfl) ?_
    refine lv_i2l (v := x2.toInt64) hx hb dX7_odds_8 rfl ?_
    refine lv_lconst (v := 0) hx hb dX7_odds_9 (by decide) ?_
    refine lv_lconst (v := 1) hx hb dX7_odds_10 (by decide) ?_
    have hFc := va_free (wc := []) hD hS hA [] rfl
    refine kp_i (va_runS (As := [.long x2.toInt64, .long 0, .long 1]) (rest := []) ⟨hx, hb, hml, hown, hts⟩ (c_X7_in l dC dI cyI cyJ cyO H.size x2.toInt64 0 1 _ (okb1 hw)) (va_cwS 3 hts (gdS (fun w h => List.mem_cons_of_mem _ h) q_838 q_839 q_8 q_840) rfl rfl rfl (by decide +kernel) ⟨Nat.le_of_ble_eq_true rfl, Nat.le_of_ble_eq_true rfl⟩) (kpre zN_ok hK va_P0 va_D0 trivial hS hFc) rfl rfl hl.1 rfl (lv_room (Nat.le_of_ble_eq_true rfl)) dX7_odds_11 ⟨Nat.le_of_ble_eq_true rfl, Nat.le_of_ble_eq_true rfl⟩) hP hD hS hFc (fun r_3 H locs hw hP hS => ?_)
    try dsimp only at hw
    clear hFc
    refine lv_if_ne (tgt := 21) hx hb dX7_odds_14 (by decide) (fun c_4 => ?_) (fun c_4 => ?_)
    · replace hw := okF hw c_4
      clear c_4
      refine lv_aload_n hx hb dX7_odds_21 rfl (lv_at hl 0 rfl) ?_
      have hPc := hP.sub (ws' := (W_X7_endsAsTold cyI cyJ cyO h_o a_o_sets a_o_ringFar a_o_ringTone a_o_currents a_o_warmths a_o_depths a_o_tape a_o_readFar a_o_readTone a_o_readSea a_o_code a_o_cellAt a_o_courseAt a_o_paceAt a_o_turnsAt a_o_slowAt a_o_fuelAt a_o_ringAt a_o_pieceParts a_o_dragCell a_o_dragBy a_o_sums a_o_shares a_o_keptFar a_o_image a_o_lanes a_o_sizes a_o_items a_o_movedItems o_taped o_at o_wrong o_level o_noRings o_noTones o_noFuel o_pieces o_drags o_all o_noPieces o_noDrags o_kept o_sets o_ringFar o_ringTone o_currents o_warmths o_code o_cellAt o_courseAt o_paceAt o_turnsAt o_slowAt o_fuelAt o_ringAt o_pieceParts o_dragCell o_dragBy o_sums)) [0, 1, 2, 3, 4, 5, 6, 7, 8, 9, 10, 11, 12, 13, 14, 15, 16, 17] rfl
      have hDc := hD.sub (ws' := (W_X7_endsAsTold cyI cyJ cyO h_o a_o_sets a_o_ringFar a_o_ringTone a_o_currents a_o_warmths a_o_depths a_o_tape a_o_readFar a_o_readTone a_o_readSea a_o_code a_o_cellAt a_o_courseAt a_o_paceAt a_o_turnsAt a_o_slowAt a_o_fuelAt a_o_ringAt a_o_pieceParts a_o_dragCell a_o_dragBy a_o_sums a_o_shares a_o_keptFar a_o_image a_o_lanes a_o_sizes a_o_items a_o_movedItems o_taped o_at o_wrong o_level o_noRings o_noTones o_noFuel o_pieces o_drags o_all o_noPieces o_noDrags o_kept o_sets o_ringFar o_ringTone o_currents o_warmths o_code o_cellAt o_courseAt o_paceAt o_turnsAt o_slowAt o_fuelAt o_ringAt o_pieceParts o_dragCell o_dragBy o_sums)) [0, 1, 2, 3, 4, 5, 6, 7, 8, 9, 10, 11, 12, 13, 14, 15, 16, 17] (by decide +kernel) rfl
      have hFc := va_free (wc := (W_X7_endsAsTold cyI cyJ cyO h_o a_o_sets a_o_ringFar a_o_ringTone a_o_currents a_o_warmths a_o_depths a_o_tape a_o_readFar a_o_readTone a_o_readSea a_o_code a_o_cellAt a_o_courseAt a_o_paceAt a_o_turnsAt a_o_slowAt a_o_fuelAt a_o_ringAt a_o_pieceParts a_o_dragCell a_o_dragBy a_o_sums a_o_shares a_o_keptFar a_o_image a_o_lanes a_o_sizes a_o_items a_o_movedItems o_taped o_at o_wrong o_level o_noRings o_noTones o_noFuel o_pieces o_drags o_all o_noPieces o_noDrags o_kept o_sets o_ringFar o_ringTone o_currents o_warmths o_code o_cellAt o_courseAt o_paceAt o_turnsAt o_slowAt o_fuelAt o_ringAt o_pieceParts o_dragCell o_dragBy o_sums)) hD hS hA [0, 1, 2, 3, 4, 5, 6, 7, 8, 9, 10, 11, 12, 13, 14, 15, 16, 17] rfl
      refine kc_v (wr := []) (va_runV (As := []) (rest := []) ⟨hx, hb, hml, hown, hts⟩ (c_X7_endsAsTold l dC dI cyI cyJ cyO H.size h_o a_o_sets a_o_ringFar a_o_ringTone a_o_currents a_o_warmths a_o_depths a_o_tape a_o_readFar a_o_readTone a_o_readSea a_o_code a_o_cellAt a_o_courseAt a_o_paceAt a_o_turnsAt a_o_slowAt a_o_fuelAt a_o_ringAt a_o_pieceParts a_o_dragCell a_o_dragBy a_o_sums a_o_shares a_o_keptFar a_o_image a_o_lanes a_o_sizes a_o_items a_o_movedItems o_taped o_at o_wrong o_level o_noRings o_noTones o_noFuel o_pieces o_drags o_all o_noPieces o_noDrags o_kept o_sets o_ringFar o_ringTone o_currents o_warmths o_code o_cellAt o_courseAt o_paceAt o_turnsAt o_slowAt o_fuelAt o_ringAt o_pieceParts o_dragCell o_dragBy o_sums _ (okb16 hw)) (cwV 0 hts (gdV (fun w h => List.mem_cons_of_mem _ h) q_991 q_993 qs_38 q_8 q_994) rfl rfl rfl (by decide +kernel) ⟨Nat.le_of_ble_eq_true rfl, Nat.le_of_ble_eq_true rfl⟩) ⟨(kpre zN_ok hK hPc hDc trivial hS hFc).1, va_recv hK hP (ci := 7) (q0 := 0) rfl rfl, (kpre zN_ok hK hPc hDc trivial hS hFc).2⟩ rfl rfl hl.1 rfl (lv_room (Nat.le_of_ble_eq_true rfl)) dX7_odds_22 ⟨Nat.le_of_ble_eq_true rfl, Nat.le_of_ble_eq_true rfl⟩) hP hD hS hFc [0, 1, 2, 3, 4, 5, 6, 7, 8, 9, 10, 11, 12, 13, 14, 15, 16, 17] [] rfl rfl (by decide +kernel) (by decide +kernel) (fun u H locs hw hP hD hS => ?_)
      obtain ⟨w_5, w_6, w_7, w_8, w_9, w_10, w_11, w_12, w_13, w_14, w_15, w_16, w_17, w_18, w_19, w_20⟩ := u
      try dsimp only at hw
      have hP : va_P (dC, dI) vwCl (W_X7_odds cyI cyJ cyO h_o a_o_sets a_o_ringFar a_o_ringTone a_o_currents a_o_warmths a_o_depths a_o_tape a_o_readFar a_o_readTone a_o_readSea a_o_code a_o_cellAt a_o_courseAt a_o_paceAt a_o_turnsAt a_o_slowAt a_o_fuelAt a_o_ringAt a_o_pieceParts a_o_dragCell a_o_dragBy a_o_sums a_o_shares a_o_keptFar a_o_image a_o_lanes a_o_sizes a_o_items a_o_movedItems o_taped o_at o_wrong w_5 w_6 w_7 w_8 o_pieces o_drags w_9 w_10 w_11 o_kept o_sets o_ringFar o_ringTone o_currents o_warmths w_12 w_13 w_14 w_15 w_16 w_17 w_18 w_19 o_pieceParts o_dragCell o_dragBy w_20) H := hP.sub [0, 1, 2, 3, 4, 5, 6, 7, 8, 9, 10, 11, 12, 13, 14, 15, 16, 17] rfl
      have hD : va_D A (W_X7_odds cyI cyJ cyO h_o a_o_sets a_o_ringFar a_o_ringTone a_o_currents a_o_warmths a_o_depths a_o_tape a_o_readFar a_o_readTone a_o_readSea a_o_code a_o_cellAt a_o_courseAt a_o_paceAt a_o_turnsAt a_o_slowAt a_o_fuelAt a_o_ringAt a_o_pieceParts a_o_dragCell a_o_dragBy a_o_sums a_o_shares a_o_keptFar a_o_image a_o_lanes a_o_sizes a_o_items a_o_movedItems o_taped o_at o_wrong w_5 w_6 w_7 w_8 o_pieces o_drags w_9 w_10 w_11 o_kept o_sets o_ringFar o_ringTone o_currents o_warmths w_12 w_13 w_14 w_15 w_16 w_17 w_18 w_19 o_pieceParts o_dragCell o_dragBy w_20) := hD.sub [0, 1, 2, 3, 4, 5, 6, 7, 8, 9, 10, 11, 12, 13, 14, 15, 16, 17] (by decide +kernel) rfl
      clear hPc hDc hFc
      refine lv_aload_n hx hb dX7_odds_25 rfl (lv_at hl 0 rfl) ?_
      refine va_get (D := (dC, dI)) (ci := 7) (v := .long w_9) (C := RX7) (T := TX7) (N := 42) hx hb hts hi7 hown hK hP 0 rfl rfl 31 (by decide) hq1 (fun _ h9 => h9) rfl dX7_odds_26 ?_
      refine lv_lconst (v := 0) hx hb dX7_odds_29 (by decide) ?_
      refine W.lcmp hx hb dX7_odds_30 ?_
      refine lv_if_ne (tgt := 40) hx hb dX7_odds_31 (by decide) (fun c_21 => ?_) (fun c_21 => ?_)
      · replace hw := okF hw c_21
        clear c_21
        refine lv_aload_n hx hb dX7_odds_40 rfl (lv_at hl 0 rfl) ?_
        refine va_get (D := (dC, dI)) (ci := 7) (v := .ref a_o_sums) (C := RX7) (T := TX7) (N := 42) hx hb hts hi7 hown hK hP 0 rfl rfl 30 (by decide) hq3 (fun _ h9 => h9) rfl dX7_odds_41 ?_
        refine lv_iload_n hx hb dX7_odds_44 rfl (lv_at hl 1 rfl) ?_
        obtain ⟨h_22, hw⟩ := okC hw
        refine va_lald (i := x1) hx hb hK hP 17 1 rfl rfl h_22 dX7_odds_45 ?_
        refine lv_aload_n hx hb dX7_odds_46 rfl (lv_at hl 0 rfl) ?_
        refine va_get (D := (dC, dI)) (ci := 7) (v := .long w_9) (C := RX7) (T := TX7) (N := 42) hx hb hts hi7 hown hK hP 0 rfl rfl 31 (by decide) hq1 (fun _ h9 => h9) rfl dX7_odds_47 ?_
        refine lv_iload_n hx hb dX7_odds_50 rfl (lv_at hl 2 rfl) ?_
        have hFc := va_free (wc := []) hD hS hA [] rfl
        refine kp_l (va_runS (As := [.long (w_20 x1.toNatClampNeg), .long w_9, .int x2]) (rest := []) ⟨hx, hb, hml, hown, hts⟩ (c_X7_lowest l dC dI cyI cyJ cyO H.size (w_20 x1.toNatClampNeg) w_9 x2 _ (okb1 hw)) (va_cwS 3 hts (gdS (fun w h => List.mem_cons_of_mem _ h) q_1000 q_1001 q_8 q_1002) rfl rfl rfl (by decide +kernel) ⟨Nat.le_of_ble_eq_true rfl, Nat.le_of_ble_eq_true rfl⟩) (kpre zN_ok hK va_P0 va_D0 trivial hS hFc) rfl rfl hl.1 rfl (lv_room (Nat.le_of_ble_eq_true rfl)) dX7_odds_51 ⟨Nat.le_of_ble_eq_true rfl, Nat.le_of_ble_eq_true rfl⟩) hP hD hS hFc (fun r_23 H locs hw hP hS => ?_)
        try dsimp only at hw
        clear hFc
        rw [hQ]
        exact W.lret (v := r_23) hx hb hr (fun t ht hW => ⟨⟨r_23, (w_5, w_6, w_7, w_8, w_9, w_10, w_11, w_12, w_13, w_14, w_15, w_16, w_17, w_18, w_19, w_20), rfl, okS hw, by rw [ht]; exact hP, va_K.moved hW.alike hK, hD⟩, hS.F ht⟩) hS.2.2 dX7_odds_54
      · replace hw := okT hw c_21
        clear c_21
        refine lv_ldc2 (v := (-4)) hx hb hown hq4 dX7_odds_34 ?_
        refine lv_goto (tgt := 54) hx hb dX7_odds_37 (by decide) ?_
        rw [hQ]
        exact W.lret (v := (-4)) hx hb hr (fun t ht hW => ⟨⟨(-4), (w_5, w_6, w_7, w_8, w_9, w_10, w_11, w_12, w_13, w_14, w_15, w_16, w_17, w_18, w_19, w_20), rfl, okS hw, by rw [ht]; exact hP, va_K.moved hW.alike hK, hD⟩, hS.F ht⟩) hS.2.2 dX7_odds_54
    · replace hw := okT hw c_4
      clear c_4
      refine lv_ldc2 (v := (-1)) hx hb hown hq0 dX7_odds_17 ?_
      rw [hQ]
      exact W.lret (v := (-1)) hx hb hr (fun t ht hW => ⟨⟨(-1), (o_level, o_noRings, o_noTones, o_noFuel, o_all, o_noPieces, o_noDrags, o_code, o_cellAt, o_courseAt, o_paceAt, o_turnsAt, o_slowAt, o_fuelAt, o_ringAt, o_sums), rfl, okS hw, by rw [ht]; exact hP, va_K.moved hW.alike hK, hD⟩, hS.F ht⟩) hS.2.2 dX7_odds_20
/-! ===== X7_where ===== -/
theorem dX7_where_0 : decode cX7_where 0 = .ok (.iload_n 1, 1) := by decide +kernel
theorem dX7_where_1 : decode cX7_where 1 = .ok (.i2l, 1) := by decide +kernel
theorem dX7_where_2 : decode cX7_where 2 = .ok (.lconst 0, 1) := by decide +kernel
theorem dX7_where_3 : decode cX7_where 3 = .ok (.ldc2_w 111, 3) := by decide +kernel
theorem dX7_where_6 : decode cX7_where 6 = .ok (.invokestatic 100, 3) := by decide +kernel
theorem dX7_where_9 : decode cX7_where 9 = .ok (.ifCond .ne 5, 3) := by decide +kernel
theorem dX7_where_12 : decode cX7_where 12 = .ok (.iconst (-1), 1) := by decide +kernel
theorem dX7_where_13 : decode cX7_where 13 = .ok (.ireturn, 1) := by decide +kernel
theorem dX7_where_14 : decode cX7_where 14 = .ok (.aload_n 0, 1) := by decide +kernel
theorem dX7_where_15 : decode cX7_where 15 = .ok (.invokevirtual 234, 3) := by decide +kernel
theorem dX7_where_18 : decode cX7_where 18 = .ok (.iconst 0, 1) := by decide +kernel
theorem dX7_where_19 : decode cX7_where 19 = .ok (.istore_n 2, 1) := by decide +kernel
theorem dX7_where_20 : decode cX7_where 20 = .ok (.iconst 0, 1) := by decide +kernel
theorem dX7_where_21 : decode cX7_where 21 = .ok (.istore_n 3, 1) := by decide +kernel
theorem dX7_where_22 : decode cX7_where 22 = .ok (.iload_n 3, 1) := by decide +kernel
theorem dX7_where_23 : decode cX7_where 23 = .ok (.bipush 10, 2) := by decide +kernel
theorem dX7_where_25 : decode cX7_where 25 = .ok (.if_icmp .ge 35, 3) := by decide +kernel
theorem dX7_where_28 : decode cX7_where 28 = .ok (.iload_n 2, 1) := by decide +kernel
theorem dX7_where_29 : decode cX7_where 29 = .ok (.aload_n 0, 1) := by decide +kernel
theorem dX7_where_30 : decode cX7_where 30 = .ok (.getfield 73, 3) := by decide +kernel
theorem dX7_where_33 : decode cX7_where 33 = .ok (.bipush 10, 2) := by decide +kernel
theorem dX7_where_35 : decode cX7_where 35 = .ok (.iload_n 1, 1) := by decide +kernel
theorem dX7_where_36 : decode cX7_where 36 = .ok (.imul, 1) := by decide +kernel
theorem dX7_where_37 : decode cX7_where 37 = .ok (.iload_n 3, 1) := by decide +kernel
theorem dX7_where_38 : decode cX7_where 38 = .ok (.iadd, 1) := by decide +kernel
theorem dX7_where_39 : decode cX7_where 39 = .ok (.laload, 1) := by decide +kernel
theorem dX7_where_40 : decode cX7_where 40 = .ok (.lconst 0, 1) := by decide +kernel
theorem dX7_where_41 : decode cX7_where 41 = .ok (.lcmp, 1) := by decide +kernel
theorem dX7_where_42 : decode cX7_where 42 = .ok (.ifCond .le 9, 3) := by decide +kernel
theorem dX7_where_45 : decode cX7_where 45 = .ok (.iconst 1, 1) := by decide +kernel
theorem dX7_where_46 : decode cX7_where 46 = .ok (.iload_n 3, 1) := by decide +kernel
theorem dX7_where_47 : decode cX7_where 47 = .ok (.ishl, 1) := by decide +kernel
theorem dX7_where_48 : decode cX7_where 48 = .ok (.goto 4, 3) := by decide +kernel
theorem dX7_where_51 : decode cX7_where 51 = .ok (.iconst 0, 1) := by decide +kernel
theorem dX7_where_52 : decode cX7_where 52 = .ok (.ior, 1) := by decide +kernel
theorem dX7_where_53 : decode cX7_where 53 = .ok (.istore_n 2, 1) := by decide +kernel
theorem dX7_where_54 : decode cX7_where 54 = .ok (.iinc 3 1, 3) := by decide +kernel
theorem dX7_where_57 : decode cX7_where 57 = .ok (.goto (-35), 3) := by decide +kernel
theorem dX7_where_60 : decode cX7_where 60 = .ok (.iload_n 2, 1) := by decide +kernel
theorem dX7_where_61 : decode cX7_where 61 = .ok (.ireturn, 1) := by decide +kernel
abbrev W_X7_where (cyI cyJ cyO : ClassId) (h_o a_o_sets a_o_ringFar a_o_ringTone a_o_currents a_o_warmths a_o_depths a_o_tape a_o_readFar a_o_readTone a_o_readSea a_o_code a_o_cellAt a_o_courseAt a_o_paceAt a_o_turnsAt a_o_slowAt a_o_fuelAt a_o_ringAt a_o_pieceParts a_o_dragCell a_o_dragBy a_o_sums a_o_shares a_o_keptFar a_o_image a_o_lanes a_o_sizes a_o_items a_o_movedItems : Nat) (o_taped : Int32) (o_at : Int32) (o_wrong : Int32) (o_level : Int32) (o_noRings : Int32) (o_noTones : Int32) (o_noFuel : Int32) (o_pieces : Int32) (o_drags : Int32) (o_all : Int64) (o_noPieces : Int32) (o_noDrags : Int32) (o_kept : Int32) (o_sets : Nat → Int32) (o_ringFar : Nat → Int32) (o_ringTone : Nat → Int32) (o_currents : Nat → Int32) (o_warmths : Nat → Int32) (o_code : Nat → Int32) (o_cellAt : Nat → Int32) (o_courseAt : Nat → Int32) (o_paceAt : Nat → Int32) (o_turnsAt : Nat → Int32) (o_slowAt : Nat → Int32) (o_fuelAt : Nat → Int32) (o_ringAt : Nat → Int32) (o_pieceParts : Nat → Int32) (o_dragCell : Nat → Int32) (o_dragBy : Nat → Int32) (o_sums : Nat → Int64) : va_W := [(h_o, .inr (7, [.ref a_o_sets, .ref a_o_ringFar, .ref a_o_ringTone, .ref a_o_currents, .ref a_o_warmths, .ref a_o_depths, .ref a_o_tape, .int o_taped, .int o_at, .int o_wrong, .ref a_o_readFar, .ref a_o_readTone, .ref a_o_readSea, .ref a_o_code, .ref a_o_cellAt, .ref a_o_courseAt, .ref a_o_paceAt, .ref a_o_turnsAt, .ref a_o_slowAt, .ref a_o_fuelAt, .ref a_o_ringAt, .int o_level, .int o_noRings, .int o_noTones, .int o_noFuel, .int o_pieces, .ref a_o_pieceParts, .int o_drags, .ref a_o_dragCell, .ref a_o_dragBy, .ref a_o_sums, .long o_all, .int o_noPieces, .int o_noDrags, .ref a_o_shares, .ref a_o_keptFar, .ref a_o_image, .int o_kept, .ref a_o_lanes, .ref a_o_sizes, .ref a_o_items, .ref a_o_movedItems])), (a_o_sets, .inl (cyI, 8, .inl o_sets)), (a_o_ringFar, .inl (cyI, 7, .inl o_ringFar)), (a_o_ringTone, .inl (cyI, 7, .inl o_ringTone)), (a_o_currents, .inl (cyI, 200, .inl o_currents)), (a_o_warmths, .inl (cyI, 200, .inl o_warmths)), (a_o_code, .inl (cyI, 7, .inl o_code)), (a_o_cellAt, .inl (cyI, 7, .inl o_cellAt)), (a_o_courseAt, .inl (cyI, 7, .inl o_courseAt)), (a_o_paceAt, .inl (cyI, 7, .inl o_paceAt)), (a_o_turnsAt, .inl (cyI, 7, .inl o_turnsAt)), (a_o_slowAt, .inl (cyI, 7, .inl o_slowAt)), (a_o_fuelAt, .inl (cyI, 7, .inl o_fuelAt)), (a_o_ringAt, .inl (cyI, 7, .inl o_ringAt)), (a_o_pieceParts, .inl (cyI, 20, .inl o_pieceParts)), (a_o_dragCell, .inl (cyI, 6, .inl o_dragCell)), (a_o_dragBy, .inl (cyI, 6, .inl o_dragBy)), (a_o_sums, .inl (cyJ, 100, .inr (.inl o_sums)))]
def f_X7_where_B52 (k22 : Int32 → Int32 → Int32 → Int32 → Int32 → Int32 → Int32 → Int32 → Int32 → Int64 → Int32 → Int32 → (Nat → Int32) → (Nat → Int32) → (Nat → Int32) → (Nat → Int32) → (Nat → Int32) → (Nat → Int32) → (Nat → Int32) → (Nat → Int32) → (Nat → Int32) → (Nat → Int32) → (Nat → Int32) → (Nat → Int32) → (Nat → Int32) → (Nat → Int32) → (Nat → Int32) → (Nat → Int32) → (Nat → Int64) → Option (Int32 × Int32 × Int32 × Int32 × Int32 × Int64 × Int32 × Int32 × (Nat → Int32) × (Nat → Int32) × (Nat → Int32) × (Nat → Int32) × (Nat → Int32) × (Nat → Int32) × (Nat → Int32) × (Nat → Int32) × (Nat → Int64))) (v1 : Int32) (v3 : Int32) (y0 : Int32) (y1 : Int32) (o_level : Int32) (o_noRings : Int32) (o_noTones : Int32) (o_noFuel : Int32) (o_pieces : Int32) (o_drags : Int32) (o_all : Int64) (o_noPieces : Int32) (o_noDrags : Int32) (o_sets : Nat → Int32) (o_ringFar : Nat → Int32) (o_ringTone : Nat → Int32) (o_currents : Nat → Int32) (o_warmths : Nat → Int32) (o_code : Nat → Int32) (o_cellAt : Nat → Int32) (o_courseAt : Nat → Int32) (o_paceAt : Nat → Int32) (o_turnsAt : Nat → Int32) (o_slowAt : Nat → Int32) (o_fuelAt : Nat → Int32) (o_ringAt : Nat → Int32) (o_pieceParts : Nat → Int32) (o_dragCell : Nat → Int32) (o_dragBy : Nat → Int32) (o_sums : Nat → Int64) : Option (Int32 × Int32 × Int32 × Int32 × Int32 × Int64 × Int32 × Int32 × (Nat → Int32) × (Nat → Int32) × (Nat → Int32) × (Nat → Int32) × (Nat → Int32) × (Nat → Int32) × (Nat → Int32) × (Nat → Int32) × (Nat → Int64)) :=
  nm (y1 ||| y0) fun x_1 =>
  nm (v3 + 1) fun x_2 =>
  k22 v1 x_1 x_2 o_level o_noRings o_noTones o_noFuel o_pieces o_drags o_all o_noPieces o_noDrags o_sets o_ringFar o_ringTone o_currents o_warmths o_code o_cellAt o_courseAt o_paceAt o_turnsAt o_slowAt o_fuelAt o_ringAt o_pieceParts o_dragCell o_dragBy o_sums
def f_X7_where_L22b (k22 : Int32 → Int32 → Int32 → Int32 → Int32 → Int32 → Int32 → Int32 → Int32 → Int64 → Int32 → Int32 → (Nat → Int32) → (Nat → Int32) → (Nat → Int32) → (Nat → Int32) → (Nat → Int32) → (Nat → Int32) → (Nat → Int32) → (Nat → Int32) → (Nat → Int32) → (Nat → Int32) → (Nat → Int32) → (Nat → Int32) → (Nat → Int32) → (Nat → Int32) → (Nat → Int32) → (Nat → Int32) → (Nat → Int64) → Option (Int32 × Int32 × Int32 × Int32 × Int32 × Int64 × Int32 × Int32 × (Nat → Int32) × (Nat → Int32) × (Nat → Int32) × (Nat → Int32) × (Nat → Int32) × (Nat → Int32) × (Nat → Int32) × (Nat → Int32) × (Nat → Int64))) (v1 : Int32) (v2 : Int32) (v3 : Int32) (o_level : Int32) (o_noRings : Int32) (o_noTones : Int32) (o_noFuel : Int32) (o_pieces : Int32) (o_drags : Int32) (o_all : Int64) (o_noPieces : Int32) (o_noDrags : Int32) (o_sets : Nat → Int32) (o_ringFar : Nat → Int32) (o_ringTone : Nat → Int32) (o_currents : Nat → Int32) (o_warmths : Nat → Int32) (o_code : Nat → Int32) (o_cellAt : Nat → Int32) (o_courseAt : Nat → Int32) (o_paceAt : Nat → Int32) (o_turnsAt : Nat → Int32) (o_slowAt : Nat → Int32) (o_fuelAt : Nat → Int32) (o_ringAt : Nat → Int32) (o_pieceParts : Nat → Int32) (o_dragCell : Nat → Int32) (o_dragBy : Nat → Int32) (o_sums : Nat → Int64) : Option (Int32 × Int32 × Int32 × Int32 × Int32 × Int64 × Int32 × Int32 × (Nat → Int32) × (Nat → Int32) × (Nat → Int32) × (Nat → Int32) × (Nat → Int32) × (Nat → Int32) × (Nat → Int32) × (Nat → Int32) × (Nat → Int64)) :=
  if 10 ≤ v3 then
    some (v2, o_level, o_noRings, o_noTones, o_noFuel, o_all, o_noPieces, o_noDrags, o_code, o_cellAt, o_courseAt, o_paceAt, o_turnsAt, o_slowAt, o_fuelAt, o_ringAt, o_sums)
  else
    chk (¬ ((10 * v1) + v3 < 0 ∨ 100 ≤ ((10 * v1) + v3).toNatClampNeg)) <|
    if (lg_cmp (o_sums ((10 * v1) + v3).toNatClampNeg) 0) ≤ 0 then
      f_X7_where_B52 k22 v1 v3 0 v2 o_level o_noRings o_noTones o_noFuel o_pieces o_drags o_all o_noPieces o_noDrags o_sets o_ringFar o_ringTone o_currents o_warmths o_code o_cellAt o_courseAt o_paceAt o_turnsAt o_slowAt o_fuelAt o_ringAt o_pieceParts o_dragCell o_dragBy o_sums
    else
      f_X7_where_B52 k22 v1 v3 (1 <<< (v3 &&& 31)) v2 o_level o_noRings o_noTones o_noFuel o_pieces o_drags o_all o_noPieces o_noDrags o_sets o_ringFar o_ringTone o_currents o_warmths o_code o_cellAt o_courseAt o_paceAt o_turnsAt o_slowAt o_fuelAt o_ringAt o_pieceParts o_dragCell o_dragBy o_sums
def f_X7_where_L22 : Nat → Int32 → Int32 → Int32 → Int32 → Int32 → Int32 → Int32 → Int32 → Int32 → Int64 → Int32 → Int32 → (Nat → Int32) → (Nat → Int32) → (Nat → Int32) → (Nat → Int32) → (Nat → Int32) → (Nat → Int32) → (Nat → Int32) → (Nat → Int32) → (Nat → Int32) → (Nat → Int32) → (Nat → Int32) → (Nat → Int32) → (Nat → Int32) → (Nat → Int32) → (Nat → Int32) → (Nat → Int32) → (Nat → Int64) → Option (Int32 × Int32 × Int32 × Int32 × Int32 × Int64 × Int32 × Int32 × (Nat → Int32) × (Nat → Int32) × (Nat → Int32) × (Nat → Int32) × (Nat → Int32) × (Nat → Int32) × (Nat → Int32) × (Nat → Int32) × (Nat → Int64))
  | 0 => fun _ _ _ _ _ _ _ _ _ _ _ _ _ _ _ _ _ _ _ _ _ _ _ _ _ _ _ _ _ => none
  | n + 1 => f_X7_where_L22b (f_X7_where_L22 n)
def f_X7_where (x1 : Int32) (o_level : Int32) (o_noRings : Int32) (o_noTones : Int32) (o_noFuel : Int32) (o_pieces : Int32) (o_drags : Int32) (o_all : Int64) (o_noPieces : Int32) (o_noDrags : Int32) (o_sets : Nat → Int32) (o_ringFar : Nat → Int32) (o_ringTone : Nat → Int32) (o_currents : Nat → Int32) (o_warmths : Nat → Int32) (o_code : Nat → Int32) (o_cellAt : Nat → Int32) (o_courseAt : Nat → Int32) (o_paceAt : Nat → Int32) (o_turnsAt : Nat → Int32) (o_slowAt : Nat → Int32) (o_fuelAt : Nat → Int32) (o_ringAt : Nat → Int32) (o_pieceParts : Nat → Int32) (o_dragCell : Nat → Int32) (o_dragBy : Nat → Int32) (o_sums : Nat → Int64) : Option (Int32 × Int32 × Int32 × Int32 × Int32 × Int64 × Int32 × Int32 × (Nat → Int32) × (Nat → Int32) × (Nat → Int32) × (Nat → Int32) × (Nat → Int32) × (Nat → Int32) × (Nat → Int32) × (Nat → Int32) × (Nat → Int64)) :=
  bd1 (f_X7_in x1.toInt64 0 9) fun r_3 =>
  if r_3 = 0 then
    some ((-1), o_level, o_noRings, o_noTones, o_noFuel, o_all, o_noPieces, o_noDrags, o_code, o_cellAt, o_courseAt, o_paceAt, o_turnsAt, o_slowAt, o_fuelAt, o_ringAt, o_sums)
  else
    bd16 (f_X7_endsAsTold o_level o_noRings o_noTones o_noFuel o_pieces o_drags o_all o_noPieces o_noDrags o_sets o_ringFar o_ringTone o_currents o_warmths o_code o_cellAt o_courseAt o_paceAt o_turnsAt o_slowAt o_fuelAt o_ringAt o_pieceParts o_dragCell o_dragBy o_sums) fun w_4 w_5 w_6 w_7 w_8 w_9 w_10 w_11 w_12 w_13 w_14 w_15 w_16 w_17 w_18 w_19 =>
    f_X7_where_L22 FU x1 0 0 w_4 w_5 w_6 w_7 o_pieces o_drags w_8 w_9 w_10 o_sets o_ringFar o_ringTone o_currents o_warmths w_11 w_12 w_13 w_14 w_15 w_16 w_17 w_18 o_pieceParts o_dragCell o_dragBy w_19
abbrev rm_X7_where : Room := { frames := 6, cells := 0, slots := 0, locals := 148 }
set_option maxRecDepth 100000 in
set_option maxHeartbeats 4000000 in
theorem c_X7_where (l : Launch) (dC : Nat → ClassId) (dI : Nat → Nat → Nat) (cyI cyJ cyO : ClassId) (sz : Nat) (h_o a_o_sets a_o_ringFar a_o_ringTone a_o_currents a_o_warmths a_o_depths a_o_tape a_o_readFar a_o_readTone a_o_readSea a_o_code a_o_cellAt a_o_courseAt a_o_paceAt a_o_turnsAt a_o_slowAt a_o_fuelAt a_o_ringAt a_o_pieceParts a_o_dragCell a_o_dragBy a_o_sums a_o_shares a_o_keptFar a_o_image a_o_lanes a_o_sizes a_o_items a_o_movedItems : Nat) (o_taped : Int32) (o_at : Int32) (o_wrong : Int32) (o_level : Int32) (o_noRings : Int32) (o_noTones : Int32) (o_noFuel : Int32) (o_pieces : Int32) (o_drags : Int32) (o_all : Int64) (o_noPieces : Int32) (o_noDrags : Int32) (o_kept : Int32) (o_sets : Nat → Int32) (o_ringFar : Nat → Int32) (o_ringTone : Nat → Int32) (o_currents : Nat → Int32) (o_warmths : Nat → Int32) (o_code : Nat → Int32) (o_cellAt : Nat → Int32) (o_courseAt : Nat → Int32) (o_paceAt : Nat → Int32) (o_turnsAt : Nat → Int32) (o_slowAt : Nat → Int32) (o_fuelAt : Nat → Int32) (o_ringAt : Nat → Int32) (o_pieceParts : Nat → Int32) (o_dragCell : Nat → Int32) (o_dragBy : Nat → Int32) (o_sums : Nat → Int64) (x1 : Int32) (post : (Int32 × Int32 × Int32 × Int32 × Int32 × Int64 × Int32 × Int32 × (Nat → Int32) × (Nat → Int32) × (Nat → Int32) × (Nat → Int32) × (Nat → Int32) × (Nat → Int32) × (Nat → Int32) × (Nat → Int32) × (Nat → Int64)) → Prop) (hf : okP (f_X7_where x1 o_level o_noRings o_noTones o_noFuel o_pieces o_drags o_all o_noPieces o_noDrags o_sets o_ringFar o_ringTone o_currents o_warmths o_code o_cellAt o_courseAt o_paceAt o_turnsAt o_slowAt o_fuelAt o_ringAt o_pieceParts o_dragCell o_dragBy o_sums) post) : Ci l (dC, dI) (tyL cyI cyJ cyO) yX7_where wsX7_where rm_X7_where [.ref h_o, .int x1] sz (W_X7_where cyI cyJ cyO h_o a_o_sets a_o_ringFar a_o_ringTone a_o_currents a_o_warmths a_o_depths a_o_tape a_o_readFar a_o_readTone a_o_readSea a_o_code a_o_cellAt a_o_courseAt a_o_paceAt a_o_turnsAt a_o_slowAt a_o_fuelAt a_o_ringAt a_o_pieceParts a_o_dragCell a_o_dragBy a_o_sums a_o_shares a_o_keptFar a_o_image a_o_lanes a_o_sizes a_o_items a_o_movedItems o_taped o_at o_wrong o_level o_noRings o_noTones o_noFuel o_pieces o_drags o_all o_noPieces o_noDrags o_kept o_sets o_ringFar o_ringTone o_currents o_warmths o_code o_cellAt o_courseAt o_paceAt o_turnsAt o_slowAt o_fuelAt o_ringAt o_pieceParts o_dragCell o_dragBy o_sums) zN (fun r u => post (r, u)) (fun u => (W_X7_where cyI cyJ cyO h_o a_o_sets a_o_ringFar a_o_ringTone a_o_currents a_o_warmths a_o_depths a_o_tape a_o_readFar a_o_readTone a_o_readSea a_o_code a_o_cellAt a_o_courseAt a_o_paceAt a_o_turnsAt a_o_slowAt a_o_fuelAt a_o_ringAt a_o_pieceParts a_o_dragCell a_o_dragBy a_o_sums a_o_shares a_o_keptFar a_o_image a_o_lanes a_o_sizes a_o_items a_o_movedItems o_taped o_at o_wrong u.1 u.2.1 u.2.2.1 u.2.2.2.1 o_pieces o_drags u.2.2.2.2.1 u.2.2.2.2.2.1 u.2.2.2.2.2.2.1 o_kept o_sets o_ringFar o_ringTone o_currents o_warmths u.2.2.2.2.2.2.2.1 u.2.2.2.2.2.2.2.2.1 u.2.2.2.2.2.2.2.2.2.1 u.2.2.2.2.2.2.2.2.2.2.1 u.2.2.2.2.2.2.2.2.2.2.2.1 u.2.2.2.2.2.2.2.2.2.2.2.2.1 u.2.2.2.2.2.2.2.2.2.2.2.2.2.1 u.2.2.2.2.2.2.2.2.2.2.2.2.2.2.1 o_pieceParts o_dragCell o_dragBy u.2.2.2.2.2.2.2.2.2.2.2.2.2.2.2)) := by
  refine Met.ofW (cc := cX7_where) (maxL := 4) (ret := (some .int)) (by decide) rfl ?_
  intro p e s m args below meth c s₁ B hml hv
  obtain ⟨rfl, hsz, hP, hK, hD0, hZ⟩ := hv
  have hx := B.exec
  have hb := B.bytes
  have hr := B.returns
  have hts := atoms_spec (ws := wsX7_where) B.pre
  have hown : s.vm.findClass RX7 = some m.cls := findClass_of_methodNamed B.named
  have hlocks := B.notSynchronized
  subst hsz
  have hD := hD0.self (sz := s.heap.size)
  generalize hAe : va_A (W_X7_where cyI cyJ cyO h_o a_o_sets a_o_ringFar a_o_ringTone a_o_currents a_o_warmths a_o_depths a_o_tape a_o_readFar a_o_readTone a_o_readSea a_o_code a_o_cellAt a_o_courseAt a_o_paceAt a_o_turnsAt a_o_slowAt a_o_fuelAt a_o_ringAt a_o_pieceParts a_o_dragCell a_o_dragBy a_o_sums a_o_shares a_o_keptFar a_o_image a_o_lanes a_o_sizes a_o_items a_o_movedItems o_taped o_at o_wrong o_level o_noRings o_noTones o_noFuel o_pieces o_drags o_all o_noPieces o_noDrags o_kept o_sets o_ringFar o_ringTone o_currents o_warmths o_code o_cellAt o_courseAt o_paceAt o_turnsAt o_slowAt o_fuelAt o_ringAt o_pieceParts o_dragCell o_dragBy o_sums) s.heap.size = A at hD hZ ⊢
  have hA : ∀ q : Nat, s.heap.size ≤ q → A q := fun q h => by rw [← hAe]; exact Or.inr h
  clear hAe hD0
  have hS : va_S A s.heap s.heap [] := va_S.rf
  have hl := lv_entry ([.ref h_o, .int x1]) (n := 4) (Nat.le_of_ble_eq_true rfl)
  rw [lg_entry_eq]
  generalize (lg_sl ([.ref h_o, .int x1]) ++ List.replicate (4 - (lg_sl ([.ref h_o, .int x1])).length) Slot.unset).toArray = ls at hl ⊢
  have hl : lv_has ls 4 [(0, .ref h_o), (1, .int x1)] := hl
  refine kW (fun Q hQ => ?_)
  have hq0 := hts _ (List.mem_cons_of_mem _ q_736)
  have hi7 : ∀ w ∈ u_ws RX7 TX7 42, w ∈ wsX7_where := fun w h => List.mem_cons_of_mem _ (inX7 w h)
  have hq2 := hts _ (List.mem_cons_of_mem _ q_891)
  have hw := hf
  have w22 : ∀ (n : Nat), ∀ (v1 : Int32) (v2 : Int32) (v3 : Int32) (o_level : Int32) (o_noRings : Int32) (o_noTones : Int32) (o_noFuel : Int32) (o_all : Int64) (o_noPieces : Int32) (o_noDrags : Int32) (o_code : Nat → Int32) (o_cellAt : Nat → Int32) (o_courseAt : Nat → Int32) (o_paceAt : Nat → Int32) (o_turnsAt : Nat → Int32) (o_slowAt : Nat → Int32) (o_fuelAt : Nat → Int32) (o_ringAt : Nat → Int32) (o_sums : Nat → Int64) (H : Heap) (locs : List Loc), va_P (dC, dI) vwCl (W_X7_where cyI cyJ cyO h_o a_o_sets a_o_ringFar a_o_ringTone a_o_currents a_o_warmths a_o_depths a_o_tape a_o_readFar a_o_readTone a_o_readSea a_o_code a_o_cellAt a_o_courseAt a_o_paceAt a_o_turnsAt a_o_slowAt a_o_fuelAt a_o_ringAt a_o_pieceParts a_o_dragCell a_o_dragBy a_o_sums a_o_shares a_o_keptFar a_o_image a_o_lanes a_o_sizes a_o_items a_o_movedItems o_taped o_at o_wrong o_level o_noRings o_noTones o_noFuel o_pieces o_drags o_all o_noPieces o_noDrags o_kept o_sets o_ringFar o_ringTone o_currents o_warmths o_code o_cellAt o_courseAt o_paceAt o_turnsAt o_slowAt o_fuelAt o_ringAt o_pieceParts o_dragCell o_dragBy o_sums) H → va_D A (W_X7_where cyI cyJ cyO h_o a_o_sets a_o_ringFar a_o_ringTone a_o_currents a_o_warmths a_o_depths a_o_tape a_o_readFar a_o_readTone a_o_readSea a_o_code a_o_cellAt a_o_courseAt a_o_paceAt a_o_turnsAt a_o_slowAt a_o_fuelAt a_o_ringAt a_o_pieceParts a_o_dragCell a_o_dragBy a_o_sums a_o_shares a_o_keptFar a_o_image a_o_lanes a_o_sizes a_o_items a_o_movedItems o_taped o_at o_wrong o_level o_noRings o_noTones o_noFuel o_pieces o_drags o_all o_noPieces o_noDrags o_kept o_sets o_ringFar o_ringTone o_currents o_warmths o_code o_cellAt o_courseAt o_paceAt o_turnsAt o_slowAt o_fuelAt o_ringAt o_pieceParts o_dragCell o_dragBy o_sums) → va_S A s.heap H locs → ∀ (ls : Array Slot), lv_has ls 4 [(0, .ref h_o), (1, .int v1), (2, .int v2), (3, .int v3)] → okP (f_X7_where_L22 n v1 v2 v3 o_level o_noRings o_noTones o_noFuel o_pieces o_drags o_all o_noPieces o_noDrags o_sets o_ringFar o_ringTone o_currents o_warmths o_code o_cellAt o_courseAt o_paceAt o_turnsAt o_slowAt o_fuelAt o_ringAt o_pieceParts o_dragCell o_dragBy o_sums) post → W p l e (headSpec wsX7_where rm_X7_where).room s m ([.ref h_o, .int x1] : List Value).toArray below meth c H locs 0 0 Q (F0 m 22 ls []) := by
    intro n
    induction n with
    | zero =>
      intro v1 v2 v3 o_level o_noRings o_noTones o_noFuel o_all o_noPieces o_noDrags o_code o_cellAt o_courseAt o_paceAt o_turnsAt o_slowAt o_fuelAt o_ringAt o_sums H locs hP hD hS ls hl hw
      exact (ok0 hw).elim
    | succ n22 ih22 =>
      have w52 : ∀ (v1 : Int32) (v3 : Int32) (y0 : Int32) (y1 : Int32) (o_level : Int32) (o_noRings : Int32) (o_noTones : Int32) (o_noFuel : Int32) (o_all : Int64) (o_noPieces : Int32) (o_noDrags : Int32) (o_code : Nat → Int32) (o_cellAt : Nat → Int32) (o_courseAt : Nat → Int32) (o_paceAt : Nat → Int32) (o_turnsAt : Nat → Int32) (o_slowAt : Nat → Int32) (o_fuelAt : Nat → Int32) (o_ringAt : Nat → Int32) (o_sums : Nat → Int64) (H : Heap) (locs : List Loc), va_P (dC, dI) vwCl (W_X7_where cyI cyJ cyO h_o a_o_sets a_o_ringFar a_o_ringTone a_o_currents a_o_warmths a_o_depths a_o_tape a_o_readFar a_o_readTone a_o_readSea a_o_code a_o_cellAt a_o_courseAt a_o_paceAt a_o_turnsAt a_o_slowAt a_o_fuelAt a_o_ringAt a_o_pieceParts a_o_dragCell a_o_dragBy a_o_sums a_o_shares a_o_keptFar a_o_image a_o_lanes a_o_sizes a_o_items a_o_movedItems o_taped o_at o_wrong o_level o_noRings o_noTones o_noFuel o_pieces o_drags o_all o_noPieces o_noDrags o_kept o_sets o_ringFar o_ringTone o_currents o_warmths o_code o_cellAt o_courseAt o_paceAt o_turnsAt o_slowAt o_fuelAt o_ringAt o_pieceParts o_dragCell o_dragBy o_sums) H → va_D A (W_X7_where cyI cyJ cyO h_o a_o_sets a_o_ringFar a_o_ringTone a_o_currents a_o_warmths a_o_depths a_o_tape a_o_readFar a_o_readTone a_o_readSea a_o_code a_o_cellAt a_o_courseAt a_o_paceAt a_o_turnsAt a_o_slowAt a_o_fuelAt a_o_ringAt a_o_pieceParts a_o_dragCell a_o_dragBy a_o_sums a_o_shares a_o_keptFar a_o_image a_o_lanes a_o_sizes a_o_items a_o_movedItems o_taped o_at o_wrong o_level o_noRings o_noTones o_noFuel o_pieces o_drags o_all o_noPieces o_noDrags o_kept o_sets o_ringFar o_ringTone o_currents o_warmths o_code o_cellAt o_courseAt o_paceAt o_turnsAt o_slowAt o_fuelAt o_ringAt o_pieceParts o_dragCell o_dragBy o_sums) → va_S A s.heap H locs → ∀ (ls : Array Slot), lv_has ls 4 [(0, .ref h_o), (1, .int v1), (3, .int v3)] → okP (f_X7_where_B52 (f_X7_where_L22 n22) v1 v3 y0 y1 o_level o_noRings o_noTones o_noFuel o_pieces o_drags o_all o_noPieces o_noDrags o_sets o_ringFar o_ringTone o_currents o_warmths o_code o_cellAt o_courseAt o_paceAt o_turnsAt o_slowAt o_fuelAt o_ringAt o_pieceParts o_dragCell o_dragBy o_sums) post → W p l e (headSpec wsX7_where rm_X7_where).room s m ([.ref h_o, .int x1] : List Value).toArray below meth c H locs 0 0 Q (F0 m 52 ls [.int y0, .int y1]) := by
        intro v1 v3 y0 y1 o_level o_noRings o_noTones o_noFuel o_all o_noPieces o_noDrags o_code o_cellAt o_courseAt o_paceAt o_turnsAt o_slowAt o_fuelAt o_ringAt o_sums H locs hP hD hS ls hl hw
        unfold f_X7_where_B52 at hw
        refine lv_ior hx hb dX7_where_52 ?_
        refine lv_topi (fun x_1 ex_1 => ?_)
        replace hw := okN ex_1 hw
        clear ex_1
        refine lv_istore_n (lv' := [(2, .int x_1), (0, .ref h_o), (1, .int v1), (3, .int v3)]) hx hb dX7_where_53 rfl hl (by decide) rfl (fun ls hl => ?_)
        obtain ⟨x_2, ex_2⟩ : ∃ y : Int32, y = v3 + 1 := ⟨_, rfl⟩
        replace hw := okN ex_2 hw
        refine lv_iinc (v := x_2) (lv' := [(3, .int x_2), (2, .int x_1), (0, .ref h_o), (1, .int v1)]) hx hb dX7_where_54 hl (k := 3) rfl (by rw [ex_2]; rfl) (by decide) rfl (fun ls hl => ?_)
        clear ex_2
        refine lv_goto (tgt := 22) hx hb dX7_where_57 (by decide) ?_
        exact ih22 v1 x_1 x_2 o_level o_noRings o_noTones o_noFuel o_all o_noPieces o_noDrags o_code o_cellAt o_courseAt o_paceAt o_turnsAt o_slowAt o_fuelAt o_ringAt o_sums _ _ hP hD hS _ (lv_sub hl [2, 3, 1, 0] rfl) hw
      intro v1 v2 v3 o_level o_noRings o_noTones o_noFuel o_all o_noPieces o_noDrags o_code o_cellAt o_courseAt o_paceAt o_turnsAt o_slowAt o_fuelAt o_ringAt o_sums H locs hP hD hS ls hl hw
      replace hw : okP (f_X7_where_L22b (f_X7_where_L22 n22) v1 v2 v3 o_level o_noRings o_noTones o_noFuel o_pieces o_drags o_all o_noPieces o_noDrags o_sets o_ringFar o_ringTone o_currents o_warmths o_code o_cellAt o_courseAt o_paceAt o_turnsAt o_slowAt o_fuelAt o_ringAt o_pieceParts o_dragCell o_dragBy o_sums) post := hw
      unfold f_X7_where_L22b at hw
      refine lv_iload_n hx hb dX7_where_22 rfl (lv_at hl 3 rfl) ?_
      refine lv_bipush (v := 10) hx hb dX7_where_23 (by decide) ?_
      refine lv_icmp_ge (tgt := 60) hx hb dX7_where_25 (by decide) (fun c_3 => ?_) (fun c_3 => ?_)
      · replace hw := okT hw c_3
        clear c_3
        refine lv_iload_n hx hb dX7_where_60 rfl (lv_at hl 2 rfl) ?_
        rw [hQ]
        exact W.iret (v := v2) hx hb hr (fun t ht hW => ⟨⟨v2, (o_level, o_noRings, o_noTones, o_noFuel, o_all, o_noPieces, o_noDrags, o_code, o_cellAt, o_courseAt, o_paceAt, o_turnsAt, o_slowAt, o_fuelAt, o_ringAt, o_sums), rfl, okS hw, by rw [ht]; exact hP, va_K.moved hW.alike hK, hD⟩, hS.F ht⟩) hS.2.2 dX7_where_61
      · replace hw := okF hw c_3
        clear c_3
        refine lv_iload_n hx hb dX7_where_28 rfl (lv_at hl 2 rfl) ?_
        refine lv_aload_n hx hb dX7_where_29 rfl (lv_at hl 0 rfl) ?_
        refine va_get (D := (dC, dI)) (ci := 7) (v := .ref a_o_sums) (C := RX7) (T := TX7) (N := 42) hx hb hts hi7 hown hK hP 0 rfl rfl 30 (by decide) hq0 (fun _ h9 => h9) rfl dX7_where_30 ?_
        refine lv_bipush (v := 10) hx hb dX7_where_33 (by decide) ?_
        refine lv_iload_n hx hb dX7_where_35 rfl (lv_at hl 1 rfl) ?_
        refine lv_imul hx hb dX7_where_36 ?_
        refine lv_iload_n hx hb dX7_where_37 rfl (lv_at hl 3 rfl) ?_
        refine lv_iadd hx hb dX7_where_38 ?_
        obtain ⟨h_4, hw⟩ := okC hw
        refine va_lald (i := (10 * v1) + v3) hx hb hK hP 17 1 rfl rfl h_4 dX7_where_39 ?_
        refine lv_lconst (v := 0) hx hb dX7_where_40 (by decide) ?_
        refine W.lcmp hx hb dX7_where_41 ?_
        refine lv_if_le (tgt := 51) hx hb dX7_where_42 (by decide) (fun c_5 => ?_) (fun c_5 => ?_)
        · replace hw := okT hw c_5
          clear c_5
          refine lv_iconst (v := 0) hx hb dX7_where_51 (by decide) ?_
          exact w52 v1 v3 0 v2 o_level o_noRings o_noTones o_noFuel o_all o_noPieces o_noDrags o_code o_cellAt o_courseAt o_paceAt o_turnsAt o_slowAt o_fuelAt o_ringAt o_sums _ _ hP hD hS _ (lv_sub hl [0, 1, 3] rfl) hw
        · replace hw := okF hw c_5
          clear c_5
          refine lv_iconst (v := 1) hx hb dX7_where_45 (by decide) ?_
          refine lv_iload_n hx hb dX7_where_46 rfl (lv_at hl 3 rfl) ?_
          refine lv_ishl hx hb dX7_where_47 ?_
          refine lv_goto (tgt := 52) hx hb dX7_where_48 (by decide) ?_
          exact w52 v1 v3 (1 <<< (v3 &&& 31)) v2 o_level o_noRings o_noTones o_noFuel o_all o_noPieces o_noDrags o_code o_cellAt o_courseAt o_paceAt o_turnsAt o_slowAt o_fuelAt o_ringAt o_sums _ _ hP hD hS _ (lv_sub hl [0, 1, 3] rfl) hw
  unfold f_X7_where at hw
  have hP : va_P (dC, dI) vwCl (W_X7_where cyI cyJ cyO h_o a_o_sets a_o_ringFar a_o_ringTone a_o_currents a_o_warmths a_o_depths a_o_tape a_o_readFar a_o_readTone a_o_readSea a_o_code a_o_cellAt a_o_courseAt a_o_paceAt a_o_turnsAt a_o_slowAt a_o_fuelAt a_o_ringAt a_o_pieceParts a_o_dragCell a_o_dragBy a_o_sums a_o_shares a_o_keptFar a_o_image a_o_lanes a_o_sizes a_o_items a_o_movedItems o_taped o_at o_wrong o_level o_noRings o_noTones o_noFuel o_pieces o_drags o_all o_noPieces o_noDrags o_kept o_sets o_ringFar o_ringTone o_currents o_warmths o_code o_cellAt o_courseAt o_paceAt o_turnsAt o_slowAt o_fuelAt o_ringAt o_pieceParts o_dragCell o_dragBy o_sums) s.heap := hP
  obtain ⟨H, hH⟩ : ∃ H, H = s.heap := ⟨_, rfl⟩
  obtain ⟨locs, hlo⟩ : ∃ x : List Loc, x = [] := ⟨_, rfl⟩
  have hP : va_P (dC, dI) vwCl (W_X7_where cyI cyJ cyO h_o a_o_sets a_o_ringFar a_o_ringTone a_o_currents a_o_warmths a_o_depths a_o_tape a_o_readFar a_o_readTone a_o_readSea a_o_code a_o_cellAt a_o_courseAt a_o_paceAt a_o_turnsAt a_o_slowAt a_o_fuelAt a_o_ringAt a_o_pieceParts a_o_dragCell a_o_dragBy a_o_sums a_o_shares a_o_keptFar a_o_image a_o_lanes a_o_sizes a_o_items a_o_movedItems o_taped o_at o_wrong o_level o_noRings o_noTones o_noFuel o_pieces o_drags o_all o_noPieces o_noDrags o_kept o_sets o_ringFar o_ringTone o_currents o_warmths o_code o_cellAt o_courseAt o_paceAt o_turnsAt o_slowAt o_fuelAt o_ringAt o_pieceParts o_dragCell o_dragBy o_sums) H := by rw [hH]; exact hP
  have hS : va_S A s.heap H locs := by rw [hH, hlo]; exact hS
  refine kH hH hlo ?_
  clear hH hlo
  refine lv_iload_n hx hb dX7_where_0 rfl (lv_at hl 1 rfl) ?_
  refine lv_i2l (v := x1.toInt64) hx hb dX7_where_1 rfl ?_
  refine lv_lconst (v := 0) hx hb dX7_where_2 (by decide) ?_
  refine lv_ldc2 (v := 9) hx hb hown hq2 dX7_where_3 ?_
  have hFc := va_free (wc := []) hD hS hA [] rfl
  refine kp_i (va_runS (As := [.long x1.toInt64, .long 0, .long 9]) (rest := []) ⟨hx, hb, hml, hown, hts⟩ (c_X7_in l dC dI cyI cyJ cyO H.size x1.toInt64 0 9 _ (okb1 hw)) (va_cwS 3 hts (gdS (fun w h => List.mem_cons_of_mem _ h) q_838 q_839 q_8 q_840) rfl rfl rfl (by decide +kernel) ⟨Nat.le_of_ble_eq_true rfl, Nat.le_of_ble_eq_true rfl⟩) (kpre zN_ok hK va_P0 va_D0 trivial hS hFc) rfl rfl hl.1 rfl (lv_room (Nat.le_of_ble_eq_true rfl)) dX7_where_6 ⟨Nat.le_of_ble_eq_true rfl, Nat.le_of_ble_eq_true rfl⟩) hP hD hS hFc (fun r_6 H locs hw hP hS => ?_)
  try dsimp only at hw
  clear hFc
  refine lv_if_ne (tgt := 14) hx hb dX7_where_9 (by decide) (fun c_7 => ?_) (fun c_7 => ?_)
  · replace hw := okF hw c_7
    clear c_7
    refine lv_aload_n hx hb dX7_where_14 rfl (lv_at hl 0 rfl) ?_
    have hPc := hP.sub (ws' := (W_X7_endsAsTold cyI cyJ cyO h_o a_o_sets a_o_ringFar a_o_ringTone a_o_currents a_o_warmths a_o_depths a_o_tape a_o_readFar a_o_readTone a_o_readSea a_o_code a_o_cellAt a_o_courseAt a_o_paceAt a_o_turnsAt a_o_slowAt a_o_fuelAt a_o_ringAt a_o_pieceParts a_o_dragCell a_o_dragBy a_o_sums a_o_shares a_o_keptFar a_o_image a_o_lanes a_o_sizes a_o_items a_o_movedItems o_taped o_at o_wrong o_level o_noRings o_noTones o_noFuel o_pieces o_drags o_all o_noPieces o_noDrags o_kept o_sets o_ringFar o_ringTone o_currents o_warmths o_code o_cellAt o_courseAt o_paceAt o_turnsAt o_slowAt o_fuelAt o_ringAt o_pieceParts o_dragCell o_dragBy o_sums)) [0, 1, 2, 3, 4, 5, 6, 7, 8, 9, 10, 11, 12, 13, 14, 15, 16, 17] rfl
    have hDc := hD.sub (ws' := (W_X7_endsAsTold cyI cyJ cyO h_o a_o_sets a_o_ringFar a_o_ringTone a_o_currents a_o_warmths a_o_depths a_o_tape a_o_readFar a_o_readTone a_o_readSea a_o_code a_o_cellAt a_o_courseAt a_o_paceAt a_o_turnsAt a_o_slowAt a_o_fuelAt a_o_ringAt a_o_pieceParts a_o_dragCell a_o_dragBy a_o_sums a_o_shares a_o_keptFar a_o_image a_o_lanes a_o_sizes a_o_items a_o_movedItems o_taped o_at o_wrong o_level o_noRings o_noTones o_noFuel o_pieces o_drags o_all o_noPieces o_noDrags o_kept o_sets o_ringFar o_ringTone o_currents o_warmths o_code o_cellAt o_courseAt o_paceAt o_turnsAt o_slowAt o_fuelAt o_ringAt o_pieceParts o_dragCell o_dragBy o_sums)) [0, 1, 2, 3, 4, 5, 6, 7, 8, 9, 10, 11, 12, 13, 14, 15, 16, 17] (by decide +kernel) rfl
    have hFc := va_free (wc := (W_X7_endsAsTold cyI cyJ cyO h_o a_o_sets a_o_ringFar a_o_ringTone a_o_currents a_o_warmths a_o_depths a_o_tape a_o_readFar a_o_readTone a_o_readSea a_o_code a_o_cellAt a_o_courseAt a_o_paceAt a_o_turnsAt a_o_slowAt a_o_fuelAt a_o_ringAt a_o_pieceParts a_o_dragCell a_o_dragBy a_o_sums a_o_shares a_o_keptFar a_o_image a_o_lanes a_o_sizes a_o_items a_o_movedItems o_taped o_at o_wrong o_level o_noRings o_noTones o_noFuel o_pieces o_drags o_all o_noPieces o_noDrags o_kept o_sets o_ringFar o_ringTone o_currents o_warmths o_code o_cellAt o_courseAt o_paceAt o_turnsAt o_slowAt o_fuelAt o_ringAt o_pieceParts o_dragCell o_dragBy o_sums)) hD hS hA [0, 1, 2, 3, 4, 5, 6, 7, 8, 9, 10, 11, 12, 13, 14, 15, 16, 17] rfl
    refine kc_v (wr := []) (va_runV (As := []) (rest := []) ⟨hx, hb, hml, hown, hts⟩ (c_X7_endsAsTold l dC dI cyI cyJ cyO H.size h_o a_o_sets a_o_ringFar a_o_ringTone a_o_currents a_o_warmths a_o_depths a_o_tape a_o_readFar a_o_readTone a_o_readSea a_o_code a_o_cellAt a_o_courseAt a_o_paceAt a_o_turnsAt a_o_slowAt a_o_fuelAt a_o_ringAt a_o_pieceParts a_o_dragCell a_o_dragBy a_o_sums a_o_shares a_o_keptFar a_o_image a_o_lanes a_o_sizes a_o_items a_o_movedItems o_taped o_at o_wrong o_level o_noRings o_noTones o_noFuel o_pieces o_drags o_all o_noPieces o_noDrags o_kept o_sets o_ringFar o_ringTone o_currents o_warmths o_code o_cellAt o_courseAt o_paceAt o_turnsAt o_slowAt o_fuelAt o_ringAt o_pieceParts o_dragCell o_dragBy o_sums _ (okb16 hw)) (cwV 0 hts (gdV (fun w h => List.mem_cons_of_mem _ h) q_991 q_993 qs_38 q_8 q_994) rfl rfl rfl (by decide +kernel) ⟨Nat.le_of_ble_eq_true rfl, Nat.le_of_ble_eq_true rfl⟩) ⟨(kpre zN_ok hK hPc hDc trivial hS hFc).1, va_recv hK hP (ci := 7) (q0 := 0) rfl rfl, (kpre zN_ok hK hPc hDc trivial hS hFc).2⟩ rfl rfl hl.1 rfl (lv_room (Nat.le_of_ble_eq_true rfl)) dX7_where_15 ⟨Nat.le_of_ble_eq_true rfl, Nat.le_of_ble_eq_true rfl⟩) hP hD hS hFc [0, 1, 2, 3, 4, 5, 6, 7, 8, 9, 10, 11, 12, 13, 14, 15, 16, 17] [] rfl rfl (by decide +kernel) (by decide +kernel) (fun u H locs hw hP hD hS => ?_)
    obtain ⟨w_8, w_9, w_10, w_11, w_12, w_13, w_14, w_15, w_16, w_17, w_18, w_19, w_20, w_21, w_22, w_23⟩ := u
    try dsimp only at hw
    have hP : va_P (dC, dI) vwCl (W_X7_where cyI cyJ cyO h_o a_o_sets a_o_ringFar a_o_ringTone a_o_currents a_o_warmths a_o_depths a_o_tape a_o_readFar a_o_readTone a_o_readSea a_o_code a_o_cellAt a_o_courseAt a_o_paceAt a_o_turnsAt a_o_slowAt a_o_fuelAt a_o_ringAt a_o_pieceParts a_o_dragCell a_o_dragBy a_o_sums a_o_shares a_o_keptFar a_o_image a_o_lanes a_o_sizes a_o_items a_o_movedItems o_taped o_at o_wrong w_8 w_9 w_10 w_11 o_pieces o_drags w_12 w_13 w_14 o_kept o_sets o_ringFar o_ringTone o_currents o_warmths w_15 w_16 w_17 w_18 w_19 w_20 w_21 w_22 o_pieceParts o_dragCell o_dragBy w_23) H := hP.sub [0, 1, 2, 3, 4, 5, 6, 7, 8, 9, 10, 11, 12, 13, 14, 15, 16, 17] rfl
    have hD : va_D A (W_X7_where cyI cyJ cyO h_o a_o_sets a_o_ringFar a_o_ringTone a_o_currents a_o_warmths a_o_depths a_o_tape a_o_readFar a_o_readTone a_o_readSea a_o_code a_o_cellAt a_o_courseAt a_o_paceAt a_o_turnsAt a_o_slowAt a_o_fuelAt a_o_ringAt a_o_pieceParts a_o_dragCell a_o_dragBy a_o_sums a_o_shares a_o_keptFar a_o_image a_o_lanes a_o_sizes a_o_items a_o_movedItems o_taped o_at o_wrong w_8 w_9 w_10 w_11 o_pieces o_drags w_12 w_13 w_14 o_kept o_sets o_ringFar o_ringTone o_currents o_warmths w_15 w_16 w_17 w_18 w_19 w_20 w_21 w_22 o_pieceParts o_dragCell o_dragBy w_23) := hD.sub [0, 1, 2, 3, 4, 5, 6, 7, 8, 9, 10, 11, 12, 13, 14, 15, 16, 17] (by decide +kernel) rfl
    clear hPc hDc hFc
    refine lv_iconst (v := 0) hx hb dX7_where_18 (by decide) ?_
    refine lv_istore_n (lv' := [(2, .int 0), (0, .ref h_o), (1, .int x1)]) hx hb dX7_where_19 rfl hl (by decide) rfl (fun ls hl => ?_)
    refine lv_iconst (v := 0) hx hb dX7_where_20 (by decide) ?_
    refine lv_istore_n (lv' := [(3, .int 0), (2, .int 0), (0, .ref h_o), (1, .int x1)]) hx hb dX7_where_21 rfl hl (by decide) rfl (fun ls hl => ?_)
    exact w22 FU x1 0 0 w_8 w_9 w_10 w_11 w_12 w_13 w_14 w_15 w_16 w_17 w_18 w_19 w_20 w_21 w_22 w_23 _ _ hP hD hS _ (lv_sub hl [2, 3, 1, 0] rfl) hw
  · replace hw := okT hw c_7
    clear c_7
    refine lv_iconst (v := (-1)) hx hb dX7_where_12 (by decide) ?_
    rw [hQ]
    exact W.iret (v := (-1)) hx hb hr (fun t ht hW => ⟨⟨(-1), (o_level, o_noRings, o_noTones, o_noFuel, o_all, o_noPieces, o_noDrags, o_code, o_cellAt, o_courseAt, o_paceAt, o_turnsAt, o_slowAt, o_fuelAt, o_ringAt, o_sums), rfl, okS hw, by rw [ht]; exact hP, va_K.moved hW.alike hK, hD⟩, hS.F ht⟩) hS.2.2 dX7_where_13
